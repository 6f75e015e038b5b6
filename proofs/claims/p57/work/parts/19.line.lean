/-! ===== the line ===== -/
theorem upd_s (g : Nat → Int32) (i : Nat) (v : Int32) : upd g i v i = v := by simp [upd]
theorem upd_n {g : Nat → Int32} {i j : Nat} {v : Int32} (h : j ≠ i) : upd g i v j = g j := by simp [upd, h]
theorem cc_nar (x : Int32) : narrow .char (.int (i2cc x)) = .int (i2cc x) := pk_nc x
def LInv (u : HV) : Prop := (∃ n : Nat, n ≤ 24 ∧ u.1 0 = nI n) ∧ ∀ j, j < 24 → narrow .char (.int (u.2.1 1 j)) = .int (u.2.1 1 j)
theorem LInv.ix {u : HV} (h : LInv u) (c : u.1 0 < 24) : vp_in (u.1 0) 24 := by
  obtain ⟨⟨n, hn, e⟩, -⟩ := h
  rw [e] at c ⊢
  exact vp_in_nI ((nI_ltI (b := 24) (by omega) (by decide)).mp c) (by decide)
def lPut (u : HV) (c : Int32) : HV := if u.1 0 < 24 then (let u1 := hset u 1 (cN (u.1 0)) c; hsc u1 0 (u1.1 0 + 1)) else u
theorem lPut_y {u : HV} {c : Int32} (h : u.1 0 < 24) : lPut u c = hsc (hset u 1 (cN (u.1 0)) c) 0 ((hset u 1 (cN (u.1 0)) c).1 0 + 1) := if_pos h
theorem lPut_n {u : HV} {c : Int32} (h : ¬ u.1 0 < 24) : lPut u c = u := if_neg h
theorem LInv.put {u : HV} (h : LInv u) {c : Int32} (hc : narrow .char (.int c) = .int c) : LInv (lPut u c) := by
  by_cases k : u.1 0 < 24
  · rw [lPut_y k]
    obtain ⟨⟨n, hn, e⟩, h2⟩ := h
    refine ⟨⟨n + 1, ?_, ?_⟩, fun j hj => ?_⟩
    · rw [e] at k
      have := (nI_ltI (b := 24) (by omega) (by decide)).mp k
      omega
    · show u.1 0 + 1 = _
      rw [e]; exact nI_1 n
    · show narrow .char (.int (upd (u.2.1 1) (cN (u.1 0)) c j)) = .int (upd (u.2.1 1) (cN (u.1 0)) c j)
      by_cases q : j = cN (u.1 0)
      · rw [q, upd_s]; exact hc
      · rw [upd_n q]; exact h2 j hj
  · rw [lPut_n k]; exact h
theorem LInv.clr {u : HV} (h : LInv u) : LInv (hsc u 0 0) := ⟨⟨0, by decide, rfl⟩, h.2⟩
abbrev lN1 (u : HV) (n : Int32) : HV := if n < 100 then u else lPut u (i2cc (48 + n / 100))
abbrev lN2 (u : HV) (n : Int32) : HV := if n < 10 then lN1 u n else lPut (lN1 u n) (i2cc (48 + irm (n / 10) 10))
def lNum (u : HV) (n : Int32) : HV := lPut (lN2 u n) (i2cc (48 + irm n 10))
theorem LInv.n1 {u : HV} (h : LInv u) (n : Int32) : LInv (lN1 u n) := by
  unfold lN1; split
  · exact h
  · exact h.put (cc_nar _)
theorem LInv.n2 {u : HV} (h : LInv u) (n : Int32) : LInv (lN2 u n) := by
  unfold lN2; split
  · exact h.n1 n
  · exact (h.n1 n).put (cc_nar _)
theorem LInv.num {u : HV} (h : LInv u) (n : Int32) : LInv (lNum u n) := (h.n2 n).put (cc_nar _)
abbrev LMu (Γ : Gm) (a : Nat → Nat) (v : Option Value) (u' : HV) (M : Hp) : Res → Hp → Prop := fun r M' => r = .inl v ∧ LRep Γ a u' M' ∧ Fr a 2 M M'

set_option maxRecDepth 100000 in
set_option maxHeartbeats 4000000 in
theorem c_X2_clear (l : Launch) (hl : l.stackTraces = false) (Γ : Gm) (M : Hp) (a : Nat → Nat) (u : HV) (hR : LRep Γ a u M) (hi : LInv u) : Ct l Γ yX2_clear cX2_clear 1 none 0 0 0 [.ref (a 0)] M (LMu Γ a none (hsc u 0 0) M) := by
  refine Ct.of hl (by decide) (Nat.le_of_ble_eq_true rfl) rfl ?_
  intro κ e1 e2 hnL hRm X F hlt
  subst e1 e2
  refine g_aload_n X dX2_clear_0 rfl 0 rfl ?_
  refine g_iconst (v := 0) X dX2_clear_1 (by decide) ?_
  refine g_put X dX2_clear_2 (ci := 2) (k := 1) (ty := .int) rfl k147 (by decide) rfl rfl (by decide +kernel) rfl rfl (Nat.le_of_ble_eq_true rfl) (LRep.obj hR) ?_
  refine g_gen (P := fun M9 => LRep κ.Γ a (hsc u 0 0) M9 ∧ Fr a 2 M M9) ⟨LRep.sc hR 0 _ rfl, (Fr.up (by decide))⟩ (fun M1 ⟨hR2, hF3⟩ => ?_)
  exact g_vret X F dX2_clear_5 (by omega) (by omega) ⟨rfl, hR2, hF3⟩
set_option maxRecDepth 100000 in
set_option maxHeartbeats 4000000 in
theorem c_X2_putSign (l : Launch) (hl : l.stackTraces = false) (Γ : Gm) (M : Hp) (a : Nat → Nat) (u : HV) (hR : LRep Γ a u M) (hi : LInv u) (c : Int32) (hc : narrow .char (.int c) = .int c) : Ct l Γ yX2_putSign cX2_putSign 2 none 0 0 0 [.ref (a 0), .int c] M (LMu Γ a none (lPut u c) M) := by
  refine Ct.of hl (by decide) (Nat.le_of_ble_eq_true rfl) rfl ?_
  intro κ e1 e2 hnL hRm X F hlt
  subst e1 e2
  refine g_aload_n X dX2_putSign_0 rfl 0 rfl ?_
  refine g_get X dX2_putSign_1 (ci := 2) (k := 1) (v := .int (u.1 0)) rfl k147 (by decide) rfl (LRep.obj hR) rfl ?_
  refine g_bipush (v := 24) X dX2_putSign_4 (by decide) ?_
  refine g_icmp_ge (tgt := 29) X dX2_putSign_6 (by decide) (fun c1 => ?_) (fun c1 => ?_)
  · exact g_vret X F dX2_putSign_29 (by omega) (by omega) ⟨rfl, by rw [lPut_n (Int32.not_lt.mpr c1)]; exact hR, Fr.rf⟩
  · have vx := hi.ix (Int32.not_le.mp c1)
    refine g_aload_n X dX2_putSign_9 rfl 0 rfl ?_
    refine g_get X dX2_putSign_10 (ci := 2) (k := 0) (v := .ref (a 1)) rfl k145 (by decide) rfl (LRep.obj hR) rfl ?_
    refine g_aload_n X dX2_putSign_13 rfl 0 rfl ?_
    refine g_get X dX2_putSign_14 (ci := 2) (k := 1) (v := .int (u.1 0)) rfl k147 (by decide) rfl (LRep.obj hR) rfl ?_
    refine g_iload_n X dX2_putSign_17 rfl 1 rfl ?_
    refine g_castore X dX2_putSign_18 (LRep.signs hR) vx hc ?_
    refine g_gen (P := fun M9 => LRep κ.Γ a (hset u 1 (cN (u.1 0)) c) M9 ∧ Fr a 2 M M9) ⟨LRep.sg hR _, (Fr.up (by decide))⟩ (fun M2 ⟨hR3, hF4⟩ => ?_)
    refine g_aload_n X dX2_putSign_19 rfl 0 rfl ?_
    refine g_dup X dX2_putSign_20 rfl ?_
    refine g_get X dX2_putSign_21 (ci := 2) (k := 1) (v := .int ((hset u 1 (cN (u.1 0)) c).1 0)) rfl k147 (by decide) rfl (LRep.obj hR3) rfl ?_
    refine g_iconst (v := 1) X dX2_putSign_24 (by decide) ?_
    refine g_iadd X dX2_putSign_25 ?_
    refine g_put X dX2_putSign_26 (ci := 2) (k := 1) (ty := .int) rfl k147 (by decide) rfl rfl (by decide +kernel) rfl rfl (Nat.le_of_ble_eq_true rfl) (LRep.obj hR3) ?_
    refine g_gen (P := fun M9 => LRep κ.Γ a (hsc (hset u 1 (cN (u.1 0)) c) 0 (((hset u 1 (cN (u.1 0)) c).1 0) + 1)) M9 ∧ Fr a 2 M M9) ⟨LRep.sc hR3 0 _ rfl, Fr.tr hF4 (Fr.up (by decide))⟩ (fun M5 ⟨hR6, hF7⟩ => ?_)
    exact g_vret X F dX2_putSign_29 (by omega) (by omega) ⟨rfl, by rw [lPut_y (Int32.not_le.mp c1)]; exact hR6, hF7⟩
set_option maxRecDepth 100000 in
set_option maxHeartbeats 4000000 in
theorem c_X2_putNumber (l : Launch) (hl : l.stackTraces = false) (Γ : Gm) (M : Hp) (a : Nat → Nat) (u : HV) (hR : LRep Γ a u M) (hi : LInv u) (n : Int32) : Ct l Γ yX2_putNumber cX2_putNumber 2 none 1 0 0 [.ref (a 0), .int n] M (LMu Γ a none (lNum u n) M) := by
  refine Ct.of hl (by decide) (Nat.le_of_ble_eq_true rfl) rfl ?_
  intro κ e1 e2 hnL hRm X F hlt
  subst e1 e2
  refine g_iload_n X dX2_putNumber_0 rfl 1 rfl ?_
  refine g_bipush (v := 100) X dX2_putNumber_1 (by decide) ?_
  refine g_icmp_lt (tgt := 18) X dX2_putNumber_3 (by decide) (fun c1 => ?_) (fun c1 => ?_)
  · have hR7 : LRep κ.Γ a (lN1 u n) M := by rw [show lN1 u n = u from if_pos c1]; exact hR
    have hF7 : Fr a 2 M M := Fr.rf
    have hI7 := hi.n1 n
    refine g_iload_n X dX2_putNumber_18 rfl 1 rfl ?_
    refine g_bipush (v := 10) X dX2_putNumber_19 (by decide) ?_
    refine g_icmp_lt (tgt := 39) X dX2_putNumber_21 (by decide) (fun c2 => ?_) (fun c2 => ?_)
    · have hR8 : LRep κ.Γ a (lN2 u n) M := by rw [show lN2 u n = lN1 u n from if_pos c2]; exact hR7
      have hI8 := hi.n2 n
      refine g_aload_n X dX2_putNumber_39 rfl 0 rfl ?_
      refine g_bipush (v := 48) X dX2_putNumber_40 (by decide) ?_
      refine g_iload_n X dX2_putNumber_42 rfl 1 rfl ?_
      refine g_bipush (v := 10) X dX2_putNumber_43 (by decide) ?_
      refine g_irem X dX2_putNumber_45 (by decide) ?_
      refine g_iadd X dX2_putNumber_46 ?_
      refine g_i2c X dX2_putNumber_47 ?_
      refine g_callV (As := [.int (i2cc (48 + (irm n 10)))]) (ci := 2) X dX2_putNumber_48 (c_X2_putSign κ.l hl κ.Γ M a (lN2 u n) hR8 hI8 (i2cc (48 + (irm n 10))) (cc_nar _)) k1014 k1015 k1016 k4 k1017 rfl (LRep.obj hR8) ⟨rfl, by decide, by decide, (show (parseMethodDescriptor yX2_putSign.desc).map (fun d => d.parameters.length) = some 1 by decide +kernel)⟩ rfl (Nat.le_of_ble_eq_true rfl) (by rw [hRm]; decide) (by rw [hRm]; exact ⟨Nat.le_of_ble_eq_true rfl, Nat.le_of_ble_eq_true rfl⟩) (fun v2 M2 h2 => ?_) (fun _ _ h9 => by cases h9.1)
      obtain ⟨e2, hR2, hF2⟩ := h2
      cases e2
      have hF2 := Fr.tr hF7 hF2
      have hI4 : LInv (lPut (lN2 u n) (i2cc (48 + (irm n 10)))) := LInv.put hI8 (cc_nar _)
      exact g_vret X F dX2_putNumber_51 (by omega) (by omega) ⟨rfl, hR2, hF2⟩
    · refine g_aload_n X dX2_putNumber_24 rfl 0 rfl ?_
      refine g_bipush (v := 48) X dX2_putNumber_25 (by decide) ?_
      refine g_iload_n X dX2_putNumber_27 rfl 1 rfl ?_
      refine g_bipush (v := 10) X dX2_putNumber_28 (by decide) ?_
      refine g_idiv X dX2_putNumber_30 (by decide) ?_
      refine g_bipush (v := 10) X dX2_putNumber_31 (by decide) ?_
      refine g_irem X dX2_putNumber_33 (by decide) ?_
      refine g_iadd X dX2_putNumber_34 ?_
      refine g_i2c X dX2_putNumber_35 ?_
      refine g_callV (As := [.int (i2cc (48 + (irm (n / 10) 10)))]) (ci := 2) X dX2_putNumber_36 (c_X2_putSign κ.l hl κ.Γ M a (lN1 u n) hR7 hI7 (i2cc (48 + (irm (n / 10) 10))) (cc_nar _)) k1014 k1015 k1016 k4 k1017 rfl (LRep.obj hR7) ⟨rfl, by decide, by decide, (show (parseMethodDescriptor yX2_putSign.desc).map (fun d => d.parameters.length) = some 1 by decide +kernel)⟩ rfl (Nat.le_of_ble_eq_true rfl) (by rw [hRm]; decide) (by rw [hRm]; exact ⟨Nat.le_of_ble_eq_true rfl, Nat.le_of_ble_eq_true rfl⟩) (fun v4 M4 h4 => ?_) (fun _ _ h9 => by cases h9.1)
      obtain ⟨e4, hR4, hF4⟩ := h4
      cases e4
      have hF4 := Fr.tr hF7 hF4
      have hI6 : LInv (lPut (lN1 u n) (i2cc (48 + (irm (n / 10) 10)))) := LInv.put hI7 (cc_nar _)
      have hR8 : LRep κ.Γ a (lN2 u n) M4 := by rw [show lN2 u n = lPut (lN1 u n) (i2cc (48 + (irm (n / 10) 10))) from if_neg c2]; exact hR4
      have hI8 := hi.n2 n
      refine g_aload_n X dX2_putNumber_39 rfl 0 rfl ?_
      refine g_bipush (v := 48) X dX2_putNumber_40 (by decide) ?_
      refine g_iload_n X dX2_putNumber_42 rfl 1 rfl ?_
      refine g_bipush (v := 10) X dX2_putNumber_43 (by decide) ?_
      refine g_irem X dX2_putNumber_45 (by decide) ?_
      refine g_iadd X dX2_putNumber_46 ?_
      refine g_i2c X dX2_putNumber_47 ?_
      refine g_callV (As := [.int (i2cc (48 + (irm n 10)))]) (ci := 2) X dX2_putNumber_48 (c_X2_putSign κ.l hl κ.Γ M4 a (lN2 u n) hR8 hI8 (i2cc (48 + (irm n 10))) (cc_nar _)) k1014 k1015 k1016 k4 k1017 rfl (LRep.obj hR8) ⟨rfl, by decide, by decide, (show (parseMethodDescriptor yX2_putSign.desc).map (fun d => d.parameters.length) = some 1 by decide +kernel)⟩ rfl (Nat.le_of_ble_eq_true rfl) (by rw [hRm]; decide) (by rw [hRm]; exact ⟨Nat.le_of_ble_eq_true rfl, Nat.le_of_ble_eq_true rfl⟩) (fun v6 M6 h6 => ?_) (fun _ _ h9 => by cases h9.1)
      obtain ⟨e6, hR6, hF6⟩ := h6
      cases e6
      have hF6 := Fr.tr hF4 hF6
      have hI8 : LInv (lPut (lN2 u n) (i2cc (48 + (irm n 10)))) := LInv.put hI8 (cc_nar _)
      exact g_vret X F dX2_putNumber_51 (by omega) (by omega) ⟨rfl, hR6, hF6⟩
  · refine g_aload_n X dX2_putNumber_6 rfl 0 rfl ?_
    refine g_bipush (v := 48) X dX2_putNumber_7 (by decide) ?_
    refine g_iload_n X dX2_putNumber_9 rfl 1 rfl ?_
    refine g_bipush (v := 100) X dX2_putNumber_10 (by decide) ?_
    refine g_idiv X dX2_putNumber_12 (by decide) ?_
    refine g_iadd X dX2_putNumber_13 ?_
    refine g_i2c X dX2_putNumber_14 ?_
    refine g_callV (As := [.int (i2cc (48 + (n / 100)))]) (ci := 2) X dX2_putNumber_15 (c_X2_putSign κ.l hl κ.Γ M a u hR hi (i2cc (48 + (n / 100))) (cc_nar _)) k1014 k1015 k1016 k4 k1017 rfl (LRep.obj hR) ⟨rfl, by decide, by decide, (show (parseMethodDescriptor yX2_putSign.desc).map (fun d => d.parameters.length) = some 1 by decide +kernel)⟩ rfl (Nat.le_of_ble_eq_true rfl) (by rw [hRm]; decide) (by rw [hRm]; exact ⟨Nat.le_of_ble_eq_true rfl, Nat.le_of_ble_eq_true rfl⟩) (fun v8 M8 h8 => ?_) (fun _ _ h9 => by cases h9.1)
    obtain ⟨e8, hR8, hF8⟩ := h8
    cases e8
    have hI10 : LInv (lPut u (i2cc (48 + (n / 100)))) := LInv.put hi (cc_nar _)
    have hR7 : LRep κ.Γ a (lN1 u n) M8 := by rw [show lN1 u n = _ from if_neg c1]; exact hR8
    have hF7 : Fr a 2 M M8 := hF8
    have hI7 := hi.n1 n
    refine g_iload_n X dX2_putNumber_18 rfl 1 rfl ?_
    refine g_bipush (v := 10) X dX2_putNumber_19 (by decide) ?_
    refine g_icmp_lt (tgt := 39) X dX2_putNumber_21 (by decide) (fun c11 => ?_) (fun c11 => ?_)
    · have hR8 : LRep κ.Γ a (lN2 u n) M8 := by rw [show lN2 u n = lN1 u n from if_pos c11]; exact hR7
      have hI8 := hi.n2 n
      refine g_aload_n X dX2_putNumber_39 rfl 0 rfl ?_
      refine g_bipush (v := 48) X dX2_putNumber_40 (by decide) ?_
      refine g_iload_n X dX2_putNumber_42 rfl 1 rfl ?_
      refine g_bipush (v := 10) X dX2_putNumber_43 (by decide) ?_
      refine g_irem X dX2_putNumber_45 (by decide) ?_
      refine g_iadd X dX2_putNumber_46 ?_
      refine g_i2c X dX2_putNumber_47 ?_
      refine g_callV (As := [.int (i2cc (48 + (irm n 10)))]) (ci := 2) X dX2_putNumber_48 (c_X2_putSign κ.l hl κ.Γ M8 a (lN2 u n) hR8 hI8 (i2cc (48 + (irm n 10))) (cc_nar _)) k1014 k1015 k1016 k4 k1017 rfl (LRep.obj hR8) ⟨rfl, by decide, by decide, (show (parseMethodDescriptor yX2_putSign.desc).map (fun d => d.parameters.length) = some 1 by decide +kernel)⟩ rfl (Nat.le_of_ble_eq_true rfl) (by rw [hRm]; decide) (by rw [hRm]; exact ⟨Nat.le_of_ble_eq_true rfl, Nat.le_of_ble_eq_true rfl⟩) (fun v11 M11 h11 => ?_) (fun _ _ h9 => by cases h9.1)
      obtain ⟨e11, hR11, hF11⟩ := h11
      cases e11
      have hF11 := Fr.tr hF7 hF11
      have hI13 : LInv (lPut (lN2 u n) (i2cc (48 + (irm n 10)))) := LInv.put hI8 (cc_nar _)
      exact g_vret X F dX2_putNumber_51 (by omega) (by omega) ⟨rfl, hR11, hF11⟩
    · refine g_aload_n X dX2_putNumber_24 rfl 0 rfl ?_
      refine g_bipush (v := 48) X dX2_putNumber_25 (by decide) ?_
      refine g_iload_n X dX2_putNumber_27 rfl 1 rfl ?_
      refine g_bipush (v := 10) X dX2_putNumber_28 (by decide) ?_
      refine g_idiv X dX2_putNumber_30 (by decide) ?_
      refine g_bipush (v := 10) X dX2_putNumber_31 (by decide) ?_
      refine g_irem X dX2_putNumber_33 (by decide) ?_
      refine g_iadd X dX2_putNumber_34 ?_
      refine g_i2c X dX2_putNumber_35 ?_
      refine g_callV (As := [.int (i2cc (48 + (irm (n / 10) 10)))]) (ci := 2) X dX2_putNumber_36 (c_X2_putSign κ.l hl κ.Γ M8 a (lN1 u n) hR7 hI7 (i2cc (48 + (irm (n / 10) 10))) (cc_nar _)) k1014 k1015 k1016 k4 k1017 rfl (LRep.obj hR7) ⟨rfl, by decide, by decide, (show (parseMethodDescriptor yX2_putSign.desc).map (fun d => d.parameters.length) = some 1 by decide +kernel)⟩ rfl (Nat.le_of_ble_eq_true rfl) (by rw [hRm]; decide) (by rw [hRm]; exact ⟨Nat.le_of_ble_eq_true rfl, Nat.le_of_ble_eq_true rfl⟩) (fun v13 M13 h13 => ?_) (fun _ _ h9 => by cases h9.1)
      obtain ⟨e13, hR13, hF13⟩ := h13
      cases e13
      have hF13 := Fr.tr hF7 hF13
      have hI15 : LInv (lPut (lN1 u n) (i2cc (48 + (irm (n / 10) 10)))) := LInv.put hI7 (cc_nar _)
      have hR8 : LRep κ.Γ a (lN2 u n) M13 := by rw [show lN2 u n = lPut (lN1 u n) (i2cc (48 + (irm (n / 10) 10))) from if_neg c11]; exact hR13
      have hI8 := hi.n2 n
      refine g_aload_n X dX2_putNumber_39 rfl 0 rfl ?_
      refine g_bipush (v := 48) X dX2_putNumber_40 (by decide) ?_
      refine g_iload_n X dX2_putNumber_42 rfl 1 rfl ?_
      refine g_bipush (v := 10) X dX2_putNumber_43 (by decide) ?_
      refine g_irem X dX2_putNumber_45 (by decide) ?_
      refine g_iadd X dX2_putNumber_46 ?_
      refine g_i2c X dX2_putNumber_47 ?_
      refine g_callV (As := [.int (i2cc (48 + (irm n 10)))]) (ci := 2) X dX2_putNumber_48 (c_X2_putSign κ.l hl κ.Γ M13 a (lN2 u n) hR8 hI8 (i2cc (48 + (irm n 10))) (cc_nar _)) k1014 k1015 k1016 k4 k1017 rfl (LRep.obj hR8) ⟨rfl, by decide, by decide, (show (parseMethodDescriptor yX2_putSign.desc).map (fun d => d.parameters.length) = some 1 by decide +kernel)⟩ rfl (Nat.le_of_ble_eq_true rfl) (by rw [hRm]; decide) (by rw [hRm]; exact ⟨Nat.le_of_ble_eq_true rfl, Nat.le_of_ble_eq_true rfl⟩) (fun v15 M15 h15 => ?_) (fun _ _ h9 => by cases h9.1)
      obtain ⟨e15, hR15, hF15⟩ := h15
      cases e15
      have hF15 := Fr.tr hF13 hF15
      have hI17 : LInv (lPut (lN2 u n) (i2cc (48 + (irm n 10)))) := LInv.put hI8 (cc_nar _)
      exact g_vret X F dX2_putNumber_51 (by omega) (by omega) ⟨rfl, hR15, hF15⟩
