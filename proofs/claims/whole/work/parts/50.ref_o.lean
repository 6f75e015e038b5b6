theorem ch_of {x : Int32} (h : btw x 32 126) : ∃ k : Nat, k ≤ 126 ∧ x = nI k := nI_of2 (n := 126) (M := 126) rfl (Int32.not_lt.mpr (Int32.le_trans (by decide) h.1)) h.2
noncomputable def mAppend (u : HV) (x : Int32) : Res × HV := mG (¬ btw x 32 126) 1 zI u (mG (u.1 5 = 60) 2 zI u (rI (u.1 5 + 1), hsc (hset (u0 u) 14 (cN (u.1 5)) x) 5 (u.1 5 + 1)))
set_option maxRecDepth 100000 in
set_option maxHeartbeats 4000000 in
theorem c_X4_append (l : Launch) (hl : l.stackTraces = false) (Γ : Gm) (M : Hp) (a : Nat → Nat) (u : HV) (hR : MRep Γ a u M) (x : Int32) (hn : ∃ n : Nat, n ≤ 60 ∧ u.1 5 = nI n) : Ct l Γ yX4_append cX4_append 2 (some .int) 1 0 0 [.ref (a 0), .int x] M (MMu Γ a (mAppend u x) M) := by
  refine Ct.of hl (by decide) (Nat.le_of_ble_eq_true rfl) rfl ?_
  intro κ e1 e2 hnL hRm X F hlt
  subst e1 e2
  refine g_aload_n X dX4_append_0 rfl 0 rfl ?_
  refine g_iconst (v := 1) X dX4_append_1 (by decide) ?_
  refine g_iload_n X dX4_append_2 rfl 1 rfl ?_
  refine g_bipush (v := 32) X dX4_append_3 (by decide) ?_
  refine g_bipush (v := 126) X dX4_append_5 (by decide) ?_
  refine g_callS_rd (As := [.int x, .int 32, .int 126]) (v := some (.int (bI (btw x 32 126)))) X dX4_append_7 (c_X4_isBetween κ.l hl κ.Γ M x 32 126) k1161 k1162 k5 k1163 ⟨by decide, by decide, (show (parseMethodDescriptor yX4_isBetween.desc).map (fun d => d.parameters.length) = some 3 by decide +kernel)⟩ rfl (Nat.le_of_ble_eq_true rfl) (by rw [hRm]; decide) (by rw [hRm]; exact ⟨Nat.le_of_ble_eq_true rfl, Nat.le_of_ble_eq_true rfl⟩) ?_
  refine g_ifb_ne (tgt := 17) X dX4_append_10 (by decide) (fun c1 => ?_) (fun c1 => ?_)
  · refine g_iconst (v := 0) X dX4_append_17 (by decide) ?_
    refine g_callV (As := [.int 1, .int 0]) (ci := 4) X dX4_append_18 (c_X4_fails0 κ.l hl κ.Γ M a u hR 1) k1164 k1166 kp15 k5 k1167 rfl (MRep.obj hR) ⟨rfl, by decide, by decide, (show (parseMethodDescriptor yX4_fails.desc).map (fun d => d.parameters.length) = some 2 by decide +kernel)⟩ rfl (Nat.le_of_ble_eq_true rfl) (by rw [hRm]; decide) (by rw [hRm]; exact ⟨Nat.le_of_ble_eq_true rfl, Nat.le_of_ble_eq_true rfl⟩) (fun v2 M2 h2 => ?_) (fun _ _ h9 => by cases h9.1)
    obtain ⟨e2, hR2, hF2⟩ := h2
    have e2 : (Sum.inl v2 : Res) = rI 0 := e2
    cases e2
    refine g_if_ne (tgt := 46) X dX4_append_21 (by decide) (fun c3 => absurd c3 (by decide)) (fun c3 => ?_)
    refine g_aload_n X dX4_append_24 rfl 0 rfl ?_
    refine g_iconst (v := 2) X dX4_append_25 (by decide) ?_
    refine g_aload_n X dX4_append_26 rfl 0 rfl ?_
    refine g_get X dX4_append_27 (ci := 4) (k := 11) (v := .int (u.1 5)) rfl k1100 (by decide) rfl (MRep.obj hR2) rfl ?_
    refine g_bipush (v := 60) X dX4_append_30 (by decide) ?_
    refine g_icmp_ne (tgt := 39) X dX4_append_32 (by decide) (fun c4 => ?_) (fun c4 => ?_)
    · refine g_iconst (v := 0) X dX4_append_39 (by decide) ?_
      refine g_callV (As := [.int 2, .int 0]) (ci := 4) X dX4_append_40 (c_X4_fails0 κ.l hl κ.Γ M2 a (hsc u 0 0) hR2 2) k1164 k1166 kp15 k5 k1167 rfl (MRep.obj hR2) ⟨rfl, by decide, by decide, (show (parseMethodDescriptor yX4_fails.desc).map (fun d => d.parameters.length) = some 2 by decide +kernel)⟩ rfl (Nat.le_of_ble_eq_true rfl) (by rw [hRm]; decide) (by rw [hRm]; exact ⟨Nat.le_of_ble_eq_true rfl, Nat.le_of_ble_eq_true rfl⟩) (fun v5 M5 h5 => ?_) (fun _ _ h9 => by cases h9.1)
      obtain ⟨e5, hR5, hF5⟩ := h5
      have e5 : (Sum.inl v5 : Res) = rI 0 := e5
      cases e5
      have hR5 : MRep κ.Γ a (hsc u 0 0) M5 := by rw [← hsc_hsc (x := 0)]; exact hR5
      have hF5 := Fr.tr hF2 hF5
      refine g_if_eq (tgt := 48) X dX4_append_43 (by decide) (fun c6 => ?_) (fun c6 => absurd c6 (by decide))
      obtain ⟨N, hN, eN⟩ := hn
      have hN2 : N < 60 := by have h9 : ¬ N = 60 := fun z => c4 (by show u.1 5 = 60; rw [eN, z]; rfl); omega
      have hvi : vp_in (u.1 5) 60 := by rw [eN]; exact vp_in_nI hN2 (by decide)
      have hnc : narrow .char (.int x) = .int x := by obtain ⟨k, hk, e⟩ := ch_of c1; rw [e]; exact (pk_charN (by omega)).1
      refine g_aload_n X dX4_append_48 rfl 0 rfl ?_
      refine g_get X dX4_append_49 (ci := 4) (k := 10) (v := .ref (a 14)) rfl k1099 (by decide) rfl (MRep.obj hR5) rfl ?_
      refine g_aload_n X dX4_append_52 rfl 0 rfl ?_
      refine g_get X dX4_append_53 (ci := 4) (k := 11) (v := .int (u.1 5)) rfl k1100 (by decide) rfl (MRep.obj hR5) rfl ?_
      refine g_iload_n X dX4_append_56 rfl 1 rfl ?_
      refine g_castore X dX4_append_57 (MRep.text hR5) hvi hnc ?_
      refine g_gen (P := fun M9 => MRep κ.Γ a (hset (hsc u 0 0) 14 (cN (u.1 5)) x) M9 ∧ Fr a 15 M M9) ⟨MRep.ar hR5 14 (by decide) (by decide) _ rfl rfl, Fr.tr hF5 (Fr.up (by decide))⟩ (fun M7 ⟨hR8, hF9⟩ => ?_)
      refine g_aload_n X dX4_append_58 rfl 0 rfl ?_
      refine g_dup X dX4_append_59 rfl ?_
      refine g_get X dX4_append_60 (ci := 4) (k := 11) (v := .int (u.1 5)) rfl k1100 (by decide) rfl (MRep.obj hR8) rfl ?_
      refine g_iconst (v := 1) X dX4_append_63 (by decide) ?_
      refine g_iadd X dX4_append_64 ?_
      refine g_put X dX4_append_65 (ci := 4) (k := 11) (ty := .int) rfl k1100 (by decide) rfl rfl (by decide +kernel) rfl rfl (Nat.le_of_ble_eq_true rfl) (MRep.obj hR8) ?_
      refine g_gen (P := fun M9 => MRep κ.Γ a (hsc (hset (hsc u 0 0) 14 (cN (u.1 5)) x) 5 ((u.1 5) + 1)) M9 ∧ Fr a 15 M M9) ⟨MRep.sc hR8 5 _ rfl, Fr.tr hF9 (Fr.up (by decide))⟩ (fun M10 ⟨hR11, hF12⟩ => ?_)
      refine g_aload_n X dX4_append_68 rfl 0 rfl ?_
      refine g_get X dX4_append_69 (ci := 4) (k := 11) (v := .int ((u.1 5) + 1)) rfl k1100 (by decide) rfl (MRep.obj hR11) rfl ?_
      exact g_iret X F dX4_append_72 (by omega) (by omega) (by unfold mAppend; exact (MMu.n (by first | exact c1 | exact fun q => q c1 | exact fun q => c1 q | exact Classical.not_not.mp c1) (MMu.n (by first | exact c4 | exact fun q => q c4 | exact fun q => c4 q | exact Classical.not_not.mp c4) ⟨rfl, hR11, hF12⟩)))
    · refine g_iconst (v := 1) X dX4_append_35 (by decide) ?_
      refine g_goto (tgt := 40) X dX4_append_36 (by decide) ?_
      refine g_callV (As := [.int 2, .int 1]) (ci := 4) X dX4_append_40 (c_X4_fails1 κ.l hl κ.Γ M2 a (hsc u 0 0) hR2 2) k1164 k1166 kp15 k5 k1167 rfl (MRep.obj hR2) ⟨rfl, by decide, by decide, (show (parseMethodDescriptor yX4_fails.desc).map (fun d => d.parameters.length) = some 2 by decide +kernel)⟩ rfl (Nat.le_of_ble_eq_true rfl) (by rw [hRm]; decide) (by rw [hRm]; exact ⟨Nat.le_of_ble_eq_true rfl, Nat.le_of_ble_eq_true rfl⟩) (fun v13 M13 h13 => ?_) (fun _ _ h9 => by cases h9.1)
      obtain ⟨e13, hR13, hF13⟩ := h13
      have e13 : (Sum.inl v13 : Res) = rI 1 := e13
      cases e13
      have hR13 : MRep κ.Γ a (hsc u 0 2) M13 := by rw [← hsc_hsc (x := 0)]; exact hR13
      have hF13 := Fr.tr hF2 hF13
      refine g_if_eq (tgt := 48) X dX4_append_43 (by decide) (fun c14 => absurd c14 (by decide)) (fun c14 => ?_)
      refine g_iconst (v := 0) X dX4_append_46 (by decide) ?_
      exact g_iret X F dX4_append_47 (by omega) (by omega) (by unfold mAppend; exact (MMu.n (by first | exact c1 | exact fun q => q c1 | exact fun q => c1 q | exact Classical.not_not.mp c1) (MMu.y (by first | exact c4 | exact fun q => q c4 | exact fun q => c4 q | exact Classical.not_not.mp c4) ⟨rfl, hR13, hF13⟩)))
  · refine g_iconst (v := 1) X dX4_append_13 (by decide) ?_
    refine g_goto (tgt := 18) X dX4_append_14 (by decide) ?_
    refine g_callV (As := [.int 1, .int 1]) (ci := 4) X dX4_append_18 (c_X4_fails1 κ.l hl κ.Γ M a u hR 1) k1164 k1166 kp15 k5 k1167 rfl (MRep.obj hR) ⟨rfl, by decide, by decide, (show (parseMethodDescriptor yX4_fails.desc).map (fun d => d.parameters.length) = some 2 by decide +kernel)⟩ rfl (Nat.le_of_ble_eq_true rfl) (by rw [hRm]; decide) (by rw [hRm]; exact ⟨Nat.le_of_ble_eq_true rfl, Nat.le_of_ble_eq_true rfl⟩) (fun v15 M15 h15 => ?_) (fun _ _ h9 => by cases h9.1)
    obtain ⟨e15, hR15, hF15⟩ := h15
    have e15 : (Sum.inl v15 : Res) = rI 1 := e15
    cases e15
    refine g_if_ne (tgt := 46) X dX4_append_21 (by decide) (fun c16 => ?_) (fun c16 => absurd c16 (by decide))
    refine g_iconst (v := 0) X dX4_append_46 (by decide) ?_
    exact g_iret X F dX4_append_47 (by omega) (by omega) (by unfold mAppend; exact (MMu.y (by first | exact c1 | exact fun q => q c1 | exact fun q => c1 q | exact Classical.not_not.mp c1) ⟨rfl, hR15, hF15⟩))
set_option maxRecDepth 100000 in
set_option maxHeartbeats 4000000 in
theorem c_X4_sees (l : Launch) (hl : l.stackTraces = false) (Γ : Gm) (M : Hp) (a : Nat → Nat) (u : HV) (hR : MRep Γ a u M) (hx : XInv 200 u) (lo hi : Int32) : Ct l Γ yX4_sees cX4_sees 3 (some .boolean) 1 0 0 [.ref (a 0), .int lo, .int hi] M (Rd (some (.int (bI (rSees u lo hi)))) M) := by
  refine Ct.of hl (by decide) (Nat.le_of_ble_eq_true rfl) rfl ?_
  intro κ e1 e2 hnL hRm X F hlt
  subst e1 e2
  refine g_aload_n X dX4_sees_0 rfl 0 rfl ?_
  refine g_get X dX4_sees_1 (ci := 4) (k := 18) (v := .int (u.1 12)) rfl k1107 (by decide) rfl (MRep.obj hR) rfl ?_
  refine g_if_ne (tgt := 39) X dX4_sees_4 (by decide) (fun c1 => ?_) (fun c1 => ?_)
  · refine g_iconst (v := 0) X dX4_sees_39 (by decide) ?_
    exact g_zret X F dX4_sees_40 (by omega) (by omega) rfl ⟨by rw [bI_f (fun z => c1 z.1)], rfl⟩
  · refine g_aload_n X dX4_sees_7 rfl 0 rfl ?_
    refine g_get X dX4_sees_8 (ci := 4) (k := 12) (v := .int (u.1 6)) rfl k1101 (by decide) rfl (MRep.obj hR) rfl ?_
    refine g_aload_n X dX4_sees_11 rfl 0 rfl ?_
    refine g_get X dX4_sees_12 (ci := 4) (k := 11) (v := .int (u.1 5)) rfl k1100 (by decide) rfl (MRep.obj hR) rfl ?_
    refine g_icmp_ge (tgt := 39) X dX4_sees_15 (by decide) (fun c2 => ?_) (fun c2 => ?_)
    · refine g_iconst (v := 0) X dX4_sees_39 (by decide) ?_
      exact g_zret X F dX4_sees_40 (by omega) (by omega) rfl ⟨by rw [bI_f (fun z => absurd z.2.1 (Int32.not_lt.mpr c2))], rfl⟩
    · refine g_aload_n X dX4_sees_18 rfl 0 rfl ?_
      refine g_get X dX4_sees_19 (ci := 4) (k := 10) (v := .ref (a 14)) rfl k1099 (by decide) rfl (MRep.obj hR) rfl ?_
      refine g_aload_n X dX4_sees_22 rfl 0 rfl ?_
      refine g_get X dX4_sees_23 (ci := 4) (k := 12) (v := .int (u.1 6)) rfl k1101 (by decide) rfl (MRep.obj hR) rfl ?_
      refine g_caload X dX4_sees_26 (MRep.text hR) (hx.ix (by decide) (Int32.not_le.mp c2)) ?_
      refine g_iload_n X dX4_sees_27 rfl 1 rfl ?_
      refine g_iload_n X dX4_sees_28 rfl 2 rfl ?_
      refine g_callS_rd (As := [.int (u.2.1 14 (cN (u.1 6))), .int lo, .int hi]) (v := some (.int (bI (btw (u.2.1 14 (cN (u.1 6))) lo hi)))) X dX4_sees_29 (c_X4_isBetween κ.l hl κ.Γ M (u.2.1 14 (cN (u.1 6))) lo hi) k1161 k1162 k5 k1163 ⟨by decide, by decide, (show (parseMethodDescriptor yX4_isBetween.desc).map (fun d => d.parameters.length) = some 3 by decide +kernel)⟩ rfl (Nat.le_of_ble_eq_true rfl) (by rw [hRm]; decide) (by rw [hRm]; exact ⟨Nat.le_of_ble_eq_true rfl, Nat.le_of_ble_eq_true rfl⟩) ?_
      refine g_ifb_eq (tgt := 39) X dX4_sees_32 (by decide) (fun c3 => ?_) (fun c3 => ?_)
      · refine g_iconst (v := 0) X dX4_sees_39 (by decide) ?_
        exact g_zret X F dX4_sees_40 (by omega) (by omega) rfl ⟨by rw [bI_f (fun z => c3 z.2.2)], rfl⟩
      · refine g_iconst (v := 1) X dX4_sees_35 (by decide) ?_
        refine g_goto (tgt := 40) X dX4_sees_36 (by decide) ?_
        exact g_zret X F dX4_sees_40 (by omega) (by omega) rfl ⟨by rw [bI_t ⟨c1, Int32.not_le.mp c2, c3⟩], rfl⟩
set_option maxRecDepth 100000 in
set_option maxHeartbeats 4000000 in
theorem c_X4_seen (l : Launch) (hl : l.stackTraces = false) (Γ : Gm) (M : Hp) (a : Nat → Nat) (u : HV) (hR : MRep Γ a u M) (hx : XInv 200 u) : Ct l Γ yX4_seen cX4_seen 2 (some .char) 0 0 0 [.ref (a 0), .int 0] M (Rd (some (.int (rSeen u))) M) := by
  refine Ct.of hl (by decide) (Nat.le_of_ble_eq_true rfl) rfl ?_
  intro κ e1 e2 hnL hRm X F hlt
  subst e1 e2
  refine g_aload_n X dX4_seen_0 rfl 0 rfl ?_
  refine g_get X dX4_seen_1 (ci := 4) (k := 18) (v := .int (u.1 12)) rfl k1107 (by decide) rfl (MRep.obj hR) rfl ?_
  refine g_if_ne (tgt := 34) X dX4_seen_4 (by decide) (fun c1 => ?_) (fun c1 => ?_)
  · refine g_bipush (v := 32) X dX4_seen_34 (by decide) ?_
    exact g_zret X F dX4_seen_36 (by omega) (by omega) rfl ⟨congrArg rI (show rSeen u = _ from if_neg (fun z => c1 z.1)).symm, rfl⟩
  · refine g_aload_n X dX4_seen_7 rfl 0 rfl ?_
    refine g_get X dX4_seen_8 (ci := 4) (k := 12) (v := .int (u.1 6)) rfl k1101 (by decide) rfl (MRep.obj hR) rfl ?_
    refine g_iload_n X dX4_seen_11 rfl 1 rfl ?_
    refine g_iadd X dX4_seen_12 ?_
    refine g_lit (u.1 6) (Int32.add_zero _) ?_
    refine g_aload_n X dX4_seen_13 rfl 0 rfl ?_
    refine g_get X dX4_seen_14 (ci := 4) (k := 11) (v := .int (u.1 5)) rfl k1100 (by decide) rfl (MRep.obj hR) rfl ?_
    refine g_icmp_ge (tgt := 34) X dX4_seen_17 (by decide) (fun c2 => ?_) (fun c2 => ?_)
    · refine g_bipush (v := 32) X dX4_seen_34 (by decide) ?_
      exact g_zret X F dX4_seen_36 (by omega) (by omega) rfl ⟨congrArg rI (show rSeen u = _ from if_neg (fun z => absurd z.2 (Int32.not_lt.mpr c2))).symm, rfl⟩
    · refine g_aload_n X dX4_seen_20 rfl 0 rfl ?_
      refine g_get X dX4_seen_21 (ci := 4) (k := 10) (v := .ref (a 14)) rfl k1099 (by decide) rfl (MRep.obj hR) rfl ?_
      refine g_aload_n X dX4_seen_24 rfl 0 rfl ?_
      refine g_get X dX4_seen_25 (ci := 4) (k := 12) (v := .int (u.1 6)) rfl k1101 (by decide) rfl (MRep.obj hR) rfl ?_
      refine g_iload_n X dX4_seen_28 rfl 1 rfl ?_
      refine g_iadd X dX4_seen_29 ?_
      refine g_lit (u.1 6) (Int32.add_zero _) ?_
      refine g_caload X dX4_seen_30 (MRep.text hR) (hx.ix (by decide) (Int32.not_le.mp c2)) ?_
      refine g_goto (tgt := 36) X dX4_seen_31 (by decide) ?_
      exact g_zret X F dX4_seen_36 (by omega) (by omega) (hx.ch (by decide) (Int32.not_le.mp c2)).nar ⟨congrArg rI (show rSeen u = _ from if_pos ⟨c1, Int32.not_le.mp c2⟩).symm, rfl⟩
theorem or1 {x : Int32} (h : x = 0 ∨ x = 1) : x ||| 1 = 1 := by
  rcases h with rfl | rfl <;> rfl
set_option maxRecDepth 100000 in
set_option maxHeartbeats 4000000 in
theorem c_X4_must (l : Launch) (hl : l.stackTraces = false) (Γ : Gm) (M : Hp) (a : Nat → Nat) (u : HV) (hR : MRep Γ a u M) (hx : XInv 200 u) (c : Int32) : Ct l Γ yX4_must cX4_must 2 none 2 0 0 [.ref (a 0), .int c] M (MMu Γ a (.inl none, mMust u c) M) := by
  refine Ct.of hl (by decide) (Nat.le_of_ble_eq_true rfl) rfl ?_
  intro κ e1 e2 hnL hRm X F hlt
  subst e1 e2
  refine g_aload_n X dX4_must_0 rfl 0 rfl ?_
  refine g_dup X dX4_must_1 rfl ?_
  refine g_get X dX4_must_2 (ci := 4) (k := 18) (v := .int (u.1 12)) rfl k1107 (by decide) rfl (MRep.obj hR) rfl ?_
  refine g_aload_n X dX4_must_5 rfl 0 rfl ?_
  refine g_iload_n X dX4_must_6 rfl 1 rfl ?_
  refine g_iload_n X dX4_must_7 rfl 1 rfl ?_
  refine g_callV_rd (As := [.int c, .int c]) (ci := 4) (v := some (.int (bI (rSees u c c)))) X dX4_must_8 (c_X4_sees κ.l hl κ.Γ M a u hR hx c c) k1514 k1516 kp46 k5 k1517 rfl (MRep.obj hR) ⟨rfl, by decide, by decide, (show (parseMethodDescriptor yX4_sees.desc).map (fun d => d.parameters.length) = some 2 by decide +kernel)⟩ rfl (Nat.le_of_ble_eq_true rfl) (by rw [hRm]; decide) (by rw [hRm]; exact ⟨Nat.le_of_ble_eq_true rfl, Nat.le_of_ble_eq_true rfl⟩) ?_
  refine g_ifb_ne (tgt := 18) X dX4_must_11 (by decide) (fun c1 => ?_) (fun c1 => ?_)
  · refine g_iconst (v := 0) X dX4_must_18 (by decide) ?_
    refine g_ior X dX4_must_19 ?_
    refine g_lit 0 (by rw [c1.1]; rfl) ?_
    refine g_put X dX4_must_20 (ci := 4) (k := 18) (ty := .boolean) rfl k1107 (by decide) rfl rfl (by decide +kernel) rfl rfl (Nat.le_of_ble_eq_true rfl) (MRep.obj hR) ?_
    refine g_gen (P := fun M9 => MRep κ.Γ a (hsc u 12 0) M9 ∧ Fr a 15 M M9) ⟨MRep.sc hR 12 _ rfl, (Fr.up (by decide))⟩ (fun M2 ⟨hR3, hF4⟩ => ?_)
    have hR5 : MRep κ.Γ a u M2 := by have h9 := hR3; rw [hsc_id c1.1] at h9; exact h9
    refine g_aload_n X dX4_must_23 rfl 0 rfl ?_
    refine g_dup X dX4_must_24 rfl ?_
    refine g_get X dX4_must_25 (ci := 4) (k := 12) (v := .int (u.1 6)) rfl k1101 (by decide) rfl (MRep.obj hR5) rfl ?_
    refine g_aload_n X dX4_must_28 rfl 0 rfl ?_
    refine g_get X dX4_must_29 (ci := 4) (k := 18) (v := .int (u.1 12)) rfl k1107 (by decide) rfl (MRep.obj hR5) rfl ?_
    refine g_lit 0 c1.1 ?_
    refine g_if_eq (tgt := 39) X dX4_must_32 (by decide) (fun c6 => ?_) (fun c6 => absurd c6 (by decide))
    refine g_iconst (v := 1) X dX4_must_39 (by decide) ?_
    refine g_iadd X dX4_must_40 ?_
    refine g_put X dX4_must_41 (ci := 4) (k := 12) (ty := .int) rfl k1101 (by decide) rfl rfl (by decide +kernel) rfl rfl (Nat.le_of_ble_eq_true rfl) (MRep.obj hR5) ?_
    refine g_gen (P := fun M9 => MRep κ.Γ a (hsc u 6 ((u.1 6) + 1)) M9 ∧ Fr a 15 M M9) ⟨MRep.sc hR5 6 _ rfl, Fr.tr hF4 (Fr.up (by decide))⟩ (fun M7 ⟨hR8, hF9⟩ => ?_)
    exact g_vret X F dX4_must_44 (by omega) (by omega) ⟨rfl, (by rw [mMust_y c1]; exact hR8), hF9⟩
  · refine g_iconst (v := 1) X dX4_must_14 (by decide) ?_
    refine g_goto (tgt := 19) X dX4_must_15 (by decide) ?_
    refine g_ior X dX4_must_19 ?_
    refine g_lit 1 (or1 hx.2.2.2) ?_
    refine g_put X dX4_must_20 (ci := 4) (k := 18) (ty := .boolean) rfl k1107 (by decide) rfl rfl (by decide +kernel) rfl rfl (Nat.le_of_ble_eq_true rfl) (MRep.obj hR) ?_
    refine g_gen (P := fun M9 => MRep κ.Γ a (hsc u 12 1) M9 ∧ Fr a 15 M M9) ⟨MRep.sc hR 12 _ rfl, (Fr.up (by decide))⟩ (fun M10 ⟨hR11, hF12⟩ => ?_)
    refine g_aload_n X dX4_must_23 rfl 0 rfl ?_
    refine g_dup X dX4_must_24 rfl ?_
    refine g_get X dX4_must_25 (ci := 4) (k := 12) (v := .int (u.1 6)) rfl k1101 (by decide) rfl (MRep.obj hR11) rfl ?_
    refine g_aload_n X dX4_must_28 rfl 0 rfl ?_
    refine g_get X dX4_must_29 (ci := 4) (k := 18) (v := .int 1) rfl k1107 (by decide) rfl (MRep.obj hR11) rfl ?_
    refine g_if_eq (tgt := 39) X dX4_must_32 (by decide) (fun c13 => absurd c13 (by decide)) (fun c13 => ?_)
    refine g_iconst (v := 0) X dX4_must_35 (by decide) ?_
    refine g_goto (tgt := 40) X dX4_must_36 (by decide) ?_
    refine g_iadd X dX4_must_40 ?_
    refine g_lit (u.1 6) (Int32.add_zero _) ?_
    refine g_put X dX4_must_41 (ci := 4) (k := 12) (ty := .int) rfl k1101 (by decide) rfl rfl (by decide +kernel) rfl rfl (Nat.le_of_ble_eq_true rfl) (MRep.obj hR11) ?_
    refine g_gen (P := fun M9 => MRep κ.Γ a (hsc (hsc u 12 1) 6 (u.1 6)) M9 ∧ Fr a 15 M M9) ⟨MRep.sc hR11 6 _ rfl, Fr.tr hF12 (Fr.up (by decide))⟩ (fun M14 ⟨hR15, hF16⟩ => ?_)
    exact g_vret X F dX4_must_44 (by omega) (by omega) ⟨rfl, (by rw [mMust_n c1]; have h9 := hR15; rw [hsc_id (u := hsc u 12 1) (show (hsc u 12 1).1 6 = u.1 6 from rfl)] at h9; exact h9), hF16⟩
set_option maxRecDepth 100000 in
set_option maxHeartbeats 4000000 in
theorem c_X4_readNumber1 (l : Launch) (hl : l.stackTraces = false) (Γ : Gm) (M : Hp) (a : Nat → Nat) (u : HV) (hR : MRep Γ a u M) (hx : XInv 200 u) : Ct l Γ yX4_readNumber cX4_readNumber 4 (some .int) 2 0 0 [.ref (a 0), .int 1] M (MMu Γ a (rI (mRdN 1 u).1, (mRdN 1 u).2) M) := by
  refine Ct.of hl (by decide) (Nat.le_of_ble_eq_true rfl) rfl ?_
  intro κ e1 e2 hnL hRm X F hlt
  subst e1 e2
  refine g_aload_n X dX4_readNumber_0 rfl 0 rfl ?_
  refine g_dup X dX4_readNumber_1 rfl ?_
  refine g_get X dX4_readNumber_2 (ci := 4) (k := 18) (v := .int (u.1 12)) rfl k1107 (by decide) rfl (MRep.obj hR) rfl ?_
  refine g_aload_n X dX4_readNumber_5 rfl 0 rfl ?_
  refine g_bipush (v := 48) X dX4_readNumber_6 (by decide) ?_
  refine g_bipush (v := 57) X dX4_readNumber_8 (by decide) ?_
  refine g_callV_rd (As := [.int 48, .int 57]) (ci := 4) (v := some (.int (bI (rSees u 48 57)))) X dX4_readNumber_10 (c_X4_sees κ.l hl κ.Γ M a u hR hx 48 57) k1514 k1516 kp46 k5 k1517 rfl (MRep.obj hR) ⟨rfl, by decide, by decide, (show (parseMethodDescriptor yX4_sees.desc).map (fun d => d.parameters.length) = some 2 by decide +kernel)⟩ rfl (Nat.le_of_ble_eq_true rfl) (by rw [hRm]; decide) (by rw [hRm]; exact ⟨Nat.le_of_ble_eq_true rfl, Nat.le_of_ble_eq_true rfl⟩) ?_
  refine g_ifb_ne (tgt := 20) X dX4_readNumber_13 (by decide) (fun c1 => ?_) (fun c1 => ?_)
  · refine g_iconst (v := 0) X dX4_readNumber_20 (by decide) ?_
    refine g_ior X dX4_readNumber_21 ?_
    refine g_lit 0 (by rw [c1.1]; rfl) ?_
    refine g_put X dX4_readNumber_22 (ci := 4) (k := 18) (ty := .boolean) rfl k1107 (by decide) rfl rfl (by decide +kernel) rfl rfl (Nat.le_of_ble_eq_true rfl) (MRep.obj hR) ?_
    refine g_gen (P := fun M9 => MRep κ.Γ a (hsc u 12 0) M9 ∧ Fr a 15 M M9) ⟨MRep.sc hR 12 _ rfl, (Fr.up (by decide))⟩ (fun M2 ⟨hR3, hF4⟩ => ?_)
    have hR5 : MRep κ.Γ a u M2 := by have h9 := hR3; rw [hsc_id c1.1] at h9; exact h9
    refine g_iconst (v := 0) X dX4_readNumber_25 (by decide) ?_
    refine g_istore_n (L' := [(2, .int 0), (0, .ref (a 0)), (1, .int 1)]) X dX4_readNumber_26 rfl (by rw [hnL]; decide) rfl ?_
    refine g_iconst (v := 0) X dX4_readNumber_27 (by decide) ?_
    refine g_istore_n (L' := [(3, .int 0), (2, .int 0), (0, .ref (a 0)), (1, .int 1)]) X dX4_readNumber_28 rfl (by rw [hnL]; decide) rfl ?_
    refine g_iload_n X dX4_readNumber_29 rfl 0 rfl ?_
    refine g_iload_n X dX4_readNumber_30 rfl 3 rfl ?_
    refine g_icmp_ge (tgt := 79) X dX4_readNumber_31 (by decide) (fun c6 => absurd c6 (by decide)) (fun c6 => ?_)
    refine g_aload_n X dX4_readNumber_34 rfl 2 rfl ?_
    refine g_bipush (v := 48) X dX4_readNumber_35 (by decide) ?_
    refine g_bipush (v := 57) X dX4_readNumber_37 (by decide) ?_
    refine g_callV_rd (As := [.int 48, .int 57]) (ci := 4) (v := some (.int (bI (rSees u 48 57)))) X dX4_readNumber_39 (c_X4_sees κ.l hl κ.Γ M2 a u hR5 hx 48 57) k1514 k1516 kp46 k5 k1517 rfl (MRep.obj hR5) ⟨rfl, by decide, by decide, (show (parseMethodDescriptor yX4_sees.desc).map (fun d => d.parameters.length) = some 2 by decide +kernel)⟩ rfl (Nat.le_of_ble_eq_true rfl) (by rw [hRm]; decide) (by rw [hRm]; exact ⟨Nat.le_of_ble_eq_true rfl, Nat.le_of_ble_eq_true rfl⟩) ?_
    refine g_ifb_eq (tgt := 79) X dX4_readNumber_42 (by decide) (fun q => absurd c1 q) (fun _ => ?_)
    refine g_bipush (v := 10) X dX4_readNumber_45 (by decide) ?_
    refine g_iload_n X dX4_readNumber_47 rfl 1 rfl ?_
    refine g_imul X dX4_readNumber_48 ?_
    refine g_lit (y := 0) (by decide) ?_
    refine g_aload_n X dX4_readNumber_49 rfl 2 rfl ?_
    refine g_get X dX4_readNumber_50 (ci := 4) (k := 10) (v := .ref (a 14)) rfl k1099 (by decide) rfl (MRep.obj hR5) rfl ?_
    refine g_aload_n X dX4_readNumber_53 rfl 2 rfl ?_
    refine g_get X dX4_readNumber_54 (ci := 4) (k := 12) (v := .int (u.1 6)) rfl k1101 (by decide) rfl (MRep.obj hR5) rfl ?_
    refine g_caload X dX4_readNumber_57 (MRep.text hR5) (hx.ix (by decide) c1.2.1) ?_
    refine g_iadd X dX4_readNumber_58 ?_
    refine g_bipush (v := 48) X dX4_readNumber_59 (by decide) ?_
    refine g_isub X dX4_readNumber_61 ?_
    refine g_istore_n (L' := [(2, .int ((0 + (u.2.1 14 (cN (u.1 6)))) - 48)), (3, .int 0), (0, .ref (a 0)), (1, .int 1)]) X dX4_readNumber_62 rfl (by rw [hnL]; decide) rfl ?_
    refine g_aload_n X dX4_readNumber_63 rfl 2 rfl ?_
    refine g_dup X dX4_readNumber_64 rfl ?_
    refine g_get X dX4_readNumber_65 (ci := 4) (k := 12) (v := .int (u.1 6)) rfl k1101 (by decide) rfl (MRep.obj hR5) rfl ?_
    refine g_iconst (v := 1) X dX4_readNumber_68 (by decide) ?_
    refine g_iadd X dX4_readNumber_69 ?_
    refine g_put X dX4_readNumber_70 (ci := 4) (k := 12) (ty := .int) rfl k1101 (by decide) rfl rfl (by decide +kernel) rfl rfl (Nat.le_of_ble_eq_true rfl) (MRep.obj hR5) ?_
    refine g_gen (P := fun M9 => MRep κ.Γ a (hsc u 6 ((u.1 6) + 1)) M9 ∧ Fr a 15 M M9) ⟨MRep.sc hR5 6 _ rfl, Fr.tr hF4 (Fr.up (by decide))⟩ (fun M7 ⟨hR8, hF9⟩ => ?_)
    refine g_iinc (k := 1) (v := 1) (L' := [(3, .int 1), (2, .int ((0 + (u.2.1 14 (cN (u.1 6)))) - 48)), (0, .ref (a 0)), (1, .int 1)]) X dX4_readNumber_73 rfl (by decide) (by rw [hnL]; decide) rfl ?_
    refine g_goto (tgt := 29) X dX4_readNumber_76 (by decide) ?_
    refine g_iload_n X dX4_readNumber_29 rfl 0 rfl ?_
    refine g_iload_n X dX4_readNumber_30 rfl 3 rfl ?_
    refine g_icmp_ge (tgt := 79) X dX4_readNumber_31 (by decide) (fun c10 => ?_) (fun c10 => absurd c10 (by decide))
    refine g_iload_n X dX4_readNumber_79 rfl 1 rfl ?_
    exact g_iret X F dX4_readNumber_80 (by omega) (by omega) (by rw [mRdN_1 c1]; exact ⟨rfl, hR8, hF9⟩)
  · refine g_iconst (v := 1) X dX4_readNumber_16 (by decide) ?_
    refine g_goto (tgt := 21) X dX4_readNumber_17 (by decide) ?_
    refine g_ior X dX4_readNumber_21 ?_
    refine g_lit 1 (or1 hx.2.2.2) ?_
    refine g_put X dX4_readNumber_22 (ci := 4) (k := 18) (ty := .boolean) rfl k1107 (by decide) rfl rfl (by decide +kernel) rfl rfl (Nat.le_of_ble_eq_true rfl) (MRep.obj hR) ?_
    refine g_gen (P := fun M9 => MRep κ.Γ a (hsc u 12 1) M9 ∧ Fr a 15 M M9) ⟨MRep.sc hR 12 _ rfl, (Fr.up (by decide))⟩ (fun M11 ⟨hR12, hF13⟩ => ?_)
    refine g_iconst (v := 0) X dX4_readNumber_25 (by decide) ?_
    refine g_istore_n (L' := [(2, .int 0), (0, .ref (a 0)), (1, .int 1)]) X dX4_readNumber_26 rfl (by rw [hnL]; decide) rfl ?_
    refine g_iconst (v := 0) X dX4_readNumber_27 (by decide) ?_
    refine g_istore_n (L' := [(3, .int 0), (2, .int 0), (0, .ref (a 0)), (1, .int 1)]) X dX4_readNumber_28 rfl (by rw [hnL]; decide) rfl ?_
    refine g_iload_n X dX4_readNumber_29 rfl 0 rfl ?_
    refine g_iload_n X dX4_readNumber_30 rfl 3 rfl ?_
    refine g_icmp_ge (tgt := 79) X dX4_readNumber_31 (by decide) (fun c14 => absurd c14 (by decide)) (fun c14 => ?_)
    refine g_aload_n X dX4_readNumber_34 rfl 2 rfl ?_
    refine g_bipush (v := 48) X dX4_readNumber_35 (by decide) ?_
    refine g_bipush (v := 57) X dX4_readNumber_37 (by decide) ?_
    refine g_callV_rd (As := [.int 48, .int 57]) (ci := 4) (v := some (.int (bI (rSees (hsc u 12 1) 48 57)))) X dX4_readNumber_39 (c_X4_sees κ.l hl κ.Γ M11 a (hsc u 12 1) hR12 hx.bad 48 57) k1514 k1516 kp46 k5 k1517 rfl (MRep.obj hR12) ⟨rfl, by decide, by decide, (show (parseMethodDescriptor yX4_sees.desc).map (fun d => d.parameters.length) = some 2 by decide +kernel)⟩ rfl (Nat.le_of_ble_eq_true rfl) (by rw [hRm]; decide) (by rw [hRm]; exact ⟨Nat.le_of_ble_eq_true rfl, Nat.le_of_ble_eq_true rfl⟩) ?_
    refine g_ifb_eq (tgt := 79) X dX4_readNumber_42 (by decide) (fun _ => ?_) (fun q => absurd q.1 (show ¬ (1 : Int32) = 0 by decide))
    refine g_iload_n X dX4_readNumber_79 rfl 1 rfl ?_
    exact g_iret X F dX4_readNumber_80 (by omega) (by omega) (by rw [mRdN_n c1]; exact ⟨rfl, hR12, hF13⟩)
set_option maxRecDepth 100000 in
set_option maxHeartbeats 4000000 in
theorem c_X4_readNumber2 (l : Launch) (hl : l.stackTraces = false) (Γ : Gm) (M : Hp) (a : Nat → Nat) (u : HV) (hR : MRep Γ a u M) (hx : XInv 200 u) : Ct l Γ yX4_readNumber cX4_readNumber 4 (some .int) 2 0 0 [.ref (a 0), .int 2] M (MMu Γ a (rI (mRdN 2 u).1, (mRdN 2 u).2) M) := by
  refine Ct.of hl (by decide) (Nat.le_of_ble_eq_true rfl) rfl ?_
  intro κ e1 e2 hnL hRm X F hlt
  subst e1 e2
  refine g_aload_n X dX4_readNumber_0 rfl 0 rfl ?_
  refine g_dup X dX4_readNumber_1 rfl ?_
  refine g_get X dX4_readNumber_2 (ci := 4) (k := 18) (v := .int (u.1 12)) rfl k1107 (by decide) rfl (MRep.obj hR) rfl ?_
  refine g_aload_n X dX4_readNumber_5 rfl 0 rfl ?_
  refine g_bipush (v := 48) X dX4_readNumber_6 (by decide) ?_
  refine g_bipush (v := 57) X dX4_readNumber_8 (by decide) ?_
  refine g_callV_rd (As := [.int 48, .int 57]) (ci := 4) (v := some (.int (bI (rSees u 48 57)))) X dX4_readNumber_10 (c_X4_sees κ.l hl κ.Γ M a u hR hx 48 57) k1514 k1516 kp46 k5 k1517 rfl (MRep.obj hR) ⟨rfl, by decide, by decide, (show (parseMethodDescriptor yX4_sees.desc).map (fun d => d.parameters.length) = some 2 by decide +kernel)⟩ rfl (Nat.le_of_ble_eq_true rfl) (by rw [hRm]; decide) (by rw [hRm]; exact ⟨Nat.le_of_ble_eq_true rfl, Nat.le_of_ble_eq_true rfl⟩) ?_
  refine g_ifb_ne (tgt := 20) X dX4_readNumber_13 (by decide) (fun c1 => ?_) (fun c1 => ?_)
  · refine g_iconst (v := 0) X dX4_readNumber_20 (by decide) ?_
    refine g_ior X dX4_readNumber_21 ?_
    refine g_lit 0 (by rw [c1.1]; rfl) ?_
    refine g_put X dX4_readNumber_22 (ci := 4) (k := 18) (ty := .boolean) rfl k1107 (by decide) rfl rfl (by decide +kernel) rfl rfl (Nat.le_of_ble_eq_true rfl) (MRep.obj hR) ?_
    refine g_gen (P := fun M9 => MRep κ.Γ a (hsc u 12 0) M9 ∧ Fr a 15 M M9) ⟨MRep.sc hR 12 _ rfl, (Fr.up (by decide))⟩ (fun M2 ⟨hR3, hF4⟩ => ?_)
    have hR5 : MRep κ.Γ a u M2 := by have h9 := hR3; rw [hsc_id c1.1] at h9; exact h9
    refine g_iconst (v := 0) X dX4_readNumber_25 (by decide) ?_
    refine g_istore_n (L' := [(2, .int 0), (0, .ref (a 0)), (1, .int 2)]) X dX4_readNumber_26 rfl (by rw [hnL]; decide) rfl ?_
    refine g_iconst (v := 0) X dX4_readNumber_27 (by decide) ?_
    refine g_istore_n (L' := [(3, .int 0), (2, .int 0), (0, .ref (a 0)), (1, .int 2)]) X dX4_readNumber_28 rfl (by rw [hnL]; decide) rfl ?_
    refine g_iload_n X dX4_readNumber_29 rfl 0 rfl ?_
    refine g_iload_n X dX4_readNumber_30 rfl 3 rfl ?_
    refine g_icmp_ge (tgt := 79) X dX4_readNumber_31 (by decide) (fun c6 => absurd c6 (by decide)) (fun c6 => ?_)
    refine g_aload_n X dX4_readNumber_34 rfl 2 rfl ?_
    refine g_bipush (v := 48) X dX4_readNumber_35 (by decide) ?_
    refine g_bipush (v := 57) X dX4_readNumber_37 (by decide) ?_
    refine g_callV_rd (As := [.int 48, .int 57]) (ci := 4) (v := some (.int (bI (rSees u 48 57)))) X dX4_readNumber_39 (c_X4_sees κ.l hl κ.Γ M2 a u hR5 hx 48 57) k1514 k1516 kp46 k5 k1517 rfl (MRep.obj hR5) ⟨rfl, by decide, by decide, (show (parseMethodDescriptor yX4_sees.desc).map (fun d => d.parameters.length) = some 2 by decide +kernel)⟩ rfl (Nat.le_of_ble_eq_true rfl) (by rw [hRm]; decide) (by rw [hRm]; exact ⟨Nat.le_of_ble_eq_true rfl, Nat.le_of_ble_eq_true rfl⟩) ?_
    refine g_ifb_eq (tgt := 79) X dX4_readNumber_42 (by decide) (fun q => absurd c1 q) (fun _ => ?_)
    refine g_bipush (v := 10) X dX4_readNumber_45 (by decide) ?_
    refine g_iload_n X dX4_readNumber_47 rfl 1 rfl ?_
    refine g_imul X dX4_readNumber_48 ?_
    refine g_lit (y := 0) (by decide) ?_
    refine g_aload_n X dX4_readNumber_49 rfl 2 rfl ?_
    refine g_get X dX4_readNumber_50 (ci := 4) (k := 10) (v := .ref (a 14)) rfl k1099 (by decide) rfl (MRep.obj hR5) rfl ?_
    refine g_aload_n X dX4_readNumber_53 rfl 2 rfl ?_
    refine g_get X dX4_readNumber_54 (ci := 4) (k := 12) (v := .int (u.1 6)) rfl k1101 (by decide) rfl (MRep.obj hR5) rfl ?_
    refine g_caload X dX4_readNumber_57 (MRep.text hR5) (hx.ix (by decide) c1.2.1) ?_
    refine g_iadd X dX4_readNumber_58 ?_
    refine g_bipush (v := 48) X dX4_readNumber_59 (by decide) ?_
    refine g_isub X dX4_readNumber_61 ?_
    refine g_istore_n (L' := [(2, .int ((0 + (u.2.1 14 (cN (u.1 6)))) - 48)), (3, .int 0), (0, .ref (a 0)), (1, .int 2)]) X dX4_readNumber_62 rfl (by rw [hnL]; decide) rfl ?_
    refine g_aload_n X dX4_readNumber_63 rfl 2 rfl ?_
    refine g_dup X dX4_readNumber_64 rfl ?_
    refine g_get X dX4_readNumber_65 (ci := 4) (k := 12) (v := .int (u.1 6)) rfl k1101 (by decide) rfl (MRep.obj hR5) rfl ?_
    refine g_iconst (v := 1) X dX4_readNumber_68 (by decide) ?_
    refine g_iadd X dX4_readNumber_69 ?_
    refine g_put X dX4_readNumber_70 (ci := 4) (k := 12) (ty := .int) rfl k1101 (by decide) rfl rfl (by decide +kernel) rfl rfl (Nat.le_of_ble_eq_true rfl) (MRep.obj hR5) ?_
    refine g_gen (P := fun M9 => MRep κ.Γ a (hsc u 6 ((u.1 6) + 1)) M9 ∧ Fr a 15 M M9) ⟨MRep.sc hR5 6 _ rfl, Fr.tr hF4 (Fr.up (by decide))⟩ (fun M7 ⟨hR8, hF9⟩ => ?_)
    refine g_iinc (k := 1) (v := 1) (L' := [(3, .int 1), (2, .int ((0 + (u.2.1 14 (cN (u.1 6)))) - 48)), (0, .ref (a 0)), (1, .int 2)]) X dX4_readNumber_73 rfl (by decide) (by rw [hnL]; decide) rfl ?_
    refine g_goto (tgt := 29) X dX4_readNumber_76 (by decide) ?_
    refine g_iload_n X dX4_readNumber_29 rfl 0 rfl ?_
    refine g_iload_n X dX4_readNumber_30 rfl 3 rfl ?_
    refine g_icmp_ge (tgt := 79) X dX4_readNumber_31 (by decide) (fun c10 => absurd c10 (by decide)) (fun c10 => ?_)
    refine g_aload_n X dX4_readNumber_34 rfl 2 rfl ?_
    refine g_bipush (v := 48) X dX4_readNumber_35 (by decide) ?_
    refine g_bipush (v := 57) X dX4_readNumber_37 (by decide) ?_
    refine g_callV_rd (As := [.int 48, .int 57]) (ci := 4) (v := some (.int (bI (rSees (hsc u 6 ((u.1 6) + 1)) 48 57)))) X dX4_readNumber_39 (c_X4_sees κ.l hl κ.Γ M7 a (hsc u 6 ((u.1 6) + 1)) hR8 (hx.adv (by decide) (by decide) c1.2.1) 48 57) k1514 k1516 kp46 k5 k1517 rfl (MRep.obj hR8) ⟨rfl, by decide, by decide, (show (parseMethodDescriptor yX4_sees.desc).map (fun d => d.parameters.length) = some 2 by decide +kernel)⟩ rfl (Nat.le_of_ble_eq_true rfl) (by rw [hRm]; decide) (by rw [hRm]; exact ⟨Nat.le_of_ble_eq_true rfl, Nat.le_of_ble_eq_true rfl⟩) ?_
    refine g_ifb_eq (tgt := 79) X dX4_readNumber_42 (by decide) (fun c11 => ?_) (fun c11 => ?_)
    · refine g_iload_n X dX4_readNumber_79 rfl 1 rfl ?_
      exact g_iret X F dX4_readNumber_80 (by omega) (by omega) (by rw [mRdN_2n c1 c11]; exact ⟨rfl, hR8, hF9⟩)
    · refine g_bipush (v := 10) X dX4_readNumber_45 (by decide) ?_
      refine g_iload_n X dX4_readNumber_47 rfl 1 rfl ?_
      refine g_imul X dX4_readNumber_48 ?_
      refine g_aload_n X dX4_readNumber_49 rfl 2 rfl ?_
      refine g_get X dX4_readNumber_50 (ci := 4) (k := 10) (v := .ref (a 14)) rfl k1099 (by decide) rfl (MRep.obj hR8) rfl ?_
      refine g_aload_n X dX4_readNumber_53 rfl 2 rfl ?_
      refine g_get X dX4_readNumber_54 (ci := 4) (k := 12) (v := .int ((u.1 6) + 1)) rfl k1101 (by decide) rfl (MRep.obj hR8) rfl ?_
      refine g_caload X dX4_readNumber_57 (MRep.text hR8) ((hx.adv (by decide) (by decide) c1.2.1).ix (by decide) c11.2.1) ?_
      refine g_iadd X dX4_readNumber_58 ?_
      refine g_bipush (v := 48) X dX4_readNumber_59 (by decide) ?_
      refine g_isub X dX4_readNumber_61 ?_
      refine g_istore_n (L' := [(2, .int (((10 * ((0 + (u.2.1 14 (cN (u.1 6)))) - 48)) + (u.2.1 14 (cN ((u.1 6) + 1)))) - 48)), (3, .int 1), (0, .ref (a 0)), (1, .int 2)]) X dX4_readNumber_62 rfl (by rw [hnL]; decide) rfl ?_
      refine g_aload_n X dX4_readNumber_63 rfl 2 rfl ?_
      refine g_dup X dX4_readNumber_64 rfl ?_
      refine g_get X dX4_readNumber_65 (ci := 4) (k := 12) (v := .int ((u.1 6) + 1)) rfl k1101 (by decide) rfl (MRep.obj hR8) rfl ?_
      refine g_iconst (v := 1) X dX4_readNumber_68 (by decide) ?_
      refine g_iadd X dX4_readNumber_69 ?_
      refine g_put X dX4_readNumber_70 (ci := 4) (k := 12) (ty := .int) rfl k1101 (by decide) rfl rfl (by decide +kernel) rfl rfl (Nat.le_of_ble_eq_true rfl) (MRep.obj hR8) ?_
      refine g_gen (P := fun M9 => MRep κ.Γ a (hsc (hsc u 6 ((u.1 6) + 1)) 6 (((u.1 6) + 1) + 1)) M9 ∧ Fr a 15 M M9) ⟨MRep.sc hR8 6 _ rfl, Fr.tr hF9 (Fr.up (by decide))⟩ (fun M12 ⟨hR13, hF14⟩ => ?_)
      refine g_iinc (k := 1) (v := 2) (L' := [(3, .int 2), (2, .int (((10 * ((0 + (u.2.1 14 (cN (u.1 6)))) - 48)) + (u.2.1 14 (cN ((u.1 6) + 1)))) - 48)), (0, .ref (a 0)), (1, .int 2)]) X dX4_readNumber_73 rfl (by decide) (by rw [hnL]; decide) rfl ?_
      refine g_goto (tgt := 29) X dX4_readNumber_76 (by decide) ?_
      refine g_iload_n X dX4_readNumber_29 rfl 0 rfl ?_
      refine g_iload_n X dX4_readNumber_30 rfl 3 rfl ?_
      refine g_icmp_ge (tgt := 79) X dX4_readNumber_31 (by decide) (fun c15 => ?_) (fun c15 => absurd c15 (by decide))
      refine g_iload_n X dX4_readNumber_79 rfl 1 rfl ?_
      exact g_iret X F dX4_readNumber_80 (by omega) (by omega) (by rw [mRdN_2y c1 c11]; exact ⟨rfl, hR13, hF14⟩)
  · refine g_iconst (v := 1) X dX4_readNumber_16 (by decide) ?_
    refine g_goto (tgt := 21) X dX4_readNumber_17 (by decide) ?_
    refine g_ior X dX4_readNumber_21 ?_
    refine g_lit 1 (or1 hx.2.2.2) ?_
    refine g_put X dX4_readNumber_22 (ci := 4) (k := 18) (ty := .boolean) rfl k1107 (by decide) rfl rfl (by decide +kernel) rfl rfl (Nat.le_of_ble_eq_true rfl) (MRep.obj hR) ?_
    refine g_gen (P := fun M9 => MRep κ.Γ a (hsc u 12 1) M9 ∧ Fr a 15 M M9) ⟨MRep.sc hR 12 _ rfl, (Fr.up (by decide))⟩ (fun M16 ⟨hR17, hF18⟩ => ?_)
    refine g_iconst (v := 0) X dX4_readNumber_25 (by decide) ?_
    refine g_istore_n (L' := [(2, .int 0), (0, .ref (a 0)), (1, .int 2)]) X dX4_readNumber_26 rfl (by rw [hnL]; decide) rfl ?_
    refine g_iconst (v := 0) X dX4_readNumber_27 (by decide) ?_
    refine g_istore_n (L' := [(3, .int 0), (2, .int 0), (0, .ref (a 0)), (1, .int 2)]) X dX4_readNumber_28 rfl (by rw [hnL]; decide) rfl ?_
    refine g_iload_n X dX4_readNumber_29 rfl 0 rfl ?_
    refine g_iload_n X dX4_readNumber_30 rfl 3 rfl ?_
    refine g_icmp_ge (tgt := 79) X dX4_readNumber_31 (by decide) (fun c19 => absurd c19 (by decide)) (fun c19 => ?_)
    refine g_aload_n X dX4_readNumber_34 rfl 2 rfl ?_
    refine g_bipush (v := 48) X dX4_readNumber_35 (by decide) ?_
    refine g_bipush (v := 57) X dX4_readNumber_37 (by decide) ?_
    refine g_callV_rd (As := [.int 48, .int 57]) (ci := 4) (v := some (.int (bI (rSees (hsc u 12 1) 48 57)))) X dX4_readNumber_39 (c_X4_sees κ.l hl κ.Γ M16 a (hsc u 12 1) hR17 hx.bad 48 57) k1514 k1516 kp46 k5 k1517 rfl (MRep.obj hR17) ⟨rfl, by decide, by decide, (show (parseMethodDescriptor yX4_sees.desc).map (fun d => d.parameters.length) = some 2 by decide +kernel)⟩ rfl (Nat.le_of_ble_eq_true rfl) (by rw [hRm]; decide) (by rw [hRm]; exact ⟨Nat.le_of_ble_eq_true rfl, Nat.le_of_ble_eq_true rfl⟩) ?_
    refine g_ifb_eq (tgt := 79) X dX4_readNumber_42 (by decide) (fun _ => ?_) (fun q => absurd q.1 (show ¬ (1 : Int32) = 0 by decide))
    refine g_iload_n X dX4_readNumber_79 rfl 1 rfl ?_
    exact g_iret X F dX4_readNumber_80 (by omega) (by omega) (by rw [mRdN_n c1]; exact ⟨rfl, hR17, hF18⟩)
set_option maxRecDepth 100000 in
set_option maxHeartbeats 4000000 in
theorem c_X4_readBehind1 (l : Launch) (hl : l.stackTraces = false) (Γ : Gm) (M : Hp) (a : Nat → Nat) (u : HV) (hR : MRep Γ a u M) (hx : XInv 200 u) (c : Int32) : Ct l Γ yX4_readBehind cX4_readBehind 3 (some .int) 3 0 0 [.ref (a 0), .int c, .int 1] M (MMu Γ a (rI (mRb u c 1).1, (mRb u c 1).2) M) := by
  refine Ct.of hl (by decide) (Nat.le_of_ble_eq_true rfl) rfl ?_
  intro κ e1 e2 hnL hRm X F hlt
  subst e1 e2
  refine g_aload_n X dX4_readBehind_0 rfl 0 rfl ?_
  refine g_iload_n X dX4_readBehind_1 rfl 1 rfl ?_
  refine g_callV (As := [.int c]) (ci := 4) X dX4_readBehind_2 (c_X4_must κ.l hl κ.Γ M a u hR hx c) k1510 k1512 kp45 k5 k1513 rfl (MRep.obj hR) ⟨rfl, by decide, by decide, (show (parseMethodDescriptor yX4_must.desc).map (fun d => d.parameters.length) = some 1 by decide +kernel)⟩ rfl (Nat.le_of_ble_eq_true rfl) (by rw [hRm]; decide) (by rw [hRm]; exact ⟨Nat.le_of_ble_eq_true rfl, Nat.le_of_ble_eq_true rfl⟩) (fun v1 M1 h1 => ?_) (fun _ _ h9 => by cases h9.1)
  obtain ⟨e1, hR1, hF1⟩ := h1
  have e1 : (Sum.inl v1 : Res) = .inl none := e1
  cases e1
  have hR1 : MRep κ.Γ a (mMust u c) M1 := hR1
  refine g_aload_n X dX4_readBehind_5 rfl 0 rfl ?_
  refine g_iload_n X dX4_readBehind_6 rfl 2 rfl ?_
  refine g_callV (As := [.int 1]) (ci := 4) X dX4_readBehind_7 (c_X4_readNumber1 κ.l hl κ.Γ M1 a (mMust u c) hR1 (hx.must (by decide) (by decide) c)) k1522 k1524 kp48 k5 k1525 rfl (MRep.obj hR1) ⟨rfl, by decide, by decide, (show (parseMethodDescriptor yX4_readNumber.desc).map (fun d => d.parameters.length) = some 1 by decide +kernel)⟩ rfl (Nat.le_of_ble_eq_true rfl) (by rw [hRm]; decide) (by rw [hRm]; exact ⟨Nat.le_of_ble_eq_true rfl, Nat.le_of_ble_eq_true rfl⟩) (fun v2 M2 h2 => ?_) (fun _ _ h9 => by cases h9.1)
  obtain ⟨e2, hR2, hF2⟩ := h2
  have e2 : (Sum.inl v2 : Res) = .inl (some (.int ((mRdN 1 (mMust u c)).1))) := e2
  cases e2
  have hR2 : MRep κ.Γ a ((mRdN 1 (mMust u c)).2) M2 := hR2
  have hF2 := Fr.tr hF1 hF2
  exact g_iret X F dX4_readBehind_10 (by omega) (by omega) ⟨rfl, hR2, hF2⟩
set_option maxRecDepth 100000 in
set_option maxHeartbeats 4000000 in
theorem c_X4_readBehind2 (l : Launch) (hl : l.stackTraces = false) (Γ : Gm) (M : Hp) (a : Nat → Nat) (u : HV) (hR : MRep Γ a u M) (hx : XInv 200 u) (c : Int32) : Ct l Γ yX4_readBehind cX4_readBehind 3 (some .int) 3 0 0 [.ref (a 0), .int c, .int 2] M (MMu Γ a (rI (mRb u c 2).1, (mRb u c 2).2) M) := by
  refine Ct.of hl (by decide) (Nat.le_of_ble_eq_true rfl) rfl ?_
  intro κ e1 e2 hnL hRm X F hlt
  subst e1 e2
  refine g_aload_n X dX4_readBehind_0 rfl 0 rfl ?_
  refine g_iload_n X dX4_readBehind_1 rfl 1 rfl ?_
  refine g_callV (As := [.int c]) (ci := 4) X dX4_readBehind_2 (c_X4_must κ.l hl κ.Γ M a u hR hx c) k1510 k1512 kp45 k5 k1513 rfl (MRep.obj hR) ⟨rfl, by decide, by decide, (show (parseMethodDescriptor yX4_must.desc).map (fun d => d.parameters.length) = some 1 by decide +kernel)⟩ rfl (Nat.le_of_ble_eq_true rfl) (by rw [hRm]; decide) (by rw [hRm]; exact ⟨Nat.le_of_ble_eq_true rfl, Nat.le_of_ble_eq_true rfl⟩) (fun v1 M1 h1 => ?_) (fun _ _ h9 => by cases h9.1)
  obtain ⟨e1, hR1, hF1⟩ := h1
  have e1 : (Sum.inl v1 : Res) = .inl none := e1
  cases e1
  have hR1 : MRep κ.Γ a (mMust u c) M1 := hR1
  refine g_aload_n X dX4_readBehind_5 rfl 0 rfl ?_
  refine g_iload_n X dX4_readBehind_6 rfl 2 rfl ?_
  refine g_callV (As := [.int 2]) (ci := 4) X dX4_readBehind_7 (c_X4_readNumber2 κ.l hl κ.Γ M1 a (mMust u c) hR1 (hx.must (by decide) (by decide) c)) k1522 k1524 kp48 k5 k1525 rfl (MRep.obj hR1) ⟨rfl, by decide, by decide, (show (parseMethodDescriptor yX4_readNumber.desc).map (fun d => d.parameters.length) = some 1 by decide +kernel)⟩ rfl (Nat.le_of_ble_eq_true rfl) (by rw [hRm]; decide) (by rw [hRm]; exact ⟨Nat.le_of_ble_eq_true rfl, Nat.le_of_ble_eq_true rfl⟩) (fun v2 M2 h2 => ?_) (fun _ _ h9 => by cases h9.1)
  obtain ⟨e2, hR2, hF2⟩ := h2
  have e2 : (Sum.inl v2 : Res) = .inl (some (.int ((mRdN 2 (mMust u c)).1))) := e2
  cases e2
  have hR2 : MRep κ.Γ a ((mRdN 2 (mMust u c)).2) M2 := hR2
  have hF2 := Fr.tr hF1 hF2
  exact g_iret X F dX4_readBehind_10 (by omega) (by omega) ⟨rfl, hR2, hF2⟩
