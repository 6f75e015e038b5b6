set_option maxRecDepth 100000 in
set_option maxHeartbeats 4000000 in
theorem c_X3_refuse (l : Launch) (hl : l.stackTraces = false) (Γ : Gm) (M : Hp)  (f : Int32) : Ct l Γ yX3_refuse cX3_refuse 1 none 0 1 6 [.int f] M (Gate (ok0 f) (exn f) M) := by
  refine Ct.of hl (by decide) (Nat.le_of_ble_eq_true rfl) rfl ?_
  intro κ e1 e2 hnL hRm X F hlt
  subst e1 e2
  refine g_iload_n X dX3_refuse_0 rfl 0 rfl ?_
  by_cases e1 : f = 1
  · refine g_tabIn (off := 35) (tgt := 36) X dX3_refuse_1 (by rw [e1]; decide) (by rw [e1]; decide) (by rw [e1]; rfl) (by decide) ?_
    exact g_throw X F (ik := 111) (ic := 113) (cls := "java/lang/IndexOutOfBoundsException") dX3_refuse_36 dX3_refuse_39 dX3_refuse_40 dX3_refuse_43 (by decide +kernel) (by rw [hRm]; decide) (by rw [hRm]; exact Nat.le_of_ble_eq_true rfl) (by rw [hRm]; exact Nat.le_of_ble_eq_true rfl) (by rw [hRm]; exact Nat.le_of_ble_eq_true rfl) (Nat.le_of_ble_eq_true rfl) (Nat.le_of_ble_eq_true rfl) (by exact ⟨Or.inr ⟨(exn_1 e1).1, congrArg Sum.inr (exn_1 e1).2.symm⟩, rfl⟩)
  by_cases e2 : f = 2
  · refine g_tabIn (off := 43) (tgt := 44) X dX3_refuse_1 (by rw [e2]; decide) (by rw [e2]; decide) (by rw [e2]; rfl) (by decide) ?_
    exact g_throw X F (ik := 229) (ic := 231) (cls := "java/lang/IllegalArgumentException") dX3_refuse_44 dX3_refuse_47 dX3_refuse_48 dX3_refuse_51 (by decide +kernel) (by rw [hRm]; decide) (by rw [hRm]; exact Nat.le_of_ble_eq_true rfl) (by rw [hRm]; exact Nat.le_of_ble_eq_true rfl) (by rw [hRm]; exact Nat.le_of_ble_eq_true rfl) (Nat.le_of_ble_eq_true rfl) (Nat.le_of_ble_eq_true rfl) (by exact ⟨Or.inr ⟨(exn_2 e2).1, congrArg Sum.inr (exn_2 e2).2.symm⟩, rfl⟩)
  by_cases e3 : f = 3
  · refine g_tabIn (off := 51) (tgt := 52) X dX3_refuse_1 (by rw [e3]; decide) (by rw [e3]; decide) (by rw [e3]; rfl) (by decide) ?_
    exact g_throw X F (ik := 232) (ic := 234) (cls := "java/lang/IllegalStateException") dX3_refuse_52 dX3_refuse_55 dX3_refuse_56 dX3_refuse_59 (by decide +kernel) (by rw [hRm]; decide) (by rw [hRm]; exact Nat.le_of_ble_eq_true rfl) (by rw [hRm]; exact Nat.le_of_ble_eq_true rfl) (by rw [hRm]; exact Nat.le_of_ble_eq_true rfl) (Nat.le_of_ble_eq_true rfl) (Nat.le_of_ble_eq_true rfl) (by exact ⟨Or.inr ⟨(exn_3 e3).1, congrArg Sum.inr (exn_3 e3).2.symm⟩, rfl⟩)
  by_cases e4 : f = 4
  · refine g_tabIn (off := 59) (tgt := 60) X dX3_refuse_1 (by rw [e4]; decide) (by rw [e4]; decide) (by rw [e4]; rfl) (by decide) ?_
    exact g_throw X F (ik := 152) (ic := 154) (cls := "java/util/NoSuchElementException") dX3_refuse_60 dX3_refuse_63 dX3_refuse_64 dX3_refuse_67 (by decide +kernel) (by rw [hRm]; decide) (by rw [hRm]; exact Nat.le_of_ble_eq_true rfl) (by rw [hRm]; exact Nat.le_of_ble_eq_true rfl) (by rw [hRm]; exact Nat.le_of_ble_eq_true rfl) (Nat.le_of_ble_eq_true rfl) (Nat.le_of_ble_eq_true rfl) (by exact ⟨Or.inr ⟨(exn_4 e4).1, congrArg Sum.inr (exn_4 e4).2.symm⟩, rfl⟩)
  by_cases e5 : f = 5
  · refine g_tabIn (off := 67) (tgt := 68) X dX3_refuse_1 (by rw [e5]; decide) (by rw [e5]; decide) (by rw [e5]; rfl) (by decide) ?_
    exact g_throw X F (ik := 302) (ic := 304) (cls := "java/lang/UnsupportedOperationException") dX3_refuse_68 dX3_refuse_71 dX3_refuse_72 dX3_refuse_75 (by decide +kernel) (by rw [hRm]; decide) (by rw [hRm]; exact Nat.le_of_ble_eq_true rfl) (by rw [hRm]; exact Nat.le_of_ble_eq_true rfl) (by rw [hRm]; exact Nat.le_of_ble_eq_true rfl) (Nat.le_of_ble_eq_true rfl) (Nat.le_of_ble_eq_true rfl) (by exact ⟨Or.inr ⟨(exn_5 e5).1, congrArg Sum.inr (exn_5 e5).2.symm⟩, rfl⟩)
  refine g_tabDef (keys := [1, 2, 3, 4, 5]) (tgt := 76) X dX3_refuse_1 (by decide +kernel) (by decide) (nk e1 (nk e2 (nk e3 (nk e4 (nk e5 nk0))))) (by decide) ?_
  exact g_vret X F dX3_refuse_76 (Nat.le_of_ble_eq_true rfl) (Nat.le_of_ble_eq_true rfl) ⟨Or.inl ⟨(nk e1 (nk e2 (nk e3 (nk e4 (nk e5 nk0))))), rfl⟩, rfl⟩
set_option maxRecDepth 100000 in
set_option maxHeartbeats 4000000 in
theorem c_X3_requireMember (l : Launch) (hl : l.stackTraces = false) (Γ : Gm) (M : Hp) (A : Nat → Nat) (w : PV) (hB : BRep Γ A w M) (hI : BInv w) (x : Int32) : Ct l Γ yX3_requireMember cX3_requireMember 2 none 1 1 6 [.ref (A 313), .int x] M (Gate (hasM (w.1 0) x) eIdx M) := by
  refine Ct.of hl (by decide) (Nat.le_of_ble_eq_true rfl) rfl ?_
  intro κ e1 e2 hnL hRm X F hlt
  subst e1 e2
  refine g_aload_n X dX3_requireMember_0 rfl 0 rfl ?_
  refine g_get X dX3_requireMember_1 (ci := 3) (k := 0) (v := .ref (hA A 0 0)) rfl k154 (by decide) rfl (BRep.obj hB) rfl ?_
  refine g_iload_n X dX3_requireMember_4 rfl 1 rfl ?_
  refine g_callV_rd (As := [.int x]) (ci := 1) (v := some (.int (bI (hasM (w.1 0) x)))) X dX3_requireMember_5 (c_X1_hasMember κ.l hl κ.Γ M (hA A 0) (w.1 0) (hB.1 0 (by decide)) x) k537 k489 k490 k2 k491 rfl (hB.1 0 (by decide)).obj ⟨rfl, by decide, by decide, (show (parseMethodDescriptor yX1_hasMember.desc).map (fun d => d.parameters.length) = some 1 by decide +kernel)⟩ rfl (Nat.le_of_ble_eq_true rfl) (by rw [hRm]; decide) (by rw [hRm]; exact ⟨Nat.le_of_ble_eq_true rfl, Nat.le_of_ble_eq_true rfl⟩) ?_
  refine g_ifb_ne (tgt := 19) X dX3_requireMember_8 (by decide) (fun c1 => ?_) (fun c1 => ?_)
  · exact g_vret X F dX3_requireMember_19 (Nat.le_of_ble_eq_true rfl) (Nat.le_of_ble_eq_true rfl) ⟨Or.inl ⟨c1, rfl⟩, rfl⟩
  · exact g_throw X F (ik := 111) (ic := 113) (cls := "java/lang/IndexOutOfBoundsException") dX3_requireMember_11 dX3_requireMember_14 dX3_requireMember_15 dX3_requireMember_18 (by decide +kernel) (by rw [hRm]; decide) (by rw [hRm]; exact Nat.le_of_ble_eq_true rfl) (by rw [hRm]; exact Nat.le_of_ble_eq_true rfl) (by rw [hRm]; exact Nat.le_of_ble_eq_true rfl) (Nat.le_of_ble_eq_true rfl) (Nat.le_of_ble_eq_true rfl) (by exact ⟨Or.inr ⟨c1, rfl⟩, rfl⟩)
set_option maxRecDepth 100000 in
set_option maxHeartbeats 4000000 in
theorem c_X3_requireBill (l : Launch) (hl : l.stackTraces = false) (Γ : Gm) (M : Hp) (A : Nat → Nat) (w : PV) (hB : BRep Γ A w M) (hI : BInv w) (b : Int32) : Ct l Γ yX3_requireBill cX3_requireBill 2 none 1 1 6 [.ref (A 313), .int b] M (Gate (hasB (w.1 0) b) eIdx M) := by
  refine Ct.of hl (by decide) (Nat.le_of_ble_eq_true rfl) rfl ?_
  intro κ e1 e2 hnL hRm X F hlt
  subst e1 e2
  refine g_aload_n X dX3_requireBill_0 rfl 0 rfl ?_
  refine g_get X dX3_requireBill_1 (ci := 3) (k := 0) (v := .ref (hA A 0 0)) rfl k154 (by decide) rfl (BRep.obj hB) rfl ?_
  refine g_iload_n X dX3_requireBill_4 rfl 1 rfl ?_
  refine g_callV_rd (As := [.int b]) (ci := 1) (v := some (.int (bI (hasB (w.1 0) b)))) X dX3_requireBill_5 (c_X1_hasBill κ.l hl κ.Γ M (hA A 0) (w.1 0) (hB.1 0 (by decide)) b) k592 k593 k594 k2 k595 rfl (hB.1 0 (by decide)).obj ⟨rfl, by decide, by decide, (show (parseMethodDescriptor yX1_hasBill.desc).map (fun d => d.parameters.length) = some 1 by decide +kernel)⟩ rfl (Nat.le_of_ble_eq_true rfl) (by rw [hRm]; decide) (by rw [hRm]; exact ⟨Nat.le_of_ble_eq_true rfl, Nat.le_of_ble_eq_true rfl⟩) ?_
  refine g_ifb_ne (tgt := 19) X dX3_requireBill_8 (by decide) (fun c1 => ?_) (fun c1 => ?_)
  · exact g_vret X F dX3_requireBill_19 (Nat.le_of_ble_eq_true rfl) (Nat.le_of_ble_eq_true rfl) ⟨Or.inl ⟨c1, rfl⟩, rfl⟩
  · exact g_throw X F (ik := 111) (ic := 113) (cls := "java/lang/IndexOutOfBoundsException") dX3_requireBill_11 dX3_requireBill_14 dX3_requireBill_15 dX3_requireBill_18 (by decide +kernel) (by rw [hRm]; decide) (by rw [hRm]; exact Nat.le_of_ble_eq_true rfl) (by rw [hRm]; exact Nat.le_of_ble_eq_true rfl) (by rw [hRm]; exact Nat.le_of_ble_eq_true rfl) (Nat.le_of_ble_eq_true rfl) (Nat.le_of_ble_eq_true rfl) (by exact ⟨Or.inr ⟨c1, rfl⟩, rfl⟩)
set_option maxRecDepth 100000 in
set_option maxHeartbeats 4000000 in
theorem c_X3_requirePending (l : Launch) (hl : l.stackTraces = false) (Γ : Gm) (M : Hp) (A : Nat → Nat) (w : PV) (hB : BRep Γ A w M) (hI : BInv w) (b : Int32) (x : Int32) : Ct l Γ yX3_requirePending cX3_requirePending 3 none 2 2 12 [.ref (A 313), .int b, .int x] M (Gate (hasB (w.1 0) b ∧ hasP (w.1 0) b x) (ePend (w.1 0) b) M) := by
  refine Ct.of hl (by decide) (Nat.le_of_ble_eq_true rfl) rfl ?_
  intro κ e1 e2 hnL hRm X F hlt
  subst e1 e2
  refine g_aload_n X dX3_requirePending_0 rfl 0 rfl ?_
  refine g_iload_n X dX3_requirePending_1 rfl 1 rfl ?_
  refine g_gateV (As := [.int b]) (ci := 3) (ok := hasB (w.1 0) b) (e := eIdx) X dX3_requirePending_2 (c_X3_requireBill κ.l hl κ.Γ M A w hB hI b) k588 k590 kp5 k1 k591 rfl (BRep.obj hB) ⟨rfl, by decide, by decide, (show (parseMethodDescriptor yX3_requireBill.desc).map (fun d => d.parameters.length) = some 1 by decide +kernel)⟩ rfl (Nat.le_of_ble_eq_true rfl) (by rw [hRm]; decide) (by rw [hRm]; exact ⟨Nat.le_of_ble_eq_true rfl, Nat.le_of_ble_eq_true rfl⟩) (fun g1 => ?_) (fun E7 M7 h7 => gx_out X F (Nat.le_of_ble_eq_true rfl) (Nat.le_of_ble_eq_true rfl) (by exact Gate.x2 h7 (fun q => ⟨fun z => q z.1, (if_neg q).symm⟩)))
  have vb := (hI.1 0 (by decide)).b g1
  refine g_aload_n X dX3_requirePending_5 rfl 0 rfl ?_
  refine g_get X dX3_requirePending_6 (ci := 3) (k := 0) (v := .ref (hA A 0 0)) rfl k154 (by decide) rfl (BRep.obj hB) rfl ?_
  refine g_iload_n X dX3_requirePending_9 rfl 1 rfl ?_
  refine g_iload_n X dX3_requirePending_10 rfl 2 rfl ?_
  refine g_callV_rd (As := [.int b, .int x]) (ci := 1) (v := some (.int (bI (hasP (w.1 0) b x)))) X dX3_requirePending_11 (c_X1_hasPending κ.l hl κ.Γ M (hA A 0) (w.1 0) (hB.1 0 (by decide)) b x vb) k800 k760 k761 k2 k762 rfl (hB.1 0 (by decide)).obj ⟨rfl, by decide, by decide, (show (parseMethodDescriptor yX1_hasPending.desc).map (fun d => d.parameters.length) = some 2 by decide +kernel)⟩ rfl (Nat.le_of_ble_eq_true rfl) (by rw [hRm]; decide) (by rw [hRm]; exact ⟨Nat.le_of_ble_eq_true rfl, Nat.le_of_ble_eq_true rfl⟩) ?_
  refine g_ifb_ne (tgt := 25) X dX3_requirePending_14 (by decide) (fun c2 => ?_) (fun c2 => ?_)
  · exact g_vret X F dX3_requirePending_25 (Nat.le_of_ble_eq_true rfl) (Nat.le_of_ble_eq_true rfl) ⟨Or.inl ⟨⟨g1, c2⟩, rfl⟩, rfl⟩
  · exact g_throw X F (ik := 152) (ic := 154) (cls := "java/util/NoSuchElementException") dX3_requirePending_17 dX3_requirePending_20 dX3_requirePending_21 dX3_requirePending_24 (by decide +kernel) (by rw [hRm]; decide) (by rw [hRm]; exact Nat.le_of_ble_eq_true rfl) (by rw [hRm]; exact Nat.le_of_ble_eq_true rfl) (by rw [hRm]; exact Nat.le_of_ble_eq_true rfl) (Nat.le_of_ble_eq_true rfl) (Nat.le_of_ble_eq_true rfl) (by exact ⟨Or.inr ⟨fun z => c2 z.2, congrArg Sum.inr (if_pos g1).symm⟩, rfl⟩)
set_option maxRecDepth 100000 in
set_option maxHeartbeats 4000000 in
theorem c_X3_remember (l : Launch) (hl : l.stackTraces = false) (Γ : Gm) (M : Hp) (A : Nat → Nat) (w : PV) (hB : BRep Γ A w M) (hI : BInv w) (k : Nat) (hk : k < 2) (hn : vp_in (w.2.2.2.2 1) 8) : Ct l Γ yX3_remember cX3_remember 2 none 1 0 0 [.ref (A 313), .ref (hA A k 0)] M (BMu Γ A (.inl none, wRem w (w.1 k)) M) := by
  refine Ct.of hl (by decide) (Nat.le_of_ble_eq_true rfl) rfl ?_
  intro κ e1 e2 hnL hRm X F hlt
  subst e1 e2
  refine g_aload_n X dX3_remember_0 rfl 0 rfl ?_
  refine g_get X dX3_remember_1 (ci := 3) (k := 4) (v := .ref (A 314)) rfl k158 (by decide) rfl (BRep.obj hB) rfl ?_
  refine g_aload_n X dX3_remember_4 rfl 0 rfl ?_
  refine g_get X dX3_remember_5 (ci := 3) (k := 5) (v := .int (w.2.2.2.2 1)) rfl k159 (by decide) rfl (BRep.obj hB) rfl ?_
  refine g_aaload (t0 := 4) (v := .ref (hA A (3 + cN (w.2.2.2.2 1)) 0)) X dX3_remember_8 (BRep.hist hB) rfl rfl hn (rf_hist hn) ?_
  refine g_aload_n X dX3_remember_9 rfl 1 rfl ?_
  refine g_callV (As := [.ref (hA A k 0)]) (ci := 1) X dX3_remember_10 (c_X1_copyFrom κ.l hl κ.Γ M (hA A (3 + cN (w.2.2.2.2 1))) (w.2.1 (cN (w.2.2.2.2 1))) (hB.2.1 (cN (w.2.2.2.2 1)) (vin_lt hn)) (hA A k) (w.1 k) (hB.1 k (Nat.lt_of_lt_of_le hk (by decide))) (BRep.dj hB (by have := hk; omega) (by have := (vin_lt hn); omega) (by have := hk; omega))) k279 k280 k281 k2 k282 rfl (HRep.obj (hB.2.1 (cN (w.2.2.2.2 1)) (vin_lt hn))) ⟨rfl, by decide, by decide, (show (parseMethodDescriptor yX1_copyFrom.desc).map (fun d => d.parameters.length) = some 1 by decide +kernel)⟩ rfl (Nat.le_of_ble_eq_true rfl) (by rw [hRm]; decide) (by rw [hRm]; exact ⟨Nat.le_of_ble_eq_true rfl, Nat.le_of_ble_eq_true rfl⟩) (fun v0 M0 h0 => ?_) (fun _ _ h9 => by cases h9.1)
  obtain ⟨e0, hR0, hF0⟩ := h0
  cases e0
  have hB2 : BRep κ.Γ A (wQ w (cN (w.2.2.2.2 1)) (w.1 k)) M0 := BRep.qs hB (vin_lt hn) hR0 hF0
  have hFA3 : Fr A 315 M M0 := Fr.hA (h := (3 + cN (w.2.2.2.2 1))) hF0 (by have := (vin_lt hn); omega)
  refine g_aload_n X dX3_remember_13 rfl 0 rfl ?_
  refine g_aload_n X dX3_remember_14 rfl 0 rfl ?_
  refine g_get X dX3_remember_15 (ci := 3) (k := 5) (v := .int ((wQ w (cN (w.2.2.2.2 1)) (w.1 k)).2.2.2.2 1)) rfl k159 (by decide) rfl (BRep.obj hB2) rfl ?_
  refine g_bipush (v := 7) X dX3_remember_18 (by decide) ?_
  refine g_icmp_ne (tgt := 27) X dX3_remember_20 (by decide) (fun c4 => ?_) (fun c4 => ?_)
  · refine g_aload_n X dX3_remember_27 rfl 0 rfl ?_
    refine g_get X dX3_remember_28 (ci := 3) (k := 5) (v := .int ((wQ w (cN (w.2.2.2.2 1)) (w.1 k)).2.2.2.2 1)) rfl k159 (by decide) rfl (BRep.obj hB2) rfl ?_
    refine g_iconst (v := 1) X dX3_remember_31 (by decide) ?_
    refine g_iadd X dX3_remember_32 ?_
    refine g_put X dX3_remember_33 (ci := 3) (k := 5) (ty := .int) rfl k159 (by decide) rfl rfl (by decide +kernel) rfl rfl (Nat.le_of_ble_eq_true rfl) (BRep.obj hB2) ?_
    refine g_gen (P := fun M9 => BRep κ.Γ A (wS (wQ w (cN (w.2.2.2.2 1)) (w.1 k)) 1 (((wQ w (cN (w.2.2.2.2 1)) (w.1 k)).2.2.2.2 1) + 1)) M9 ∧ Fr A 315 M M9) ⟨BRep.sc hB2 1 _ rfl, Fr.tr hFA3 (Fr.up (by decide))⟩ (fun M5 ⟨hB6, hFA7⟩ => ?_)
    refine g_aload_n X dX3_remember_36 rfl 0 rfl ?_
    refine g_aload_n X dX3_remember_37 rfl 0 rfl ?_
    refine g_get X dX3_remember_38 (ci := 3) (k := 6) (v := .int ((wS (wQ w (cN (w.2.2.2.2 1)) (w.1 k)) 1 (((wQ w (cN (w.2.2.2.2 1)) (w.1 k)).2.2.2.2 1) + 1)).2.2.2.2 2)) rfl k160 (by decide) rfl (BRep.obj hB6) rfl ?_
    refine g_iconst (v := 1) X dX3_remember_41 (by decide) ?_
    refine g_iadd X dX3_remember_42 ?_
    refine g_bipush (v := 8) X dX3_remember_43 (by decide) ?_
    refine g_min X dX3_remember_45 k470 (by rw [hRm]; decide) (by rw [hRm]; exact Nat.le_of_ble_eq_true rfl) (by rw [hRm]; exact Nat.le_of_ble_eq_true rfl) (by rw [hRm]; exact Nat.le_of_ble_eq_true rfl) ?_
    refine g_put X dX3_remember_48 (ci := 3) (k := 6) (ty := .int) rfl k160 (by decide) rfl rfl (by decide +kernel) rfl rfl (Nat.le_of_ble_eq_true rfl) (BRep.obj hB6) ?_
    refine g_gen (P := fun M9 => BRep κ.Γ A (wS (wS (wQ w (cN (w.2.2.2.2 1)) (w.1 k)) 1 (((wQ w (cN (w.2.2.2.2 1)) (w.1 k)).2.2.2.2 1) + 1)) 2 (if 8 < ((wS (wQ w (cN (w.2.2.2.2 1)) (w.1 k)) 1 (((wQ w (cN (w.2.2.2.2 1)) (w.1 k)).2.2.2.2 1) + 1)).2.2.2.2 2) + 1 then 8 else ((wS (wQ w (cN (w.2.2.2.2 1)) (w.1 k)) 1 (((wQ w (cN (w.2.2.2.2 1)) (w.1 k)).2.2.2.2 1) + 1)).2.2.2.2 2) + 1)) M9 ∧ Fr A 315 M M9) ⟨BRep.sc hB6 2 _ rfl, Fr.tr hFA7 (Fr.up (by decide))⟩ (fun M8 ⟨hB9, hFA10⟩ => ?_)
    exact g_vret X F dX3_remember_51 (Nat.le_of_ble_eq_true rfl) (Nat.le_of_ble_eq_true rfl) ⟨rfl, by (show BRep κ.Γ A (wRem w (w.1 k)) _); unfold wRem; dsimp only; rw [if_neg c4]; exact hB9, hFA10⟩
  · refine g_iconst (v := 0) X dX3_remember_23 (by decide) ?_
    refine g_goto (tgt := 33) X dX3_remember_24 (by decide) ?_
    refine g_put X dX3_remember_33 (ci := 3) (k := 5) (ty := .int) rfl k159 (by decide) rfl rfl (by decide +kernel) rfl rfl (Nat.le_of_ble_eq_true rfl) (BRep.obj hB2) ?_
    refine g_gen (P := fun M9 => BRep κ.Γ A (wS (wQ w (cN (w.2.2.2.2 1)) (w.1 k)) 1 0) M9 ∧ Fr A 315 M M9) ⟨BRep.sc hB2 1 _ rfl, Fr.tr hFA3 (Fr.up (by decide))⟩ (fun M11 ⟨hB12, hFA13⟩ => ?_)
    refine g_aload_n X dX3_remember_36 rfl 0 rfl ?_
    refine g_aload_n X dX3_remember_37 rfl 0 rfl ?_
    refine g_get X dX3_remember_38 (ci := 3) (k := 6) (v := .int ((wS (wQ w (cN (w.2.2.2.2 1)) (w.1 k)) 1 0).2.2.2.2 2)) rfl k160 (by decide) rfl (BRep.obj hB12) rfl ?_
    refine g_iconst (v := 1) X dX3_remember_41 (by decide) ?_
    refine g_iadd X dX3_remember_42 ?_
    refine g_bipush (v := 8) X dX3_remember_43 (by decide) ?_
    refine g_min X dX3_remember_45 k470 (by rw [hRm]; decide) (by rw [hRm]; exact Nat.le_of_ble_eq_true rfl) (by rw [hRm]; exact Nat.le_of_ble_eq_true rfl) (by rw [hRm]; exact Nat.le_of_ble_eq_true rfl) ?_
    refine g_put X dX3_remember_48 (ci := 3) (k := 6) (ty := .int) rfl k160 (by decide) rfl rfl (by decide +kernel) rfl rfl (Nat.le_of_ble_eq_true rfl) (BRep.obj hB12) ?_
    refine g_gen (P := fun M9 => BRep κ.Γ A (wS (wS (wQ w (cN (w.2.2.2.2 1)) (w.1 k)) 1 0) 2 (if 8 < ((wS (wQ w (cN (w.2.2.2.2 1)) (w.1 k)) 1 0).2.2.2.2 2) + 1 then 8 else ((wS (wQ w (cN (w.2.2.2.2 1)) (w.1 k)) 1 0).2.2.2.2 2) + 1)) M9 ∧ Fr A 315 M M9) ⟨BRep.sc hB12 2 _ rfl, Fr.tr hFA13 (Fr.up (by decide))⟩ (fun M14 ⟨hB15, hFA16⟩ => ?_)
    exact g_vret X F dX3_remember_51 (Nat.le_of_ble_eq_true rfl) (Nat.le_of_ble_eq_true rfl) ⟨rfl, by (show BRep κ.Γ A (wRem w (w.1 k)) _); unfold wRem; dsimp only; rw [if_pos c4]; exact hB15, hFA16⟩
