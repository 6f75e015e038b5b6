set_option maxRecDepth 100000 in
set_option maxHeartbeats 4000000 in
theorem c_X4_keyword (l : Launch) (hl : l.stackTraces = false) (Γ : Gm) (M : Hp) (a : Nat → Nat) (u : HV) (hR : MRep Γ a u M) : Ct l Γ yX4_keyword cX4_keyword 1 (some (.object "java/lang/String")) 0 0 0 [.ref (a 0)] M (Rd (some (.ref (sK Γ (kIx (u.1 13))))) M) := by
  refine Ct.of hl (by decide) (Nat.le_of_ble_eq_true rfl) rfl ?_
  intro κ e1 e2 hnL hRm X F hlt
  subst e1 e2
  refine g_aload_n X dX4_keyword_0 rfl 0 rfl ?_
  refine g_get X dX4_keyword_1 (ci := 4) (k := 19) (v := .int (u.1 13)) rfl k1108 (by decide) rfl (MRep.obj hR) rfl ?_
  refine g_topi (fun z1 hz1 => ?_)
  by_cases e2 : z1 = 101
  · refine g_tabIn (off := 116) (tgt := 120) X dX4_keyword_4 (by rw [e2]; decide) (by rw [e2]; decide) (by rw [e2]; rfl) (by decide) ?_
    refine g_ldcS (i := 13) X dX4_keyword_120 (by decide) rfl rfl ?_
    exact g_aret X F dX4_keyword_122 (by omega) (by omega) ⟨by rw [← hz1, show kIx z1 = 13 from by rw [e2]; rfl], rfl⟩
  by_cases e3 : z1 = 108
  · refine g_tabIn (off := 119) (tgt := 123) X dX4_keyword_4 (by rw [e3]; decide) (by rw [e3]; decide) (by rw [e3]; rfl) (by decide) ?_
    refine g_ldcS (i := 14) X dX4_keyword_123 (by decide) rfl rfl ?_
    exact g_aret X F dX4_keyword_125 (by omega) (by omega) ⟨by rw [← hz1, show kIx z1 = 14 from by rw [e3]; rfl], rfl⟩
  by_cases e4 : z1 = 113
  · refine g_tabIn (off := 122) (tgt := 126) X dX4_keyword_4 (by rw [e4]; decide) (by rw [e4]; decide) (by rw [e4]; rfl) (by decide) ?_
    refine g_ldcS (i := 15) X dX4_keyword_126 (by decide) rfl rfl ?_
    exact g_aret X F dX4_keyword_128 (by omega) (by omega) ⟨by rw [← hz1, show kIx z1 = 15 from by rw [e4]; rfl], rfl⟩
  by_cases e5 : z1 = 98
  · refine g_tabIn (off := 125) (tgt := 129) X dX4_keyword_4 (by rw [e5]; decide) (by rw [e5]; decide) (by rw [e5]; rfl) (by decide) ?_
    refine g_ldcS (i := 16) X dX4_keyword_129 (by decide) rfl rfl ?_
    exact g_aret X F dX4_keyword_131 (by omega) (by omega) ⟨by rw [← hz1, show kIx z1 = 16 from by rw [e5]; rfl], rfl⟩
  by_cases e6 : z1 = 121
  · refine g_tabIn (off := 128) (tgt := 132) X dX4_keyword_4 (by rw [e6]; decide) (by rw [e6]; decide) (by rw [e6]; rfl) (by decide) ?_
    refine g_ldcS (i := 17) X dX4_keyword_132 (by decide) rfl rfl ?_
    exact g_aret X F dX4_keyword_134 (by omega) (by omega) ⟨by rw [← hz1, show kIx z1 = 17 from by rw [e6]; rfl], rfl⟩
  by_cases e7 : z1 = 110
  · refine g_tabIn (off := 131) (tgt := 135) X dX4_keyword_4 (by rw [e7]; decide) (by rw [e7]; decide) (by rw [e7]; rfl) (by decide) ?_
    refine g_ldcS (i := 18) X dX4_keyword_135 (by decide) rfl rfl ?_
    exact g_aret X F dX4_keyword_137 (by omega) (by omega) ⟨by rw [← hz1, show kIx z1 = 18 from by rw [e7]; rfl], rfl⟩
  by_cases e8 : z1 = 99
  · refine g_tabIn (off := 134) (tgt := 138) X dX4_keyword_4 (by rw [e8]; decide) (by rw [e8]; decide) (by rw [e8]; rfl) (by decide) ?_
    refine g_ldcS (i := 19) X dX4_keyword_138 (by decide) rfl rfl ?_
    exact g_aret X F dX4_keyword_140 (by omega) (by omega) ⟨by rw [← hz1, show kIx z1 = 19 from by rw [e8]; rfl], rfl⟩
  by_cases e9 : z1 = 97
  · refine g_tabIn (off := 137) (tgt := 141) X dX4_keyword_4 (by rw [e9]; decide) (by rw [e9]; decide) (by rw [e9]; rfl) (by decide) ?_
    refine g_ldcS (i := 20) X dX4_keyword_141 (by decide) rfl rfl ?_
    exact g_aret X F dX4_keyword_143 (by omega) (by omega) ⟨by rw [← hz1, show kIx z1 = 20 from by rw [e9]; rfl], rfl⟩
  by_cases e10 : z1 = 115
  · refine g_tabIn (off := 140) (tgt := 144) X dX4_keyword_4 (by rw [e10]; decide) (by rw [e10]; decide) (by rw [e10]; rfl) (by decide) ?_
    refine g_ldcS (i := 21) X dX4_keyword_144 (by decide) rfl rfl ?_
    exact g_aret X F dX4_keyword_146 (by omega) (by omega) ⟨by rw [← hz1, show kIx z1 = 21 from by rw [e10]; rfl], rfl⟩
  by_cases e11 : z1 = 100
  · refine g_tabIn (off := 143) (tgt := 147) X dX4_keyword_4 (by rw [e11]; decide) (by rw [e11]; decide) (by rw [e11]; rfl) (by decide) ?_
    refine g_ldcS (i := 22) X dX4_keyword_147 (by decide) rfl rfl ?_
    exact g_aret X F dX4_keyword_149 (by omega) (by omega) ⟨by rw [← hz1, show kIx z1 = 22 from by rw [e11]; rfl], rfl⟩
  by_cases e12 : z1 = 114
  · refine g_tabIn (off := 146) (tgt := 150) X dX4_keyword_4 (by rw [e12]; decide) (by rw [e12]; decide) (by rw [e12]; rfl) (by decide) ?_
    refine g_ldcS (i := 23) X dX4_keyword_150 (by decide) rfl rfl ?_
    exact g_aret X F dX4_keyword_152 (by omega) (by omega) ⟨by rw [← hz1, show kIx z1 = 23 from by rw [e12]; rfl], rfl⟩
  refine g_tabDef (keys := [101, 108, 113, 98, 121, 110, 99, 97, 115, 100, 114]) (tgt := 153) X dX4_keyword_4 (by decide +kernel) (by decide) (nk e2 (nk e3 (nk e4 (nk e5 (nk e6 (nk e7 (nk e8 (nk e9 (nk e10 (nk e11 (nk e12 nk0))))))))))) (by decide) ?_
  refine g_ldcS (i := 24) X dX4_keyword_153 (by decide) rfl rfl ?_
  exact g_aret X F dX4_keyword_155 (by omega) (by omega) ⟨by rw [← hz1, show kIx z1 = 24 from kIx_24 (nk e2 (nk e3 (nk e4 (nk e5 (nk e6 (nk e7 (nk e8 (nk e9 (nk e10 (nk e11 (nk e12 nk0)))))))))))], rfl⟩
set_option maxRecDepth 100000 in
set_option maxHeartbeats 4000000 in
theorem c_X4_readOther (l : Launch) (hl : l.stackTraces = false) (Γ : Gm) (M : Hp) (a : Nat → Nat) (u : HV) (hR : MRep Γ a u M) (hx : XInv 200 u) : Ct l Γ yX4_readOther cX4_readOther 1 none 4 0 0 [.ref (a 0)] M (MMu Γ a (.inl none, mOther (u.1 13) u) M) := by
  refine Ct.of hl (by decide) (Nat.le_of_ble_eq_true rfl) rfl ?_
  intro κ e1 e2 hnL hRm X F hlt
  subst e1 e2
  refine g_aload_n X dX4_readOther_0 rfl 0 rfl ?_
  refine g_aload_n X dX4_readOther_1 rfl 0 rfl ?_
  refine g_bipush (v := 32) X dX4_readOther_2 (by decide) ?_
  refine g_iconst (v := 1) X dX4_readOther_4 (by decide) ?_
  refine g_callV (As := [.int 32, .int 1]) (ci := 4) X dX4_readOther_5 (c_X4_readBehind1 κ.l hl κ.Γ M a u hR hx 32) k1518 k1520 kp47 k5 k1521 rfl (MRep.obj hR) ⟨rfl, by decide, by decide, (show (parseMethodDescriptor yX4_readBehind.desc).map (fun d => d.parameters.length) = some 2 by decide +kernel)⟩ rfl (Nat.le_of_ble_eq_true rfl) (by rw [hRm]; decide) (by rw [hRm]; exact ⟨Nat.le_of_ble_eq_true rfl, Nat.le_of_ble_eq_true rfl⟩) (fun v1 M1 h1 => ?_) (fun _ _ h9 => by cases h9.1)
  obtain ⟨e1, hR1, hF1⟩ := h1
  have e1 : (Sum.inl v1 : Res) = .inl (some (.int ((mRb u 32 1).1))) := e1
  cases e1
  have hR1 : MRep κ.Γ a ((mRb u 32 1).2) M1 := hR1
  refine g_put X dX4_readOther_8 (ci := 4) (k := 15) (ty := .int) rfl k1104 (by decide) rfl rfl (by decide +kernel) rfl rfl (Nat.le_of_ble_eq_true rfl) (MRep.obj hR1) ?_
  refine g_gen (P := fun M9 => MRep κ.Γ a (hsc ((mRb u 32 1).2) 9 ((mRb u 32 1).1)) M9 ∧ Fr a 15 M M9) ⟨MRep.sc hR1 9 _ rfl, Fr.tr hF1 (Fr.up (by decide))⟩ (fun M2 ⟨hR3, hF4⟩ => ?_)
  refine g_aload_n X dX4_readOther_11 rfl 0 rfl ?_
  refine g_get X dX4_readOther_12 (ci := 4) (k := 19) (v := .int (((mRb u 32 1).2).1 13)) rfl k1108 (by decide) rfl (MRep.obj hR3) rfl ?_
  refine g_lit (u.1 13) ((Tx.rb (u := u) (c := 32) (d := 1) (Or.inl rfl)).1 13 (by decide) (by decide)) ?_
  refine g_bipush (v := 121) X dX4_readOther_15 (by decide) ?_
  refine g_icmp_eq (tgt := 29) X dX4_readOther_17 (by decide) (fun c5 => ?_) (fun c5 => ?_)
  · refine g_aload_n X dX4_readOther_29 rfl 0 rfl ?_
    refine g_aload_n X dX4_readOther_30 rfl 0 rfl ?_
    refine g_bipush (v := 32) X dX4_readOther_31 (by decide) ?_
    refine g_iconst (v := 2) X dX4_readOther_33 (by decide) ?_
    refine g_callV (As := [.int 32, .int 2]) (ci := 4) X dX4_readOther_34 (c_X4_readBehind2 κ.l hl κ.Γ M2 a (hsc ((mRb u 32 1).2) 9 ((mRb u 32 1).1)) hR3 ((hx.rb (by decide) (by decide) (Or.inl rfl)).sc (by decide) (by decide) (by decide)) 32) k1518 k1520 kp47 k5 k1521 rfl (MRep.obj hR3) ⟨rfl, by decide, by decide, (show (parseMethodDescriptor yX4_readBehind.desc).map (fun d => d.parameters.length) = some 2 by decide +kernel)⟩ rfl (Nat.le_of_ble_eq_true rfl) (by rw [hRm]; decide) (by rw [hRm]; exact ⟨Nat.le_of_ble_eq_true rfl, Nat.le_of_ble_eq_true rfl⟩) (fun v6 M6 h6 => ?_) (fun _ _ h9 => by cases h9.1)
    obtain ⟨e6, hR6, hF6⟩ := h6
    have e6 : (Sum.inl v6 : Res) = .inl (some (.int ((mRb (hsc ((mRb u 32 1).2) 9 ((mRb u 32 1).1)) 32 2).1))) := e6
    cases e6
    have hR6 : MRep κ.Γ a ((mRb (hsc ((mRb u 32 1).2) 9 ((mRb u 32 1).1)) 32 2).2) M6 := hR6
    have hF6 := Fr.tr hF4 hF6
    refine g_put X dX4_readOther_37 (ci := 4) (k := 16) (ty := .int) rfl k1105 (by decide) rfl rfl (by decide +kernel) rfl rfl (Nat.le_of_ble_eq_true rfl) (MRep.obj hR6) ?_
    refine g_gen (P := fun M9 => MRep κ.Γ a (hsc ((mRb (hsc ((mRb u 32 1).2) 9 ((mRb u 32 1).1)) 32 2).2) 10 ((mRb (hsc ((mRb u 32 1).2) 9 ((mRb u 32 1).1)) 32 2).1)) M9 ∧ Fr a 15 M M9) ⟨MRep.sc hR6 10 _ rfl, Fr.tr hF6 (Fr.up (by decide))⟩ (fun M7 ⟨hR8, hF9⟩ => ?_)
    refine g_goto (tgt := 102) X dX4_readOther_40 (by decide) ?_
    exact g_vret X F dX4_readOther_102 (by omega) (by omega) ⟨rfl, (by (show MRep κ.Γ a (mOther (u.1 13) u) _); unfold mOther; rw [if_pos c5]; exact hR8), hF9⟩
  · refine g_aload_n X dX4_readOther_20 rfl 0 rfl ?_
    refine g_get X dX4_readOther_21 (ci := 4) (k := 19) (v := .int (((mRb u 32 1).2).1 13)) rfl k1108 (by decide) rfl (MRep.obj hR3) rfl ?_
    refine g_lit (u.1 13) ((Tx.rb (u := u) (c := 32) (d := 1) (Or.inl rfl)).1 13 (by decide) (by decide)) ?_
    refine g_bipush (v := 110) X dX4_readOther_24 (by decide) ?_
    refine g_icmp_ne (tgt := 43) X dX4_readOther_26 (by decide) (fun c10 => ?_) (fun c10 => ?_)
    · refine g_aload_n X dX4_readOther_43 rfl 0 rfl ?_
      refine g_get X dX4_readOther_44 (ci := 4) (k := 19) (v := .int (((mRb u 32 1).2).1 13)) rfl k1108 (by decide) rfl (MRep.obj hR3) rfl ?_
      refine g_lit (u.1 13) ((Tx.rb (u := u) (c := 32) (d := 1) (Or.inl rfl)).1 13 (by decide) (by decide)) ?_
      refine g_bipush (v := 115) X dX4_readOther_47 (by decide) ?_
      refine g_icmp_ne (tgt := 75) X dX4_readOther_49 (by decide) (fun c11 => ?_) (fun c11 => ?_)
      · refine g_aload_n X dX4_readOther_75 rfl 0 rfl ?_
        refine g_get X dX4_readOther_76 (ci := 4) (k := 19) (v := .int (((mRb u 32 1).2).1 13)) rfl k1108 (by decide) rfl (MRep.obj hR3) rfl ?_
        refine g_lit (u.1 13) ((Tx.rb (u := u) (c := 32) (d := 1) (Or.inl rfl)).1 13 (by decide) (by decide)) ?_
        refine g_bipush (v := 99) X dX4_readOther_79 (by decide) ?_
        refine g_icmp_eq (tgt := 102) X dX4_readOther_81 (by decide) (fun c12 => ?_) (fun c12 => ?_)
        · exact g_vret X F dX4_readOther_102 (by omega) (by omega) ⟨rfl, (by (show MRep κ.Γ a (mOther (u.1 13) u) _); unfold mOther; rw [if_neg c5, if_neg c10, if_neg c11, if_pos c12]; exact hR3), hF4⟩
        · refine g_aload_n X dX4_readOther_84 rfl 0 rfl ?_
          refine g_get X dX4_readOther_85 (ci := 4) (k := 19) (v := .int (((mRb u 32 1).2).1 13)) rfl k1108 (by decide) rfl (MRep.obj hR3) rfl ?_
          refine g_lit (u.1 13) ((Tx.rb (u := u) (c := 32) (d := 1) (Or.inl rfl)).1 13 (by decide) (by decide)) ?_
          refine g_bipush (v := 100) X dX4_readOther_88 (by decide) ?_
          refine g_icmp_eq (tgt := 102) X dX4_readOther_90 (by decide) (fun c13 => ?_) (fun c13 => ?_)
          · exact g_vret X F dX4_readOther_102 (by omega) (by omega) ⟨rfl, (by (show MRep κ.Γ a (mOther (u.1 13) u) _); unfold mOther; rw [if_neg c5, if_neg c10, if_neg c11, if_neg c12, if_pos c13]; exact hR3), hF4⟩
          · refine g_aload_n X dX4_readOther_93 rfl 0 rfl ?_
            refine g_aload_n X dX4_readOther_94 rfl 0 rfl ?_
            refine g_iconst (v := 1) X dX4_readOther_95 (by decide) ?_
            refine g_callV (As := [.int 1]) (ci := 4) X dX4_readOther_96 (c_X4_readNumber1 κ.l hl κ.Γ M2 a (hsc ((mRb u 32 1).2) 9 ((mRb u 32 1).1)) hR3 ((hx.rb (by decide) (by decide) (Or.inl rfl)).sc (by decide) (by decide) (by decide))) k1522 k1524 kp48 k5 k1525 rfl (MRep.obj hR3) ⟨rfl, by decide, by decide, (show (parseMethodDescriptor yX4_readNumber.desc).map (fun d => d.parameters.length) = some 1 by decide +kernel)⟩ rfl (Nat.le_of_ble_eq_true rfl) (by rw [hRm]; decide) (by rw [hRm]; exact ⟨Nat.le_of_ble_eq_true rfl, Nat.le_of_ble_eq_true rfl⟩) (fun v14 M14 h14 => ?_) (fun _ _ h9 => by cases h9.1)
            obtain ⟨e14, hR14, hF14⟩ := h14
            have e14 : (Sum.inl v14 : Res) = .inl (some (.int ((mRdN 1 (hsc ((mRb u 32 1).2) 9 ((mRb u 32 1).1))).1))) := e14
            cases e14
            have hR14 : MRep κ.Γ a ((mRdN 1 (hsc ((mRb u 32 1).2) 9 ((mRb u 32 1).1))).2) M14 := hR14
            have hF14 := Fr.tr hF4 hF14
            refine g_put X dX4_readOther_99 (ci := 4) (k := 16) (ty := .int) rfl k1105 (by decide) rfl rfl (by decide +kernel) rfl rfl (Nat.le_of_ble_eq_true rfl) (MRep.obj hR14) ?_
            refine g_gen (P := fun M9 => MRep κ.Γ a (hsc ((mRdN 1 (hsc ((mRb u 32 1).2) 9 ((mRb u 32 1).1))).2) 10 ((mRdN 1 (hsc ((mRb u 32 1).2) 9 ((mRb u 32 1).1))).1)) M9 ∧ Fr a 15 M M9) ⟨MRep.sc hR14 10 _ rfl, Fr.tr hF14 (Fr.up (by decide))⟩ (fun M15 ⟨hR16, hF17⟩ => ?_)
            exact g_vret X F dX4_readOther_102 (by omega) (by omega) ⟨rfl, (by (show MRep κ.Γ a (mOther (u.1 13) u) _); unfold mOther; rw [if_neg c5, if_neg c10, if_neg c11, if_neg c12, if_neg c13]; exact hR16), hF17⟩
      · refine g_aload_n X dX4_readOther_52 rfl 0 rfl ?_
        refine g_aload_n X dX4_readOther_53 rfl 0 rfl ?_
        refine g_iconst (v := 1) X dX4_readOther_54 (by decide) ?_
        refine g_callV (As := [.int 1]) (ci := 4) X dX4_readOther_55 (c_X4_readNumber1 κ.l hl κ.Γ M2 a (hsc ((mRb u 32 1).2) 9 ((mRb u 32 1).1)) hR3 ((hx.rb (by decide) (by decide) (Or.inl rfl)).sc (by decide) (by decide) (by decide))) k1522 k1524 kp48 k5 k1525 rfl (MRep.obj hR3) ⟨rfl, by decide, by decide, (show (parseMethodDescriptor yX4_readNumber.desc).map (fun d => d.parameters.length) = some 1 by decide +kernel)⟩ rfl (Nat.le_of_ble_eq_true rfl) (by rw [hRm]; decide) (by rw [hRm]; exact ⟨Nat.le_of_ble_eq_true rfl, Nat.le_of_ble_eq_true rfl⟩) (fun v18 M18 h18 => ?_) (fun _ _ h9 => by cases h9.1)
        obtain ⟨e18, hR18, hF18⟩ := h18
        have e18 : (Sum.inl v18 : Res) = .inl (some (.int ((mRdN 1 (hsc ((mRb u 32 1).2) 9 ((mRb u 32 1).1))).1))) := e18
        cases e18
        have hR18 : MRep κ.Γ a ((mRdN 1 (hsc ((mRb u 32 1).2) 9 ((mRb u 32 1).1))).2) M18 := hR18
        have hF18 := Fr.tr hF4 hF18
        refine g_put X dX4_readOther_58 (ci := 4) (k := 16) (ty := .int) rfl k1105 (by decide) rfl rfl (by decide +kernel) rfl rfl (Nat.le_of_ble_eq_true rfl) (MRep.obj hR18) ?_
        refine g_gen (P := fun M9 => MRep κ.Γ a (hsc ((mRdN 1 (hsc ((mRb u 32 1).2) 9 ((mRb u 32 1).1))).2) 10 ((mRdN 1 (hsc ((mRb u 32 1).2) 9 ((mRb u 32 1).1))).1)) M9 ∧ Fr a 15 M M9) ⟨MRep.sc hR18 10 _ rfl, Fr.tr hF18 (Fr.up (by decide))⟩ (fun M19 ⟨hR20, hF21⟩ => ?_)
        refine g_aload_n X dX4_readOther_61 rfl 0 rfl ?_
        refine g_aload_n X dX4_readOther_62 rfl 0 rfl ?_
        refine g_bipush (v := 32) X dX4_readOther_63 (by decide) ?_
        refine g_iconst (v := 2) X dX4_readOther_65 (by decide) ?_
        refine g_callV (As := [.int 32, .int 2]) (ci := 4) X dX4_readOther_66 (c_X4_readBehind2 κ.l hl κ.Γ M19 a (hsc ((mRdN 1 (hsc ((mRb u 32 1).2) 9 ((mRb u 32 1).1))).2) 10 ((mRdN 1 (hsc ((mRb u 32 1).2) 9 ((mRb u 32 1).1))).1)) hR20 ((((hx.rb (by decide) (by decide) (Or.inl rfl)).sc (by decide) (by decide) (by decide)).rdn (by decide) (by decide) (Or.inl rfl)).sc (by decide) (by decide) (by decide)) 32) k1518 k1520 kp47 k5 k1521 rfl (MRep.obj hR20) ⟨rfl, by decide, by decide, (show (parseMethodDescriptor yX4_readBehind.desc).map (fun d => d.parameters.length) = some 2 by decide +kernel)⟩ rfl (Nat.le_of_ble_eq_true rfl) (by rw [hRm]; decide) (by rw [hRm]; exact ⟨Nat.le_of_ble_eq_true rfl, Nat.le_of_ble_eq_true rfl⟩) (fun v22 M22 h22 => ?_) (fun _ _ h9 => by cases h9.1)
        obtain ⟨e22, hR22, hF22⟩ := h22
        have e22 : (Sum.inl v22 : Res) = .inl (some (.int ((mRb (hsc ((mRdN 1 (hsc ((mRb u 32 1).2) 9 ((mRb u 32 1).1))).2) 10 ((mRdN 1 (hsc ((mRb u 32 1).2) 9 ((mRb u 32 1).1))).1)) 32 2).1))) := e22
        cases e22
        have hR22 : MRep κ.Γ a ((mRb (hsc ((mRdN 1 (hsc ((mRb u 32 1).2) 9 ((mRb u 32 1).1))).2) 10 ((mRdN 1 (hsc ((mRb u 32 1).2) 9 ((mRb u 32 1).1))).1)) 32 2).2) M22 := hR22
        have hF22 := Fr.tr hF21 hF22
        refine g_put X dX4_readOther_69 (ci := 4) (k := 17) (ty := .int) rfl k1106 (by decide) rfl rfl (by decide +kernel) rfl rfl (Nat.le_of_ble_eq_true rfl) (MRep.obj hR22) ?_
        refine g_gen (P := fun M9 => MRep κ.Γ a (hsc ((mRb (hsc ((mRdN 1 (hsc ((mRb u 32 1).2) 9 ((mRb u 32 1).1))).2) 10 ((mRdN 1 (hsc ((mRb u 32 1).2) 9 ((mRb u 32 1).1))).1)) 32 2).2) 11 ((mRb (hsc ((mRdN 1 (hsc ((mRb u 32 1).2) 9 ((mRb u 32 1).1))).2) 10 ((mRdN 1 (hsc ((mRb u 32 1).2) 9 ((mRb u 32 1).1))).1)) 32 2).1)) M9 ∧ Fr a 15 M M9) ⟨MRep.sc hR22 11 _ rfl, Fr.tr hF22 (Fr.up (by decide))⟩ (fun M23 ⟨hR24, hF25⟩ => ?_)
        refine g_goto (tgt := 102) X dX4_readOther_72 (by decide) ?_
        exact g_vret X F dX4_readOther_102 (by omega) (by omega) ⟨rfl, (by (show MRep κ.Γ a (mOther (u.1 13) u) _); unfold mOther; rw [if_neg c5, if_neg c10, if_pos c11]; exact hR24), hF25⟩
    · refine g_aload_n X dX4_readOther_29 rfl 0 rfl ?_
      refine g_aload_n X dX4_readOther_30 rfl 0 rfl ?_
      refine g_bipush (v := 32) X dX4_readOther_31 (by decide) ?_
      refine g_iconst (v := 2) X dX4_readOther_33 (by decide) ?_
      refine g_callV (As := [.int 32, .int 2]) (ci := 4) X dX4_readOther_34 (c_X4_readBehind2 κ.l hl κ.Γ M2 a (hsc ((mRb u 32 1).2) 9 ((mRb u 32 1).1)) hR3 ((hx.rb (by decide) (by decide) (Or.inl rfl)).sc (by decide) (by decide) (by decide)) 32) k1518 k1520 kp47 k5 k1521 rfl (MRep.obj hR3) ⟨rfl, by decide, by decide, (show (parseMethodDescriptor yX4_readBehind.desc).map (fun d => d.parameters.length) = some 2 by decide +kernel)⟩ rfl (Nat.le_of_ble_eq_true rfl) (by rw [hRm]; decide) (by rw [hRm]; exact ⟨Nat.le_of_ble_eq_true rfl, Nat.le_of_ble_eq_true rfl⟩) (fun v26 M26 h26 => ?_) (fun _ _ h9 => by cases h9.1)
      obtain ⟨e26, hR26, hF26⟩ := h26
      have e26 : (Sum.inl v26 : Res) = .inl (some (.int ((mRb (hsc ((mRb u 32 1).2) 9 ((mRb u 32 1).1)) 32 2).1))) := e26
      cases e26
      have hR26 : MRep κ.Γ a ((mRb (hsc ((mRb u 32 1).2) 9 ((mRb u 32 1).1)) 32 2).2) M26 := hR26
      have hF26 := Fr.tr hF4 hF26
      refine g_put X dX4_readOther_37 (ci := 4) (k := 16) (ty := .int) rfl k1105 (by decide) rfl rfl (by decide +kernel) rfl rfl (Nat.le_of_ble_eq_true rfl) (MRep.obj hR26) ?_
      refine g_gen (P := fun M9 => MRep κ.Γ a (hsc ((mRb (hsc ((mRb u 32 1).2) 9 ((mRb u 32 1).1)) 32 2).2) 10 ((mRb (hsc ((mRb u 32 1).2) 9 ((mRb u 32 1).1)) 32 2).1)) M9 ∧ Fr a 15 M M9) ⟨MRep.sc hR26 10 _ rfl, Fr.tr hF26 (Fr.up (by decide))⟩ (fun M27 ⟨hR28, hF29⟩ => ?_)
      refine g_goto (tgt := 102) X dX4_readOther_40 (by decide) ?_
      exact g_vret X F dX4_readOther_102 (by omega) (by omega) ⟨rfl, (by (show MRep κ.Γ a (mOther (u.1 13) u) _); unfold mOther; rw [if_neg c5, if_pos c10]; exact hR28), hF29⟩
set_option maxRecDepth 100000 in
set_option maxHeartbeats 4000000 in
theorem c_X4_readCommand (l : Launch) (hl : l.stackTraces = false) (Γ : Gm) (M : Hp) (a : Nat → Nat) (u : HV) (hR : MRep Γ a u M) (hx : XInv 200 u) : Ct l Γ yX4_readCommand cX4_readCommand 3 none 5 0 0 [.ref (a 0)] M (MMu Γ a (.inl none, mCmd u) M) := by
  refine Ct.of hl (by decide) (Nat.le_of_ble_eq_true rfl) rfl ?_
  intro κ e1 e2 hnL hRm X F hlt
  subst e1 e2
  refine g_aload_n X dX4_readCommand_0 rfl 0 rfl ?_
  refine g_aload_n X dX4_readCommand_1 rfl 0 rfl ?_
  refine g_iconst (v := 0) X dX4_readCommand_2 (by decide) ?_
  refine g_callV_rd (As := [.int 0]) (ci := 4) (v := some (.int (rSeen u))) X dX4_readCommand_3 (c_X4_seen κ.l hl κ.Γ M a u hR hx) k1488 k1490 kp43 k5 k1491 rfl (MRep.obj hR) ⟨rfl, by decide, by decide, (show (parseMethodDescriptor yX4_seen.desc).map (fun d => d.parameters.length) = some 1 by decide +kernel)⟩ rfl (Nat.le_of_ble_eq_true rfl) (by rw [hRm]; decide) (by rw [hRm]; exact ⟨Nat.le_of_ble_eq_true rfl, Nat.le_of_ble_eq_true rfl⟩) ?_
  refine g_put X dX4_readCommand_6 (ci := 4) (k := 19) (ty := .char) rfl k1108 (by decide) rfl rfl (by decide +kernel) (hx.seen (by decide)).nar (hx.seen (by decide)).fit (Nat.le_of_ble_eq_true rfl) (MRep.obj hR) ?_
  refine g_gen (P := fun M9 => MRep κ.Γ a (hsc u 13 (rSeen u)) M9 ∧ Fr a 15 M M9) ⟨MRep.sc hR 13 _ rfl, (Fr.up (by decide))⟩ (fun M1 ⟨hR2, hF3⟩ => ?_)
  refine g_aload_n X dX4_readCommand_9 rfl 0 rfl ?_
  refine g_callV_rd (As := []) (ci := 4) (v := some (.ref (sK κ.Γ (kIx (rSeen u))))) X dX4_readCommand_10 (c_X4_keyword κ.l hl κ.Γ M1 a (hsc u 13 (rSeen u)) hR2) k1492 k1494 kp44 k5 k1495 rfl (MRep.obj hR2) ⟨rfl, by decide, by decide, (show (parseMethodDescriptor yX4_keyword.desc).map (fun d => d.parameters.length) = some 0 by decide +kernel)⟩ rfl (Nat.le_of_ble_eq_true rfl) (by rw [hRm]; decide) (by rw [hRm]; exact ⟨Nat.le_of_ble_eq_true rfl, Nat.le_of_ble_eq_true rfl⟩) ?_
  refine g_astore_n (L' := [(1, .ref (sK κ.Γ (kIx (rSeen u)))), (0, .ref (a 0))]) X dX4_readCommand_13 rfl (by rw [hnL]; decide) rfl ?_
  refine g_iconst (v := 0) X dX4_readCommand_14 (by decide) ?_
  refine g_istore_n (L' := [(2, .int 0), (1, .ref (sK κ.Γ (kIx (rSeen u)))), (0, .ref (a 0))]) X dX4_readCommand_15 rfl (by rw [hnL]; decide) rfl ?_
  have lp : ∀ (n j : Nat) (M9 : Hp) (v : HV), sN (kIx (rSeen u)) - j < n → j ≤ sN (kIx (rSeen u)) → MRep κ.Γ a v M9 → XInv 200 v → Tx (hsc u 13 (rSeen u)) v → Fr a 15 M M9 → mKw ((kBy (rSeen u)).drop j) v = mKw (kBy (rSeen u)) (hsc u 13 (rSeen u)) → G κ M9 0 0 [(2, .int (nI j)), (1, .ref (sK κ.Γ (kIx (rSeen u)))), (0, .ref (a 0))] 16 [] := by
    intro n
    induction n with
    | zero => intro j _ _ h1; exact absurd h1 (Nat.not_lt_zero _)
    | succ n ih =>
      intro j M9 v hn hj hR9 hx9 hT9 hF9 hX
      refine g_iload_n X dX4_readCommand_16 rfl 0 rfl ?_
      refine g_aload_n X dX4_readCommand_17 rfl 1 rfl ?_
      refine g_callVr_rd (As := []) (v := some (.int (nI (sN (kIx (rSeen u)))))) X dX4_readCommand_18 (c_slength κ.l hl κ.Γ M9 (kIx (rSeen u)) (kIx_lt _)) k1508 k900 k901 k11 k902 (s_recv X (kIx_lt _)) ⟨rfl, by decide, by decide, (show (parseMethodDescriptor yJ0_length_8abf5.desc).map (fun d => d.parameters.length) = some 0 by decide +kernel)⟩ rfl (Nat.le_of_ble_eq_true rfl) (by rw [hRm]; decide) (by rw [hRm]; exact ⟨Nat.le_of_ble_eq_true rfl, Nat.le_of_ble_eq_true rfl⟩) ?_
      refine g_icmp_ge (tgt := 39) X dX4_readCommand_21 (by decide) (fun c4 => ?_) (fun c4 => ?_)
      · have hje : j = sN (kIx (rSeen u)) := eq_of_ge (sN_28 _ (kIx_lt _)) hj c4
        subst hje
        rw [show (kBy (rSeen u)).drop (sN (kIx (rSeen u))) = [] from sB_end _ (kIx_lt _)] at hX
        have hX : v = mKw (kBy (rSeen u)) (hsc u 13 (rSeen u)) := hX
        have e13 : v.1 13 = rSeen u := hT9.1 13 (by decide) (by decide)
        refine g_aload_n X dX4_readCommand_39 rfl 2 rfl ?_
        refine g_get X dX4_readCommand_40 (ci := 4) (k := 19) (v := .int (v.1 13)) rfl k1108 (by decide) rfl (MRep.obj hR9) rfl ?_
        refine g_lit (rSeen u) e13 ?_
        refine g_topi (fun z5 hz5 => ?_)
        by_cases e6 : z5 = 97
        · refine g_tabIn (off := 171) (tgt := 214) X dX4_readCommand_43 (by rw [e6]; decide) (by rw [e6]; decide) (by rw [e6]; rfl) (by decide) ?_
          refine g_aload_n X dX4_readCommand_214 rfl 2 rfl ?_
          refine g_aload_n X dX4_readCommand_215 rfl 2 rfl ?_
          refine g_bipush (v := 32) X dX4_readCommand_216 (by decide) ?_
          refine g_iconst (v := 1) X dX4_readCommand_218 (by decide) ?_
          refine g_callV (As := [.int 32, .int 1]) (ci := 4) X dX4_readCommand_219 (c_X4_readBehind1 κ.l hl κ.Γ M9 a v hR9 hx9 32) k1518 k1520 kp47 k5 k1521 rfl (MRep.obj hR9) ⟨rfl, by decide, by decide, (show (parseMethodDescriptor yX4_readBehind.desc).map (fun d => d.parameters.length) = some 2 by decide +kernel)⟩ rfl (Nat.le_of_ble_eq_true rfl) (by rw [hRm]; decide) (by rw [hRm]; exact ⟨Nat.le_of_ble_eq_true rfl, Nat.le_of_ble_eq_true rfl⟩) (fun v7 M7 h7 => ?_) (fun _ _ h9 => by cases h9.1)
          obtain ⟨e7, hR7, hF7⟩ := h7
          have e7 : (Sum.inl v7 : Res) = .inl (some (.int ((mRb v 32 1).1))) := e7
          cases e7
          have hR7 : MRep κ.Γ a ((mRb v 32 1).2) M7 := hR7
          have hF7 := Fr.tr hF9 hF7
          refine g_put X dX4_readCommand_222 (ci := 4) (k := 15) (ty := .int) rfl k1104 (by decide) rfl rfl (by decide +kernel) rfl rfl (Nat.le_of_ble_eq_true rfl) (MRep.obj hR7) ?_
          refine g_gen (P := fun M9 => MRep κ.Γ a (hsc ((mRb v 32 1).2) 9 ((mRb v 32 1).1)) M9 ∧ Fr a 15 M M9) ⟨MRep.sc hR7 9 _ rfl, Fr.tr hF7 (Fr.up (by decide))⟩ (fun M8 ⟨hR9, hF10⟩ => ?_)
          refine g_aload_n X dX4_readCommand_225 rfl 2 rfl ?_
          refine g_aload_n X dX4_readCommand_226 rfl 2 rfl ?_
          refine g_bipush (v := 32) X dX4_readCommand_227 (by decide) ?_
          refine g_iconst (v := 2) X dX4_readCommand_229 (by decide) ?_
          refine g_callV (As := [.int 32, .int 2]) (ci := 4) X dX4_readCommand_230 (c_X4_readBehind2 κ.l hl κ.Γ M8 a (hsc ((mRb v 32 1).2) 9 ((mRb v 32 1).1)) hR9 ((hx9.rb (by decide) (by decide) (Or.inl rfl)).sc (by decide) (by decide) (by decide)) 32) k1518 k1520 kp47 k5 k1521 rfl (MRep.obj hR9) ⟨rfl, by decide, by decide, (show (parseMethodDescriptor yX4_readBehind.desc).map (fun d => d.parameters.length) = some 2 by decide +kernel)⟩ rfl (Nat.le_of_ble_eq_true rfl) (by rw [hRm]; decide) (by rw [hRm]; exact ⟨Nat.le_of_ble_eq_true rfl, Nat.le_of_ble_eq_true rfl⟩) (fun v11 M11 h11 => ?_) (fun _ _ h9 => by cases h9.1)
          obtain ⟨e11, hR11, hF11⟩ := h11
          have e11 : (Sum.inl v11 : Res) = .inl (some (.int ((mRb (hsc ((mRb v 32 1).2) 9 ((mRb v 32 1).1)) 32 2).1))) := e11
          cases e11
          have hR11 : MRep κ.Γ a ((mRb (hsc ((mRb v 32 1).2) 9 ((mRb v 32 1).1)) 32 2).2) M11 := hR11
          have hF11 := Fr.tr hF10 hF11
          refine g_put X dX4_readCommand_233 (ci := 4) (k := 16) (ty := .int) rfl k1105 (by decide) rfl rfl (by decide +kernel) rfl rfl (Nat.le_of_ble_eq_true rfl) (MRep.obj hR11) ?_
          refine g_gen (P := fun M9 => MRep κ.Γ a (hsc ((mRb (hsc ((mRb v 32 1).2) 9 ((mRb v 32 1).1)) 32 2).2) 10 ((mRb (hsc ((mRb v 32 1).2) 9 ((mRb v 32 1).1)) 32 2).1)) M9 ∧ Fr a 15 M M9) ⟨MRep.sc hR11 10 _ rfl, Fr.tr hF11 (Fr.up (by decide))⟩ (fun M12 ⟨hR13, hF14⟩ => ?_)
          refine g_aload_n X dX4_readCommand_236 rfl 2 rfl ?_
          refine g_aload_n X dX4_readCommand_237 rfl 2 rfl ?_
          refine g_bipush (v := 32) X dX4_readCommand_238 (by decide) ?_
          refine g_iconst (v := 2) X dX4_readCommand_240 (by decide) ?_
          refine g_callV (As := [.int 32, .int 2]) (ci := 4) X dX4_readCommand_241 (c_X4_readBehind2 κ.l hl κ.Γ M12 a (hsc ((mRb (hsc ((mRb v 32 1).2) 9 ((mRb v 32 1).1)) 32 2).2) 10 ((mRb (hsc ((mRb v 32 1).2) 9 ((mRb v 32 1).1)) 32 2).1)) hR13 ((((hx9.rb (by decide) (by decide) (Or.inl rfl)).sc (by decide) (by decide) (by decide)).rb (by decide) (by decide) (Or.inr rfl)).sc (by decide) (by decide) (by decide)) 32) k1518 k1520 kp47 k5 k1521 rfl (MRep.obj hR13) ⟨rfl, by decide, by decide, (show (parseMethodDescriptor yX4_readBehind.desc).map (fun d => d.parameters.length) = some 2 by decide +kernel)⟩ rfl (Nat.le_of_ble_eq_true rfl) (by rw [hRm]; decide) (by rw [hRm]; exact ⟨Nat.le_of_ble_eq_true rfl, Nat.le_of_ble_eq_true rfl⟩) (fun v15 M15 h15 => ?_) (fun _ _ h9 => by cases h9.1)
          obtain ⟨e15, hR15, hF15⟩ := h15
          have e15 : (Sum.inl v15 : Res) = .inl (some (.int ((mRb (hsc ((mRb (hsc ((mRb v 32 1).2) 9 ((mRb v 32 1).1)) 32 2).2) 10 ((mRb (hsc ((mRb v 32 1).2) 9 ((mRb v 32 1).1)) 32 2).1)) 32 2).1))) := e15
          cases e15
          have hR15 : MRep κ.Γ a ((mRb (hsc ((mRb (hsc ((mRb v 32 1).2) 9 ((mRb v 32 1).1)) 32 2).2) 10 ((mRb (hsc ((mRb v 32 1).2) 9 ((mRb v 32 1).1)) 32 2).1)) 32 2).2) M15 := hR15
          have hF15 := Fr.tr hF14 hF15
          refine g_put X dX4_readCommand_244 (ci := 4) (k := 17) (ty := .int) rfl k1106 (by decide) rfl rfl (by decide +kernel) rfl rfl (Nat.le_of_ble_eq_true rfl) (MRep.obj hR15) ?_
          refine g_gen (P := fun M9 => MRep κ.Γ a (hsc ((mRb (hsc ((mRb (hsc ((mRb v 32 1).2) 9 ((mRb v 32 1).1)) 32 2).2) 10 ((mRb (hsc ((mRb v 32 1).2) 9 ((mRb v 32 1).1)) 32 2).1)) 32 2).2) 11 ((mRb (hsc ((mRb (hsc ((mRb v 32 1).2) 9 ((mRb v 32 1).1)) 32 2).2) 10 ((mRb (hsc ((mRb v 32 1).2) 9 ((mRb v 32 1).1)) 32 2).1)) 32 2).1)) M9 ∧ Fr a 15 M M9) ⟨MRep.sc hR15 11 _ rfl, Fr.tr hF15 (Fr.up (by decide))⟩ (fun M16 ⟨hR17, hF18⟩ => ?_)
          refine g_goto (tgt := 254) X dX4_readCommand_247 (by decide) ?_
          exact g_vret X F dX4_readCommand_254 (by omega) (by omega) ⟨rfl, (by (show MRep κ.Γ a (mCmd u) _); unfold mCmd; rw [← hX, ← hz5]; unfold mArg; rw [if_pos e6]; exact hR17), hF18⟩
        by_cases e19 : z5 = 98
        · refine g_tabIn (off := 99) (tgt := 142) X dX4_readCommand_43 (by rw [e19]; decide) (by rw [e19]; decide) (by rw [e19]; rfl) (by decide) ?_
          refine g_aload_n X dX4_readCommand_142 rfl 2 rfl ?_
          refine g_aload_n X dX4_readCommand_143 rfl 2 rfl ?_
          refine g_bipush (v := 32) X dX4_readCommand_144 (by decide) ?_
          refine g_iconst (v := 2) X dX4_readCommand_146 (by decide) ?_
          refine g_callV (As := [.int 32, .int 2]) (ci := 4) X dX4_readCommand_147 (c_X4_readBehind2 κ.l hl κ.Γ M9 a v hR9 hx9 32) k1518 k1520 kp47 k5 k1521 rfl (MRep.obj hR9) ⟨rfl, by decide, by decide, (show (parseMethodDescriptor yX4_readBehind.desc).map (fun d => d.parameters.length) = some 2 by decide +kernel)⟩ rfl (Nat.le_of_ble_eq_true rfl) (by rw [hRm]; decide) (by rw [hRm]; exact ⟨Nat.le_of_ble_eq_true rfl, Nat.le_of_ble_eq_true rfl⟩) (fun v20 M20 h20 => ?_) (fun _ _ h9 => by cases h9.1)
          obtain ⟨e20, hR20, hF20⟩ := h20
          have e20 : (Sum.inl v20 : Res) = .inl (some (.int ((mRb v 32 2).1))) := e20
          cases e20
          have hR20 : MRep κ.Γ a ((mRb v 32 2).2) M20 := hR20
          have hF20 := Fr.tr hF9 hF20
          refine g_put X dX4_readCommand_150 (ci := 4) (k := 15) (ty := .int) rfl k1104 (by decide) rfl rfl (by decide +kernel) rfl rfl (Nat.le_of_ble_eq_true rfl) (MRep.obj hR20) ?_
          refine g_gen (P := fun M9 => MRep κ.Γ a (hsc ((mRb v 32 2).2) 9 ((mRb v 32 2).1)) M9 ∧ Fr a 15 M M9) ⟨MRep.sc hR20 9 _ rfl, Fr.tr hF20 (Fr.up (by decide))⟩ (fun M21 ⟨hR22, hF23⟩ => ?_)
          refine g_aload_n X dX4_readCommand_153 rfl 2 rfl ?_
          refine g_aload_n X dX4_readCommand_154 rfl 2 rfl ?_
          refine g_bipush (v := 32) X dX4_readCommand_155 (by decide) ?_
          refine g_iconst (v := 2) X dX4_readCommand_157 (by decide) ?_
          refine g_callV (As := [.int 32, .int 2]) (ci := 4) X dX4_readCommand_158 (c_X4_readBehind2 κ.l hl κ.Γ M21 a (hsc ((mRb v 32 2).2) 9 ((mRb v 32 2).1)) hR22 ((hx9.rb (by decide) (by decide) (Or.inr rfl)).sc (by decide) (by decide) (by decide)) 32) k1518 k1520 kp47 k5 k1521 rfl (MRep.obj hR22) ⟨rfl, by decide, by decide, (show (parseMethodDescriptor yX4_readBehind.desc).map (fun d => d.parameters.length) = some 2 by decide +kernel)⟩ rfl (Nat.le_of_ble_eq_true rfl) (by rw [hRm]; decide) (by rw [hRm]; exact ⟨Nat.le_of_ble_eq_true rfl, Nat.le_of_ble_eq_true rfl⟩) (fun v24 M24 h24 => ?_) (fun _ _ h9 => by cases h9.1)
          obtain ⟨e24, hR24, hF24⟩ := h24
          have e24 : (Sum.inl v24 : Res) = .inl (some (.int ((mRb (hsc ((mRb v 32 2).2) 9 ((mRb v 32 2).1)) 32 2).1))) := e24
          cases e24
          have hR24 : MRep κ.Γ a ((mRb (hsc ((mRb v 32 2).2) 9 ((mRb v 32 2).1)) 32 2).2) M24 := hR24
          have hF24 := Fr.tr hF23 hF24
          refine g_put X dX4_readCommand_161 (ci := 4) (k := 16) (ty := .int) rfl k1105 (by decide) rfl rfl (by decide +kernel) rfl rfl (Nat.le_of_ble_eq_true rfl) (MRep.obj hR24) ?_
          refine g_gen (P := fun M9 => MRep κ.Γ a (hsc ((mRb (hsc ((mRb v 32 2).2) 9 ((mRb v 32 2).1)) 32 2).2) 10 ((mRb (hsc ((mRb v 32 2).2) 9 ((mRb v 32 2).1)) 32 2).1)) M9 ∧ Fr a 15 M M9) ⟨MRep.sc hR24 10 _ rfl, Fr.tr hF24 (Fr.up (by decide))⟩ (fun M25 ⟨hR26, hF27⟩ => ?_)
          refine g_aload_n X dX4_readCommand_164 rfl 2 rfl ?_
          refine g_aload_n X dX4_readCommand_165 rfl 2 rfl ?_
          refine g_bipush (v := 45) X dX4_readCommand_166 (by decide) ?_
          refine g_iconst (v := 2) X dX4_readCommand_168 (by decide) ?_
          refine g_callV (As := [.int 45, .int 2]) (ci := 4) X dX4_readCommand_169 (c_X4_readBehind2 κ.l hl κ.Γ M25 a (hsc ((mRb (hsc ((mRb v 32 2).2) 9 ((mRb v 32 2).1)) 32 2).2) 10 ((mRb (hsc ((mRb v 32 2).2) 9 ((mRb v 32 2).1)) 32 2).1)) hR26 ((((hx9.rb (by decide) (by decide) (Or.inr rfl)).sc (by decide) (by decide) (by decide)).rb (by decide) (by decide) (Or.inr rfl)).sc (by decide) (by decide) (by decide)) 45) k1518 k1520 kp47 k5 k1521 rfl (MRep.obj hR26) ⟨rfl, by decide, by decide, (show (parseMethodDescriptor yX4_readBehind.desc).map (fun d => d.parameters.length) = some 2 by decide +kernel)⟩ rfl (Nat.le_of_ble_eq_true rfl) (by rw [hRm]; decide) (by rw [hRm]; exact ⟨Nat.le_of_ble_eq_true rfl, Nat.le_of_ble_eq_true rfl⟩) (fun v28 M28 h28 => ?_) (fun _ _ h9 => by cases h9.1)
          obtain ⟨e28, hR28, hF28⟩ := h28
          have e28 : (Sum.inl v28 : Res) = .inl (some (.int ((mRb (hsc ((mRb (hsc ((mRb v 32 2).2) 9 ((mRb v 32 2).1)) 32 2).2) 10 ((mRb (hsc ((mRb v 32 2).2) 9 ((mRb v 32 2).1)) 32 2).1)) 45 2).1))) := e28
          cases e28
          have hR28 : MRep κ.Γ a ((mRb (hsc ((mRb (hsc ((mRb v 32 2).2) 9 ((mRb v 32 2).1)) 32 2).2) 10 ((mRb (hsc ((mRb v 32 2).2) 9 ((mRb v 32 2).1)) 32 2).1)) 45 2).2) M28 := hR28
          have hF28 := Fr.tr hF27 hF28
          refine g_put X dX4_readCommand_172 (ci := 4) (k := 17) (ty := .int) rfl k1106 (by decide) rfl rfl (by decide +kernel) rfl rfl (Nat.le_of_ble_eq_true rfl) (MRep.obj hR28) ?_
          refine g_gen (P := fun M9 => MRep κ.Γ a (hsc ((mRb (hsc ((mRb (hsc ((mRb v 32 2).2) 9 ((mRb v 32 2).1)) 32 2).2) 10 ((mRb (hsc ((mRb v 32 2).2) 9 ((mRb v 32 2).1)) 32 2).1)) 45 2).2) 11 ((mRb (hsc ((mRb (hsc ((mRb v 32 2).2) 9 ((mRb v 32 2).1)) 32 2).2) 10 ((mRb (hsc ((mRb v 32 2).2) 9 ((mRb v 32 2).1)) 32 2).1)) 45 2).1)) M9 ∧ Fr a 15 M M9) ⟨MRep.sc hR28 11 _ rfl, Fr.tr hF28 (Fr.up (by decide))⟩ (fun M29 ⟨hR30, hF31⟩ => ?_)
          refine g_goto (tgt := 254) X dX4_readCommand_175 (by decide) ?_
          exact g_vret X F dX4_readCommand_254 (by omega) (by omega) ⟨rfl, (by (show MRep κ.Γ a (mCmd u) _); unfold mCmd; rw [← hX, ← hz5]; unfold mArg; rw [if_neg e6, if_pos e19]; exact hR30), hF31⟩
        by_cases e32 : z5 = 101
        · refine g_tabIn (off := 85) (tgt := 128) X dX4_readCommand_43 (by rw [e32]; decide) (by rw [e32]; decide) (by rw [e32]; rfl) (by decide) ?_
          refine g_aload_n X dX4_readCommand_128 rfl 2 rfl ?_
          refine g_aload_n X dX4_readCommand_129 rfl 2 rfl ?_
          refine g_bipush (v := 32) X dX4_readCommand_130 (by decide) ?_
          refine g_iconst (v := 2) X dX4_readCommand_132 (by decide) ?_
          refine g_callV (As := [.int 32, .int 2]) (ci := 4) X dX4_readCommand_133 (c_X4_readBehind2 κ.l hl κ.Γ M9 a v hR9 hx9 32) k1518 k1520 kp47 k5 k1521 rfl (MRep.obj hR9) ⟨rfl, by decide, by decide, (show (parseMethodDescriptor yX4_readBehind.desc).map (fun d => d.parameters.length) = some 2 by decide +kernel)⟩ rfl (Nat.le_of_ble_eq_true rfl) (by rw [hRm]; decide) (by rw [hRm]; exact ⟨Nat.le_of_ble_eq_true rfl, Nat.le_of_ble_eq_true rfl⟩) (fun v33 M33 h33 => ?_) (fun _ _ h9 => by cases h9.1)
          obtain ⟨e33, hR33, hF33⟩ := h33
          have e33 : (Sum.inl v33 : Res) = .inl (some (.int ((mRb v 32 2).1))) := e33
          cases e33
          have hR33 : MRep κ.Γ a ((mRb v 32 2).2) M33 := hR33
          have hF33 := Fr.tr hF9 hF33
          refine g_put X dX4_readCommand_136 (ci := 4) (k := 15) (ty := .int) rfl k1104 (by decide) rfl rfl (by decide +kernel) rfl rfl (Nat.le_of_ble_eq_true rfl) (MRep.obj hR33) ?_
          refine g_gen (P := fun M9 => MRep κ.Γ a (hsc ((mRb v 32 2).2) 9 ((mRb v 32 2).1)) M9 ∧ Fr a 15 M M9) ⟨MRep.sc hR33 9 _ rfl, Fr.tr hF33 (Fr.up (by decide))⟩ (fun M34 ⟨hR35, hF36⟩ => ?_)
          refine g_goto (tgt := 254) X dX4_readCommand_139 (by decide) ?_
          exact g_vret X F dX4_readCommand_254 (by omega) (by omega) ⟨rfl, (by (show MRep κ.Γ a (mCmd u) _); unfold mCmd; rw [← hX, ← hz5]; unfold mArg; rw [if_neg e6, if_neg e19, if_pos e32]; exact hR35), hF36⟩
        by_cases e37 : z5 = 108
        · refine g_tabIn (off := 85) (tgt := 128) X dX4_readCommand_43 (by rw [e37]; decide) (by rw [e37]; decide) (by rw [e37]; rfl) (by decide) ?_
          refine g_aload_n X dX4_readCommand_128 rfl 2 rfl ?_
          refine g_aload_n X dX4_readCommand_129 rfl 2 rfl ?_
          refine g_bipush (v := 32) X dX4_readCommand_130 (by decide) ?_
          refine g_iconst (v := 2) X dX4_readCommand_132 (by decide) ?_
          refine g_callV (As := [.int 32, .int 2]) (ci := 4) X dX4_readCommand_133 (c_X4_readBehind2 κ.l hl κ.Γ M9 a v hR9 hx9 32) k1518 k1520 kp47 k5 k1521 rfl (MRep.obj hR9) ⟨rfl, by decide, by decide, (show (parseMethodDescriptor yX4_readBehind.desc).map (fun d => d.parameters.length) = some 2 by decide +kernel)⟩ rfl (Nat.le_of_ble_eq_true rfl) (by rw [hRm]; decide) (by rw [hRm]; exact ⟨Nat.le_of_ble_eq_true rfl, Nat.le_of_ble_eq_true rfl⟩) (fun v38 M38 h38 => ?_) (fun _ _ h9 => by cases h9.1)
          obtain ⟨e38, hR38, hF38⟩ := h38
          have e38 : (Sum.inl v38 : Res) = .inl (some (.int ((mRb v 32 2).1))) := e38
          cases e38
          have hR38 : MRep κ.Γ a ((mRb v 32 2).2) M38 := hR38
          have hF38 := Fr.tr hF9 hF38
          refine g_put X dX4_readCommand_136 (ci := 4) (k := 15) (ty := .int) rfl k1104 (by decide) rfl rfl (by decide +kernel) rfl rfl (Nat.le_of_ble_eq_true rfl) (MRep.obj hR38) ?_
          refine g_gen (P := fun M9 => MRep κ.Γ a (hsc ((mRb v 32 2).2) 9 ((mRb v 32 2).1)) M9 ∧ Fr a 15 M M9) ⟨MRep.sc hR38 9 _ rfl, Fr.tr hF38 (Fr.up (by decide))⟩ (fun M39 ⟨hR40, hF41⟩ => ?_)
          refine g_goto (tgt := 254) X dX4_readCommand_139 (by decide) ?_
          exact g_vret X F dX4_readCommand_254 (by omega) (by omega) ⟨rfl, (by (show MRep κ.Γ a (mCmd u) _); unfold mCmd; rw [← hX, ← hz5]; unfold mArg; rw [if_neg e6, if_neg e19, if_neg e32, if_pos e37]; exact hR40), hF41⟩
        by_cases e42 : z5 = 113
        · refine g_tabIn (off := 85) (tgt := 128) X dX4_readCommand_43 (by rw [e42]; decide) (by rw [e42]; decide) (by rw [e42]; rfl) (by decide) ?_
          refine g_aload_n X dX4_readCommand_128 rfl 2 rfl ?_
          refine g_aload_n X dX4_readCommand_129 rfl 2 rfl ?_
          refine g_bipush (v := 32) X dX4_readCommand_130 (by decide) ?_
          refine g_iconst (v := 2) X dX4_readCommand_132 (by decide) ?_
          refine g_callV (As := [.int 32, .int 2]) (ci := 4) X dX4_readCommand_133 (c_X4_readBehind2 κ.l hl κ.Γ M9 a v hR9 hx9 32) k1518 k1520 kp47 k5 k1521 rfl (MRep.obj hR9) ⟨rfl, by decide, by decide, (show (parseMethodDescriptor yX4_readBehind.desc).map (fun d => d.parameters.length) = some 2 by decide +kernel)⟩ rfl (Nat.le_of_ble_eq_true rfl) (by rw [hRm]; decide) (by rw [hRm]; exact ⟨Nat.le_of_ble_eq_true rfl, Nat.le_of_ble_eq_true rfl⟩) (fun v43 M43 h43 => ?_) (fun _ _ h9 => by cases h9.1)
          obtain ⟨e43, hR43, hF43⟩ := h43
          have e43 : (Sum.inl v43 : Res) = .inl (some (.int ((mRb v 32 2).1))) := e43
          cases e43
          have hR43 : MRep κ.Γ a ((mRb v 32 2).2) M43 := hR43
          have hF43 := Fr.tr hF9 hF43
          refine g_put X dX4_readCommand_136 (ci := 4) (k := 15) (ty := .int) rfl k1104 (by decide) rfl rfl (by decide +kernel) rfl rfl (Nat.le_of_ble_eq_true rfl) (MRep.obj hR43) ?_
          refine g_gen (P := fun M9 => MRep κ.Γ a (hsc ((mRb v 32 2).2) 9 ((mRb v 32 2).1)) M9 ∧ Fr a 15 M M9) ⟨MRep.sc hR43 9 _ rfl, Fr.tr hF43 (Fr.up (by decide))⟩ (fun M44 ⟨hR45, hF46⟩ => ?_)
          refine g_goto (tgt := 254) X dX4_readCommand_139 (by decide) ?_
          exact g_vret X F dX4_readCommand_254 (by omega) (by omega) ⟨rfl, (by (show MRep κ.Γ a (mCmd u) _); unfold mCmd; rw [← hX, ← hz5]; unfold mArg; rw [if_neg e6, if_neg e19, if_neg e32, if_neg e37, if_pos e42]; exact hR45), hF46⟩
        by_cases e47 : z5 = 114
        · refine g_tabIn (off := 135) (tgt := 178) X dX4_readCommand_43 (by rw [e47]; decide) (by rw [e47]; decide) (by rw [e47]; rfl) (by decide) ?_
          refine g_aload_n X dX4_readCommand_178 rfl 2 rfl ?_
          refine g_aload_n X dX4_readCommand_179 rfl 2 rfl ?_
          refine g_bipush (v := 32) X dX4_readCommand_180 (by decide) ?_
          refine g_iconst (v := 2) X dX4_readCommand_182 (by decide) ?_
          refine g_callV (As := [.int 32, .int 2]) (ci := 4) X dX4_readCommand_183 (c_X4_readBehind2 κ.l hl κ.Γ M9 a v hR9 hx9 32) k1518 k1520 kp47 k5 k1521 rfl (MRep.obj hR9) ⟨rfl, by decide, by decide, (show (parseMethodDescriptor yX4_readBehind.desc).map (fun d => d.parameters.length) = some 2 by decide +kernel)⟩ rfl (Nat.le_of_ble_eq_true rfl) (by rw [hRm]; decide) (by rw [hRm]; exact ⟨Nat.le_of_ble_eq_true rfl, Nat.le_of_ble_eq_true rfl⟩) (fun v48 M48 h48 => ?_) (fun _ _ h9 => by cases h9.1)
          obtain ⟨e48, hR48, hF48⟩ := h48
          have e48 : (Sum.inl v48 : Res) = .inl (some (.int ((mRb v 32 2).1))) := e48
          cases e48
          have hR48 : MRep κ.Γ a ((mRb v 32 2).2) M48 := hR48
          have hF48 := Fr.tr hF9 hF48
          refine g_put X dX4_readCommand_186 (ci := 4) (k := 15) (ty := .int) rfl k1104 (by decide) rfl rfl (by decide +kernel) rfl rfl (Nat.le_of_ble_eq_true rfl) (MRep.obj hR48) ?_
          refine g_gen (P := fun M9 => MRep κ.Γ a (hsc ((mRb v 32 2).2) 9 ((mRb v 32 2).1)) M9 ∧ Fr a 15 M M9) ⟨MRep.sc hR48 9 _ rfl, Fr.tr hF48 (Fr.up (by decide))⟩ (fun M49 ⟨hR50, hF51⟩ => ?_)
          refine g_aload_n X dX4_readCommand_189 rfl 2 rfl ?_
          refine g_aload_n X dX4_readCommand_190 rfl 2 rfl ?_
          refine g_bipush (v := 32) X dX4_readCommand_191 (by decide) ?_
          refine g_iconst (v := 1) X dX4_readCommand_193 (by decide) ?_
          refine g_callV (As := [.int 32, .int 1]) (ci := 4) X dX4_readCommand_194 (c_X4_readBehind1 κ.l hl κ.Γ M49 a (hsc ((mRb v 32 2).2) 9 ((mRb v 32 2).1)) hR50 ((hx9.rb (by decide) (by decide) (Or.inr rfl)).sc (by decide) (by decide) (by decide)) 32) k1518 k1520 kp47 k5 k1521 rfl (MRep.obj hR50) ⟨rfl, by decide, by decide, (show (parseMethodDescriptor yX4_readBehind.desc).map (fun d => d.parameters.length) = some 2 by decide +kernel)⟩ rfl (Nat.le_of_ble_eq_true rfl) (by rw [hRm]; decide) (by rw [hRm]; exact ⟨Nat.le_of_ble_eq_true rfl, Nat.le_of_ble_eq_true rfl⟩) (fun v52 M52 h52 => ?_) (fun _ _ h9 => by cases h9.1)
          obtain ⟨e52, hR52, hF52⟩ := h52
          have e52 : (Sum.inl v52 : Res) = .inl (some (.int ((mRb (hsc ((mRb v 32 2).2) 9 ((mRb v 32 2).1)) 32 1).1))) := e52
          cases e52
          have hR52 : MRep κ.Γ a ((mRb (hsc ((mRb v 32 2).2) 9 ((mRb v 32 2).1)) 32 1).2) M52 := hR52
          have hF52 := Fr.tr hF51 hF52
          refine g_put X dX4_readCommand_197 (ci := 4) (k := 16) (ty := .int) rfl k1105 (by decide) rfl rfl (by decide +kernel) rfl rfl (Nat.le_of_ble_eq_true rfl) (MRep.obj hR52) ?_
          refine g_gen (P := fun M9 => MRep κ.Γ a (hsc ((mRb (hsc ((mRb v 32 2).2) 9 ((mRb v 32 2).1)) 32 1).2) 10 ((mRb (hsc ((mRb v 32 2).2) 9 ((mRb v 32 2).1)) 32 1).1)) M9 ∧ Fr a 15 M M9) ⟨MRep.sc hR52 10 _ rfl, Fr.tr hF52 (Fr.up (by decide))⟩ (fun M53 ⟨hR54, hF55⟩ => ?_)
          refine g_aload_n X dX4_readCommand_200 rfl 2 rfl ?_
          refine g_aload_n X dX4_readCommand_201 rfl 2 rfl ?_
          refine g_bipush (v := 32) X dX4_readCommand_202 (by decide) ?_
          refine g_iconst (v := 2) X dX4_readCommand_204 (by decide) ?_
          refine g_callV (As := [.int 32, .int 2]) (ci := 4) X dX4_readCommand_205 (c_X4_readBehind2 κ.l hl κ.Γ M53 a (hsc ((mRb (hsc ((mRb v 32 2).2) 9 ((mRb v 32 2).1)) 32 1).2) 10 ((mRb (hsc ((mRb v 32 2).2) 9 ((mRb v 32 2).1)) 32 1).1)) hR54 ((((hx9.rb (by decide) (by decide) (Or.inr rfl)).sc (by decide) (by decide) (by decide)).rb (by decide) (by decide) (Or.inl rfl)).sc (by decide) (by decide) (by decide)) 32) k1518 k1520 kp47 k5 k1521 rfl (MRep.obj hR54) ⟨rfl, by decide, by decide, (show (parseMethodDescriptor yX4_readBehind.desc).map (fun d => d.parameters.length) = some 2 by decide +kernel)⟩ rfl (Nat.le_of_ble_eq_true rfl) (by rw [hRm]; decide) (by rw [hRm]; exact ⟨Nat.le_of_ble_eq_true rfl, Nat.le_of_ble_eq_true rfl⟩) (fun v56 M56 h56 => ?_) (fun _ _ h9 => by cases h9.1)
          obtain ⟨e56, hR56, hF56⟩ := h56
          have e56 : (Sum.inl v56 : Res) = .inl (some (.int ((mRb (hsc ((mRb (hsc ((mRb v 32 2).2) 9 ((mRb v 32 2).1)) 32 1).2) 10 ((mRb (hsc ((mRb v 32 2).2) 9 ((mRb v 32 2).1)) 32 1).1)) 32 2).1))) := e56
          cases e56
          have hR56 : MRep κ.Γ a ((mRb (hsc ((mRb (hsc ((mRb v 32 2).2) 9 ((mRb v 32 2).1)) 32 1).2) 10 ((mRb (hsc ((mRb v 32 2).2) 9 ((mRb v 32 2).1)) 32 1).1)) 32 2).2) M56 := hR56
          have hF56 := Fr.tr hF55 hF56
          refine g_put X dX4_readCommand_208 (ci := 4) (k := 17) (ty := .int) rfl k1106 (by decide) rfl rfl (by decide +kernel) rfl rfl (Nat.le_of_ble_eq_true rfl) (MRep.obj hR56) ?_
          refine g_gen (P := fun M9 => MRep κ.Γ a (hsc ((mRb (hsc ((mRb (hsc ((mRb v 32 2).2) 9 ((mRb v 32 2).1)) 32 1).2) 10 ((mRb (hsc ((mRb v 32 2).2) 9 ((mRb v 32 2).1)) 32 1).1)) 32 2).2) 11 ((mRb (hsc ((mRb (hsc ((mRb v 32 2).2) 9 ((mRb v 32 2).1)) 32 1).2) 10 ((mRb (hsc ((mRb v 32 2).2) 9 ((mRb v 32 2).1)) 32 1).1)) 32 2).1)) M9 ∧ Fr a 15 M M9) ⟨MRep.sc hR56 11 _ rfl, Fr.tr hF56 (Fr.up (by decide))⟩ (fun M57 ⟨hR58, hF59⟩ => ?_)
          refine g_goto (tgt := 254) X dX4_readCommand_211 (by decide) ?_
          exact g_vret X F dX4_readCommand_254 (by omega) (by omega) ⟨rfl, (by (show MRep κ.Γ a (mCmd u) _); unfold mCmd; rw [← hX, ← hz5]; unfold mArg; rw [if_neg e6, if_neg e19, if_neg e32, if_neg e37, if_neg e42, if_pos e47]; exact hR58), hF59⟩
        refine g_tabDef (keys := [97, 98, 101, 108, 113, 114]) (tgt := 250) X dX4_readCommand_43 (by decide +kernel) (by decide) (nk e6 (nk e19 (nk e32 (nk e37 (nk e42 (nk e47 nk0)))))) (by decide) ?_
        refine g_aload_n X dX4_readCommand_250 rfl 2 rfl ?_
        refine g_callV (As := []) (ci := 4) X dX4_readCommand_251 (c_X4_readOther κ.l hl κ.Γ M9 a v hR9 hx9) k1526 k1528 kp49 k5 k1529 rfl (MRep.obj hR9) ⟨rfl, by decide, by decide, (show (parseMethodDescriptor yX4_readOther.desc).map (fun d => d.parameters.length) = some 0 by decide +kernel)⟩ rfl (Nat.le_of_ble_eq_true rfl) (by rw [hRm]; decide) (by rw [hRm]; exact ⟨Nat.le_of_ble_eq_true rfl, Nat.le_of_ble_eq_true rfl⟩) (fun v60 M60 h60 => ?_) (fun _ _ h9 => by cases h9.1)
        obtain ⟨e60, hR60, hF60⟩ := h60
        have e60 : (Sum.inl v60 : Res) = .inl none := e60
        cases e60
        have hR60 : MRep κ.Γ a (mOther (v.1 13) v) M60 := hR60
        have hF60 := Fr.tr hF9 hF60
        exact g_vret X F dX4_readCommand_254 (by omega) (by omega) ⟨rfl, (by (show MRep κ.Γ a (mCmd u) _); unfold mCmd; rw [← hX, ← hz5]; unfold mArg; rw [if_neg e6, if_neg e19, if_neg e32, if_neg e37, if_neg e42, if_neg e47, hz5]; have h9 := hR60; rw [e13] at h9; exact h9), hF60⟩
      · have hjl : j < sN (kIx (rSeen u)) := lt_of_nge (sN_28 _ (kIx_lt _)) hj c4
        have hdr := sB_drop _ (kIx_lt (rSeen u)) j hjl
        refine g_aload_n X dX4_readCommand_24 rfl 2 rfl ?_
        refine g_aload_n X dX4_readCommand_25 rfl 1 rfl ?_
        refine g_iload_n X dX4_readCommand_26 rfl 0 rfl ?_
        refine g_callVr_rd (As := [.int (nI j)]) (v := some (.int (sB (kIx (rSeen u)) j))) X dX4_readCommand_27 (c_scharAt κ.l hl κ.Γ M9 (kIx (rSeen u)) j (kIx_lt _) hjl) k1509 k910 k911 k11 k912 (s_recv X (kIx_lt _)) ⟨rfl, by decide, by decide, (show (parseMethodDescriptor yJ0_charAt_5068e.desc).map (fun d => d.parameters.length) = some 1 by decide +kernel)⟩ rfl (Nat.le_of_ble_eq_true rfl) (by rw [hRm]; decide) (by rw [hRm]; exact ⟨Nat.le_of_ble_eq_true rfl, Nat.le_of_ble_eq_true rfl⟩) ?_
        refine g_callV (As := [.int (sB (kIx (rSeen u)) j)]) (ci := 4) X dX4_readCommand_30 (c_X4_must κ.l hl κ.Γ M9 a v hR9 hx9 (sB (kIx (rSeen u)) j)) k1510 k1512 kp45 k5 k1513 rfl (MRep.obj hR9) ⟨rfl, by decide, by decide, (show (parseMethodDescriptor yX4_must.desc).map (fun d => d.parameters.length) = some 1 by decide +kernel)⟩ rfl (Nat.le_of_ble_eq_true rfl) (by rw [hRm]; decide) (by rw [hRm]; exact ⟨Nat.le_of_ble_eq_true rfl, Nat.le_of_ble_eq_true rfl⟩) (fun v61 M61 h61 => ?_) (fun _ _ h9 => by cases h9.1)
        obtain ⟨e61, hR61, hF61⟩ := h61
        have e61 : (Sum.inl v61 : Res) = .inl none := e61
        cases e61
        have hR61 : MRep κ.Γ a (mMust v (sB (kIx (rSeen u)) j)) M61 := hR61
        have hF61 := Fr.tr hF9 hF61
        refine g_iinc (k := 0) (v := (nI (j + 1))) (L' := [(2, .int (nI (j + 1))), (1, .ref (sK κ.Γ (kIx (rSeen u)))), (0, .ref (a 0))]) X dX4_readCommand_33 rfl (nI_1 _) (by rw [hnL]; decide) rfl ?_
        refine g_goto (tgt := 16) X dX4_readCommand_36 (by decide) ?_
        refine g_locs [0, 1, 2] (L' := [(2, .int (nI (j + 1))), (1, .ref (sK κ.Γ (kIx (rSeen u)))), (0, .ref (a 0))]) rfl ?_
        exact ih (j + 1) M61 (mMust v (sB (kIx (rSeen u)) j)) (by omega) (by omega) hR61 (hx9.must (by decide) (by decide) _) (hT9.tr (Tx.must _)) hF61 (by rw [← hX, hdr]; rfl)
  refine g_locs [0, 1, 2] (L' := [(2, .int (nI 0)), (1, .ref (sK κ.Γ (kIx (rSeen u)))), (0, .ref (a 0))]) rfl ?_
  exact lp (sN (kIx (rSeen u)) + 1) 0 M1 (hsc u 13 (rSeen u)) (by omega) (by omega) hR2 (hx.sc (by decide) (by decide) (by decide)) Tx.rf hF3 rfl
/-- where a reader that is not wrong stands: not further back -/
theorem le_succ32 {x y : Int32} (h : x < y) : x ≤ x + 1 := by
  have h1 := Int32.lt_iff_toInt_lt.mp h
  have h2 := Int32.toInt_lt y
  have h3 := Int32.le_toInt x
  have e1 : (1 : Int32).toInt = 1 := rfl
  have h4 : (x + 1).toInt = x.toInt + 1 := by
    rw [Int32.toInt_add, e1]
    exact Int.bmod_eq_of_le (by omega) (by omega)
  exact Int32.le_iff_toInt_le.mpr (by omega)
def Mv (u v : HV) : Prop := v.1 12 = 0 → u.1 12 = 0 ∧ u.1 6 ≤ v.1 6
theorem Mv.rf {u : HV} : Mv u u := fun h => ⟨h, Int32.le_refl _⟩
theorem Mv.tr {u v w : HV} (h : Mv u v) (h2 : Mv v w) : Mv u w := fun h3 => by
  obtain ⟨a1, a2⟩ := h2 h3
  obtain ⟨b1, b2⟩ := h a1
  exact ⟨b1, Int32.le_trans b2 a2⟩
theorem Mv.adv {u : HV} (c : u.1 6 < u.1 5) : Mv u (xAdv u) := fun h => ⟨h, le_succ32 c⟩
theorem Mv.bad {u : HV} : Mv u (xBad u) := fun h => absurd h (show ¬ (1 : Int32) = 0 by decide)
theorem Mv.sc {u v : HV} (h : Mv u v) {s : Nat} {x : Int32} (h6 : s ≠ 6) (h12 : s ≠ 12) : Mv u (hsc v s x) := fun h3 => by
  rw [hsc_n (Ne.symm h12)] at h3
  rw [hsc_n (Ne.symm h6)]
  exact h h3
theorem Mv.must {u : HV} (c : Int32) : Mv u (mMust u c) := by
  by_cases k : rSees u c c
  · rw [mMust_y k]; exact Mv.adv k.2.1
  · rw [mMust_n k]; exact Mv.bad
theorem Mv.rdn {u : HV} {d : Int32} (hd : d = 1 ∨ d = 2) : Mv u (mRdN d u).2 := by
  by_cases k : rSees u 48 57
  · rcases hd with rfl | rfl
    · rw [mRdN_1 k]; exact Mv.adv k.2.1
    · by_cases k2 : rSees (xAdv u) 48 57
      · rw [mRdN_2y k k2]; exact (Mv.adv k.2.1).tr (Mv.adv k2.2.1)
      · rw [mRdN_2n k k2]; exact Mv.adv k.2.1
  · rw [mRdN_n k]; exact Mv.bad
theorem Mv.rb {u : HV} {c d : Int32} (hd : d = 1 ∨ d = 2) : Mv u (mRb u c d).2 := (Mv.must c).tr (Mv.rdn hd)
theorem Mv.kw : ∀ (cs : List Int32) {u : HV}, Mv u (mKw cs u)
  | [], _ => Mv.rf
  | c :: cs, _ => (Mv.must c).tr (Mv.kw cs)
theorem Mv.oth1 {u : HV} : Mv u (mOth1 u) := (Mv.rb (Or.inl rfl)).sc (by decide) (by decide)
theorem Mv.other {u : HV} (x : Int32) : Mv u (mOther x u) := by
  unfold mOther
  split
  · exact Mv.oth1.tr ((Mv.rb (Or.inr rfl)).sc (by decide) (by decide))
  split
  · exact Mv.oth1.tr ((Mv.rb (Or.inr rfl)).sc (by decide) (by decide))
  split
  · exact (Mv.oth1.tr ((Mv.rdn (Or.inl rfl)).sc (by decide) (by decide))).tr ((Mv.rb (Or.inr rfl)).sc (by decide) (by decide))
  split
  · exact Mv.oth1
  split
  · exact Mv.oth1
  · exact Mv.oth1.tr ((Mv.rdn (Or.inl rfl)).sc (by decide) (by decide))
theorem Mv.ar1 {u : HV} : Mv u (mAr1 u) := (Mv.rb (Or.inr rfl)).sc (by decide) (by decide)
theorem Mv.ar3 {u : HV} {c1 d1 d2 c3 : Int32} (h1 : d1 = 1 ∨ d1 = 2) (h2 : d2 = 1 ∨ d2 = 2) : Mv u (mAr3 u c1 d1 d2 c3) :=
  ((((Mv.rb h1).sc (by decide) (by decide)).tr ((Mv.rb h2).sc (by decide) (by decide))).tr ((Mv.rb (Or.inr rfl)).sc (by decide) (by decide)))
theorem Mv.arg {u : HV} (x : Int32) : Mv u (mArg x u) := by
  unfold mArg
  split
  · exact Mv.ar3 (Or.inl rfl) (Or.inr rfl)
  split
  · exact Mv.ar3 (Or.inr rfl) (Or.inr rfl)
  split
  · exact Mv.ar1
  split
  · exact Mv.ar1
  split
  · exact Mv.ar1
  split
  · exact Mv.ar3 (Or.inr rfl) (Or.inl rfl)
  · exact Mv.other x
theorem Mv.cmd {u : HV} : Mv u (mCmd u) := ((Mv.rf.sc (by decide) (by decide)).tr (Mv.kw _)).tr (Mv.arg _)
def mMore (v : HV) : Prop := v.1 12 = 0 ∧ v.1 6 < v.1 5
noncomputable def mCnt : Nat → Int32 → HV → Int32 × HV
  | 0, c, v => (c, v)
  | k + 1, c, v => @ite _ (mMore v) (Classical.propDecidable _) (mCnt k (c + 1) (mCmd (mMust v 59))) (c, v)
theorem mCnt_y {k : Nat} {c : Int32} {v : HV} (h : mMore v) : mCnt (k + 1) c v = mCnt k (c + 1) (mCmd (mMust v 59)) := @if_pos _ (Classical.propDecidable _) h _ _ _
theorem mCnt_n {k : Nat} {c : Int32} {v : HV} (h : ¬ mMore v) : mCnt (k + 1) c v = (c, v) := @if_neg _ (Classical.propDecidable _) h _ _ _
abbrev cBeg (u : HV) : HV := hsc (hsc u 6 0) 12 0
noncomputable def mCC (u : HV) : Int32 × HV := mCnt 63 1 (mCmd (cBeg u))
theorem XInv.beg {q : Nat} {u : HV} (h : XInv q u) : XInv 60 (cBeg u) := ⟨h.1, ⟨0, by decide, rfl⟩, h.2.2.1, Or.inl rfl⟩
theorem XInv.cnt {q : Nat} (hq : 60 ≤ q) (hq2 : q < 1000) : ∀ (k : Nat) (c : Int32) {v : HV}, XInv q v → XInv q (mCnt k c v).2
  | 0, _, _, h => h
  | k + 1, c, v, h => by
    by_cases m : mMore v
    · rw [mCnt_y m]; exact XInv.cnt hq hq2 k (c + 1) ((h.must hq hq2 59).cmd hq hq2)
    · rw [mCnt_n m]; exact h
/-- how many times it may still go on -/
def Fuel (k : Nat) (v : HV) : Prop := 1 ≤ k ∧ (v.1 12 = 0 → ∀ p, p ≤ 200 → v.1 6 = nI p → 61 < k + p)
theorem Fuel.step {k : Nat} {v : HV} (hx : XInv 200 v) (m : mMore v) (hp : Fuel (k + 1) v) : Fuel k (mCmd (mMust v 59)) := by
  obtain ⟨⟨n, hn, e1⟩, ⟨p, hp0, e2⟩, -⟩ := id hx
  have h1 := hp.2 m.1 p hp0 e2
  have h2 := m.2
  rw [e1, e2] at h2
  have h3 := (nI_ltI (by omega) (by omega)).mp h2
  refine ⟨by omega, fun h4 r hr hr2 => ?_⟩
  obtain ⟨h5, h6⟩ := Mv.cmd h4
  by_cases c : rSees v 59 59
  · rw [mMust_y c, show (xAdv v).1 6 = nI (p + 1) by show v.1 6 + 1 = _; rw [e2, nI_1]] at h6
    rw [mMust_y c] at hr2
    rw [hr2] at h6
    have := (nI_leJ (by omega) (by omega)).mp h6
    omega
  · rw [mMust_n c] at h5
    exact absurd h5 (show ¬ (1 : Int32) = 0 by decide)
set_option maxRecDepth 100000 in
set_option maxHeartbeats 4000000 in
theorem c_X4_countCommands (l : Launch) (hl : l.stackTraces = false) (Γ : Gm) (M : Hp) (a : Nat → Nat) (u : HV) (hR : MRep Γ a u M) (hx : XInv 200 u) : Ct l Γ yX4_countCommands cX4_countCommands 2 (some .int) 6 0 0 [.ref (a 0)] M (MMu Γ a (rI (mCC u).1, (mCC u).2) M) := by
  refine Ct.of hl (by decide) (Nat.le_of_ble_eq_true rfl) rfl ?_
  intro κ e1 e2 hnL hRm X F hlt
  subst e1 e2
  refine g_aload_n X dX4_countCommands_0 rfl 0 rfl ?_
  refine g_iconst (v := 0) X dX4_countCommands_1 (by decide) ?_
  refine g_put X dX4_countCommands_2 (ci := 4) (k := 12) (ty := .int) rfl k1101 (by decide) rfl rfl (by decide +kernel) rfl rfl (Nat.le_of_ble_eq_true rfl) (MRep.obj hR) ?_
  refine g_gen (P := fun M9 => MRep κ.Γ a (hsc u 6 0) M9 ∧ Fr a 15 M M9) ⟨MRep.sc hR 6 _ rfl, (Fr.up (by decide))⟩ (fun M1 ⟨hR2, hF3⟩ => ?_)
  refine g_aload_n X dX4_countCommands_5 rfl 0 rfl ?_
  refine g_iconst (v := 0) X dX4_countCommands_6 (by decide) ?_
  refine g_put X dX4_countCommands_7 (ci := 4) (k := 18) (ty := .boolean) rfl k1107 (by decide) rfl rfl (by decide +kernel) rfl rfl (Nat.le_of_ble_eq_true rfl) (MRep.obj hR2) ?_
  refine g_gen (P := fun M9 => MRep κ.Γ a (hsc (hsc u 6 0) 12 0) M9 ∧ Fr a 15 M M9) ⟨MRep.sc hR2 12 _ rfl, Fr.tr hF3 (Fr.up (by decide))⟩ (fun M4 ⟨hR5, hF6⟩ => ?_)
  refine g_iconst (v := 1) X dX4_countCommands_10 (by decide) ?_
  refine g_istore_n (L' := [(1, .int 1), (0, .ref (a 0))]) X dX4_countCommands_11 rfl (by rw [hnL]; decide) rfl ?_
  refine g_aload_n X dX4_countCommands_12 rfl 1 rfl ?_
  refine g_callV (As := []) (ci := 4) X dX4_countCommands_13 (c_X4_readCommand κ.l hl κ.Γ M4 a (hsc (hsc u 6 0) 12 0) hR5 (hx.beg.mono (by decide))) k1484 k1486 kp42 k5 k1487 rfl (MRep.obj hR5) ⟨rfl, by decide, by decide, (show (parseMethodDescriptor yX4_readCommand.desc).map (fun d => d.parameters.length) = some 0 by decide +kernel)⟩ rfl (Nat.le_of_ble_eq_true rfl) (by rw [hRm]; decide) (by rw [hRm]; exact ⟨Nat.le_of_ble_eq_true rfl, Nat.le_of_ble_eq_true rfl⟩) (fun v7 M7 h7 => ?_) (fun _ _ h9 => by cases h9.1)
  obtain ⟨e7, hR7, hF7⟩ := h7
  have e7 : (Sum.inl v7 : Res) = .inl none := e7
  cases e7
  have hR7 : MRep κ.Γ a (mCmd (hsc (hsc u 6 0) 12 0)) M7 := hR7
  have hF7 := Fr.tr hF6 hF7
  have lp : ∀ (n c : Nat) (M9 : Hp) (v : HV), XInv 200 v → Fuel n v → MRep κ.Γ a v M9 → Fr a 15 M M9 → mCnt n (nI c) v = mCC u → G κ M9 0 0 [(1, .int (nI c)), (0, .ref (a 0))] 16 [] := by
    intro n
    induction n with
    | zero => intro c _ _ _ h1; exact absurd h1.1 (by decide)
    | succ n ih =>
      intro c M9 v hx9 hfu hR9 hF9 hX
      refine g_aload_n X dX4_countCommands_16 rfl 1 rfl ?_
      refine g_get X dX4_countCommands_17 (ci := 4) (k := 18) (v := .int (v.1 12)) rfl k1107 (by decide) rfl (MRep.obj hR9) rfl ?_
      refine g_if_ne (tgt := 50) X dX4_countCommands_20 (by decide) (fun c8 => ?_) (fun c8 => ?_)
      · refine g_iload_n X dX4_countCommands_50 rfl 0 rfl ?_
        exact g_iret X F dX4_countCommands_51 (by omega) (by omega) (by rw [← hX, mCnt_n (fun z => c8 z.1)]; exact ⟨rfl, hR9, hF9⟩)
      · refine g_aload_n X dX4_countCommands_23 rfl 1 rfl ?_
        refine g_get X dX4_countCommands_24 (ci := 4) (k := 12) (v := .int (v.1 6)) rfl k1101 (by decide) rfl (MRep.obj hR9) rfl ?_
        refine g_aload_n X dX4_countCommands_27 rfl 1 rfl ?_
        refine g_get X dX4_countCommands_28 (ci := 4) (k := 11) (v := .int (v.1 5)) rfl k1100 (by decide) rfl (MRep.obj hR9) rfl ?_
        refine g_icmp_ge (tgt := 50) X dX4_countCommands_31 (by decide) (fun c9 => ?_) (fun c9 => ?_)
        · refine g_iload_n X dX4_countCommands_50 rfl 0 rfl ?_
          exact g_iret X F dX4_countCommands_51 (by omega) (by omega) (by rw [← hX, mCnt_n (fun z => absurd z.2 (Int32.not_lt.mpr c9))]; exact ⟨rfl, hR9, hF9⟩)
        · have hm9 : mMore v := ⟨c8, Int32.not_le.mp c9⟩
          refine g_aload_n X dX4_countCommands_34 rfl 1 rfl ?_
          refine g_bipush (v := 59) X dX4_countCommands_35 (by decide) ?_
          refine g_callV (As := [.int 59]) (ci := 4) X dX4_countCommands_37 (c_X4_must κ.l hl κ.Γ M9 a v hR9 hx9 59) k1510 k1512 kp45 k5 k1513 rfl (MRep.obj hR9) ⟨rfl, by decide, by decide, (show (parseMethodDescriptor yX4_must.desc).map (fun d => d.parameters.length) = some 1 by decide +kernel)⟩ rfl (Nat.le_of_ble_eq_true rfl) (by rw [hRm]; decide) (by rw [hRm]; exact ⟨Nat.le_of_ble_eq_true rfl, Nat.le_of_ble_eq_true rfl⟩) (fun v10 M10 h10 => ?_) (fun _ _ h9 => by cases h9.1)
          obtain ⟨e10, hR10, hF10⟩ := h10
          have e10 : (Sum.inl v10 : Res) = .inl none := e10
          cases e10
          have hR10 : MRep κ.Γ a (mMust v 59) M10 := hR10
          have hF10 := Fr.tr hF9 hF10
          refine g_aload_n X dX4_countCommands_40 rfl 1 rfl ?_
          refine g_callV (As := []) (ci := 4) X dX4_countCommands_41 (c_X4_readCommand κ.l hl κ.Γ M10 a (mMust v 59) hR10 (hx9.must (by decide) (by decide) 59)) k1484 k1486 kp42 k5 k1487 rfl (MRep.obj hR10) ⟨rfl, by decide, by decide, (show (parseMethodDescriptor yX4_readCommand.desc).map (fun d => d.parameters.length) = some 0 by decide +kernel)⟩ rfl (Nat.le_of_ble_eq_true rfl) (by rw [hRm]; decide) (by rw [hRm]; exact ⟨Nat.le_of_ble_eq_true rfl, Nat.le_of_ble_eq_true rfl⟩) (fun v11 M11 h11 => ?_) (fun _ _ h9 => by cases h9.1)
          obtain ⟨e11, hR11, hF11⟩ := h11
          have e11 : (Sum.inl v11 : Res) = .inl none := e11
          cases e11
          have hR11 : MRep κ.Γ a (mCmd (mMust v 59)) M11 := hR11
          have hF11 := Fr.tr hF10 hF11
          refine g_iinc (k := 0) (v := (nI (c + 1))) (L' := [(1, .int (nI (c + 1))), (0, .ref (a 0))]) X dX4_countCommands_44 rfl (nI_1 _) (by rw [hnL]; decide) rfl ?_
          refine g_goto (tgt := 16) X dX4_countCommands_47 (by decide) ?_
          refine g_locs [0, 1] (L' := [(1, .int (nI (c + 1))), (0, .ref (a 0))]) rfl ?_
          exact ih (c + 1) M11 (mCmd (mMust v 59)) ((hx9.must (by decide) (by decide) 59).cmd (by decide) (by decide)) (Fuel.step hx9 hm9 hfu) hR11 hF11 (by rw [← hX, mCnt_y hm9, nI_1])
  refine g_locs [0, 1] (L' := [(1, .int (nI 1)), (0, .ref (a 0))]) rfl ?_
  exact lp 63 1 M7 (mCmd (cBeg u)) ((hx.beg.cmd (by decide) (by decide)).mono (by decide)) ⟨by decide, fun _ p _ _ => by omega⟩ hR7 hF7 rfl
