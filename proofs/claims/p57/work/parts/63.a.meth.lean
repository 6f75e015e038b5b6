set_option maxRecDepth 100000 in
set_option maxHeartbeats 4000000 in
theorem c_L_cell (l : Launch) (hl : l.stackTraces = false) (Γ : Gm) (M : Hp) (i : Int32) : Ct l Γ yL_cell cL_cell 2 (some .int) 0 0 0 [.ref (scA Γ), .int i] M (fun r M' => (∃ v, r = rI v) ∧ M' = M) := by
  refine Ct.of hl (by decide) (Nat.le_of_ble_eq_true rfl) rfl ?_
  intro κ e1 e2 hnL hRm X F hlt
  subst e1 e2
  refine g_aload_n X dL_cell_0 rfl 0 rfl ?_
  refine g_scrN X dL_cell_1 ?_
  refine g_if_ne (tgt := 13) X dL_cell_2 (by decide) (fun c1 => ?_) (fun c1 => ?_)
  · refine g_aload_n X dL_cell_13 rfl 0 rfl ?_
    refine g_iload_n X dL_cell_14 rfl 1 rfl ?_
    refine g_ldc (v := 65535) X dL_cell_15 k5008 ?_
    refine g_iand X dL_cell_17 ?_
    refine g_aload_n X dL_cell_18 rfl 0 rfl ?_
    refine g_scrN X dL_cell_19 ?_
    refine g_irem X dL_cell_20 c1 ?_
    have h0 : 0 < scN κ.Γ := Nat.pos_of_ne_zero (fun z => c1 (by rw [z]; rfl))
    have h1 : scN κ.Γ < 2 ^ 31 := Nat.lt_of_le_of_lt (cx_txs X).2.2.2 (by decide)
    refine g_scrX X dL_cell_21 (irm_in (and16 _) h0 h1) (fun v => ?_)
    exact g_iret X F dL_cell_22 (Nat.le_of_ble_eq_true rfl) (Nat.le_of_ble_eq_true rfl) ⟨⟨_, rfl⟩, rfl⟩
  · refine g_sipush (v := 577) X dL_cell_5 (by decide) ?_
    refine g_iload_n X dL_cell_8 rfl 1 rfl ?_
    refine g_imul X dL_cell_9 ?_
    refine g_goto (tgt := 22) X dL_cell_10 (by decide) ?_
    exact g_iret X F dL_cell_22 (Nat.le_of_ble_eq_true rfl) (Nat.le_of_ble_eq_true rfl) ⟨⟨_, rfl⟩, rfl⟩
set_option maxRecDepth 100000 in
set_option maxHeartbeats 4000000 in
theorem c_L_write (l : Launch) (hl : l.stackTraces = false) (Γ : Gm) (M : Hp) (A : Nat → Nat) (w : PV) (hB : BRep Γ A w M) (hJ : J w) (i : Nat) (hi : i < 44) : Ct l Γ yL_write cL_write 3 (some (.object "BellParliament")) 4 150 900 [.ref (A 313), .ref (sK Γ i)] M (LwP Γ A M (fun v w' => v = some (.ref (A 313)) ∧ w' = wWr w i (sN i) ∧ J w')) := by
  refine Ct.of hl (by decide) (Nat.le_of_ble_eq_true rfl) rfl ?_
  intro κ e1 e2 hnL hRm X F hlt
  subst e1 e2
  have h48 := sN_lt i hi
  refine g_iconst (v := 0) X dL_write_0 (by decide) ?_
  refine g_istore_n (L' := [(2, .int 0), (0, .ref (A 313)), (1, .ref (sK κ.Γ i))]) X dL_write_1 rfl (by rw [hnL]; decide) rfl ?_
  have lp1 : ∀ (n9 : Nat) (k : Nat) (M1 : Hp), sN i - k < n9 → k ≤ sN i → J (wWr w i k) → BRep κ.Γ A (wWr w i k) M1 → Fr A 315 M M1 → G κ M1 (3 * k) (18 * k) [(2, .int (nI k)), (0, .ref (A 313)), (1, .ref (sK κ.Γ i))] 2 [] := by
    intro n9
    induction n9 with
    | zero => intro k M1 h9; exact absurd h9 (Nat.not_lt_zero _)
    | succ n9 ih2 =>
      intro k M1 hn9_2 hk hJ hB hF
      refine g_iload_n X dL_write_2 rfl 0 rfl ?_
      refine g_aload_n X dL_write_3 rfl 2 rfl ?_
      refine g_callVr_rd (As := []) (v := some (.int (nI (sN i)))) X dL_write_4 (c_slength κ.l hl κ.Γ M1 i hi) k5049 k900 k901 k11 k902 (s_recv X hi) ⟨rfl, by decide, by decide, (show (parseMethodDescriptor yJ0_length_8abf5.desc).map (fun d => d.parameters.length) = some 0 by decide +kernel)⟩ rfl (Nat.le_of_ble_eq_true rfl) (by rw [hRm]; decide) (by rw [hRm]; exact ⟨by (show _ ≤ 150); omega, by (show _ ≤ 900); omega⟩) ?_
      refine g_icmp_ge (tgt := 26) X dL_write_7 (by decide) (fun c2 => ?_) (fun c2 => ?_)
      · have hge : k = sN i := Nat.le_antisymm hk (ge_N (by omega) (by omega) rfl c2)
        subst hge
        refine g_aload_n X dL_write_26 rfl 1 rfl ?_
        exact g_aret X F dL_write_27 (by omega) (by omega) ⟨_, _, rfl, ⟨rfl, rfl, hJ⟩, hB, hF⟩
      · have hlt : k < sN i := lt_N (by omega) (by omega) rfl c2
        refine g_aload_n X dL_write_10 rfl 1 rfl ?_
        refine g_aload_n X dL_write_11 rfl 2 rfl ?_
        refine g_iload_n X dL_write_12 rfl 0 rfl ?_
        refine g_callVr_rd (As := [.int (nI k)]) (v := some (.int (sB i k))) X dL_write_13 (c_scharAt κ.l hl κ.Γ M1 i k hi hlt) k5050 k910 k911 k11 k912 (s_recv X hi) ⟨rfl, by decide, by decide, (show (parseMethodDescriptor yJ0_charAt_5068e.desc).map (fun d => d.parameters.length) = some 1 by decide +kernel)⟩ rfl (Nat.le_of_ble_eq_true rfl) (by rw [hRm]; decide) (by rw [hRm]; exact ⟨by (show _ ≤ 150); omega, by (show _ ≤ 900); omega⟩) ?_
        have hc9 := tx_ok i hi k hlt
        have hj9 := j_append hJ hc9.1 hc9.2
        refine g_cW X dL_write_16 (As := [.ref (A 313), .int (sB i k)]) (A := A) (w' := wWr w i (k + 1)) (v := .int (wP (pAppend (wWr w i k) (sB i k)).1)) (c_L_put κ.l hl κ.Γ M1 A (wWr w i k) hB hJ.inv (sB i k) hj9.1) hF k5051 k5052 k0 k5053 ⟨by decide, by decide, (show (parseMethodDescriptor yL_put.desc).map (fun d => d.parameters.length) = some 2 by decide +kernel)⟩ rfl (Nat.le_of_ble_eq_true rfl) (by rw [hRm]; decide) (by rw [hRm]; exact ⟨by (show _ ≤ 150); omega, by (show _ ≤ 900); omega⟩) (fun M1 hB hF => ?_)
        refine g_pop X dL_write_19 rfl ?_
        refine g_iinc (k := 0) (v := (nI (k + 1))) (L' := [(2, .int (nI (k + 1))), (0, .ref (A 313)), (1, .ref (sK κ.Γ i))]) X dL_write_20 rfl (nI_1 _) (by rw [hnL]; decide) rfl ?_
        refine g_goto (tgt := 2) X dL_write_23 (by decide) ?_
        refine g_locs [0, 1, 2] (L' := [(2, .int (nI (k + 1))), (0, .ref (A 313)), (1, .ref (sK κ.Γ i))]) rfl ?_
        refine g_widen (k := 3 * (k + 1)) (n := 18 * (k + 1)) (by omega) (by omega) ?_
        exact ih2 (k + 1) M1 (by omega) (by omega) hj9.2 hB hF
  refine g_locs [0, 1, 2] (L' := [(2, .int 0), (0, .ref (A 313)), (1, .ref (sK κ.Γ i))]) rfl ?_
  refine g_widen (k := 3 * 0) (n := 18 * 0) (by omega) (by omega) ?_
  exact lp1 _ 0 M (Nat.lt_succ_self _) (Nat.zero_le _) hJ hB Fr.rf
set_option maxRecDepth 100000 in
set_option maxHeartbeats 4000000 in
theorem c_L_act (l : Launch) (hl : l.stackTraces = false) (Γ : Gm) (M : Hp) (A : Nat → Nat) (w : PV) (hB : BRep Γ A w M) (hJ : J w) (x : Int32) : Ct l Γ yL_act cL_act 5 (some .int) 8 160 960 [.ref (A 313), .int x] M (LwP Γ A M (fun v w' => J w' ∧ ∃ n, v = some (.int n) ∧ (n = -100000000 → w'.1 0 = w.1 0))) := by
  refine Ct.of hl (by decide) (Nat.le_of_ble_eq_true rfl) rfl ?_
  intro κ e1 e2 hnL hRm X F hlt
  subst e1 e2
  refine g_iload_n X dL_act_0 rfl 1 rfl ?_
  refine g_iconst (v := 4) X dL_act_1 (by decide) ?_
  refine g_ishr X dL_act_2 ?_
  refine g_ldc (v := 65535) X dL_act_3 k5008 ?_
  refine g_iand X dL_act_5 ?_
  refine g_topi (fun y hy => ?_)
  refine g_istore_n (L' := [(2, .int y), (0, .ref (A 313)), (1, .int x)]) X dL_act_6 rfl (by rw [hnL]; decide) rfl ?_
  refine g_iload_n X dL_act_7 rfl 0 rfl ?_
  refine g_bipush (v := 7) X dL_act_8 (by decide) ?_
  refine g_irem X dL_act_10 (by decide) ?_
  refine g_topi (fun mb hmb => ?_)
  refine g_istore_n (L' := [(3, .int mb), (2, .int y), (0, .ref (A 313)), (1, .int x)]) X dL_act_11 rfl (by rw [hnL]; decide) rfl ?_
  refine g_iload_n X dL_act_12 rfl 1 rfl ?_
  refine g_iconst (v := 3) X dL_act_13 (by decide) ?_
  refine g_ishr X dL_act_14 ?_
  refine g_iconst (v := 3) X dL_act_15 (by decide) ?_
  refine g_irem X dL_act_16 (by decide) ?_
  refine g_topi (fun bl hbl => ?_)
  refine g_istore (L' := [(4, .int bl), (3, .int mb), (2, .int y), (0, .ref (A 313)), (1, .int x)]) X dL_act_17 (by rw [hnL]; decide) rfl ?_
  refine g_iload_n X dL_act_19 rfl 4 rfl ?_
  refine g_bipush (v := 15) X dL_act_20 (by decide) ?_
  refine g_iand X dL_act_22 ?_
  refine g_topi (fun z1 hz1 => ?_)
  by_cases e2 : z1 = 0
  · refine g_tabIn (off := 73) (tgt := 96) X dL_act_23 (by rw [e2]; decide) (by rw [e2]; decide) (by rw [e2]; rfl) (by decide) ?_
    refine g_iload_n X dL_act_96 rfl 2 rfl ?_
    refine g_bipush (v := 64) X dL_act_97 (by decide) ?_
    refine g_iand X dL_act_99 ?_
    refine g_if_ne (tgt := 119) X dL_act_100 (by decide) (fun c3 => ?_) (fun c3 => ?_)
    · refine g_aload_n X dL_act_119 rfl 3 rfl ?_
      refine g_iload_n X dL_act_120 rfl 2 rfl ?_
      refine g_bipush (v := 6) X dL_act_121 (by decide) ?_
      refine g_irem X dL_act_123 (by decide) ?_
      refine g_cW X dL_act_124 (As := [.ref (A 313), .int (irm y 6)]) (A := A) (w' := ((pSetQuorum w (irm y 6)).2)) (v := .int (wI (-100000000) (pSetQuorum w (irm y 6)).1)) (c_L_setQuorum κ.l hl κ.Γ M A w hB hJ.inv (irm y 6) (j_setQuorum hJ (irm y 6)).1) (Fr.rf : Fr A 315 M M) k5020 k512 k0 k5021 ⟨by decide, by decide, (show (parseMethodDescriptor yL_setQuorum.desc).map (fun d => d.parameters.length) = some 2 by decide +kernel)⟩ rfl (Nat.le_of_ble_eq_true rfl) (by rw [hRm]; decide) (by rw [hRm]; exact ⟨by (show _ ≤ 160); omega, by (show _ ≤ 960); omega⟩) (fun M1 hB hF => ?_)
      exact g_iret X F dL_act_127 (by omega) (by omega) ⟨_, _, rfl, ⟨(j_setQuorum hJ (irm y 6)).2, _, rfl, fr_setQuorum hJ (irm y 6)⟩, hB, hF⟩
    · refine g_aload_n X dL_act_103 rfl 3 rfl ?_
      refine g_iload_n X dL_act_104 rfl 2 rfl ?_
      refine g_iconst (v := 5) X dL_act_105 (by decide) ?_
      refine g_irem X dL_act_106 (by decide) ?_
      refine g_iload_n X dL_act_107 rfl 2 rfl ?_
      refine g_iconst (v := 3) X dL_act_108 (by decide) ?_
      refine g_ishr X dL_act_109 ?_
      refine g_bipush (v := 9) X dL_act_110 (by decide) ?_
      refine g_irem X dL_act_112 (by decide) ?_
      refine g_cW X dL_act_113 (As := [.ref (A 313), .int (irm y 5), .int (irm (shr y 3) 9)]) (A := A) (w' := ((pAddMember w (irm y 5) (irm (shr y 3) 9)).2)) (v := .int (wI (-100000000) (pAddMember w (irm y 5) (irm (shr y 3) 9)).1)) (c_L_addMember κ.l hl κ.Γ M A w hB hJ.inv (irm y 5) (irm (shr y 3) 9) (j_addMember hJ (irm y 5) (irm (shr y 3) 9)).1) (Fr.rf : Fr A 315 M M) k5009 k287 k0 k5010 ⟨by decide, by decide, (show (parseMethodDescriptor yL_addMember.desc).map (fun d => d.parameters.length) = some 3 by decide +kernel)⟩ rfl (Nat.le_of_ble_eq_true rfl) (by rw [hRm]; decide) (by rw [hRm]; exact ⟨by (show _ ≤ 160); omega, by (show _ ≤ 960); omega⟩) (fun M1 hB hF => ?_)
      refine g_goto (tgt := 127) X dL_act_116 (by decide) ?_
      exact g_iret X F dL_act_127 (by omega) (by omega) ⟨_, _, rfl, ⟨(j_addMember hJ (irm y 5) (irm (shr y 3) 9)).2, _, rfl, fr_addMember hJ (irm y 5) (irm (shr y 3) 9)⟩, hB, hF⟩
  by_cases e4 : z1 = 1
  · refine g_tabIn (off := 105) (tgt := 128) X dL_act_23 (by rw [e4]; decide) (by rw [e4]; decide) (by rw [e4]; rfl) (by decide) ?_
    refine g_aload_n X dL_act_128 rfl 3 rfl ?_
    refine g_iload_n X dL_act_129 rfl 1 rfl ?_
    refine g_cW X dL_act_130 (As := [.ref (A 313), .int mb]) (A := A) (w' := ((pEnter w mb).2)) (v := .int (wI (-100000000) (pEnter w mb).1)) (c_L_enter κ.l hl κ.Γ M A w hB hJ.inv mb (j_enter hJ mb).1) (Fr.rf : Fr A 315 M M) k5017 k478 k0 k5018 ⟨by decide, by decide, (show (parseMethodDescriptor yL_enter.desc).map (fun d => d.parameters.length) = some 2 by decide +kernel)⟩ rfl (Nat.le_of_ble_eq_true rfl) (by rw [hRm]; decide) (by rw [hRm]; exact ⟨by (show _ ≤ 160); omega, by (show _ ≤ 960); omega⟩) (fun M1 hB hF => ?_)
    exact g_iret X F dL_act_133 (by omega) (by omega) ⟨_, _, rfl, ⟨(j_enter hJ mb).2, _, rfl, fr_enter hJ mb⟩, hB, hF⟩
  by_cases e5 : z1 = 2
  · refine g_tabIn (off := 111) (tgt := 134) X dL_act_23 (by rw [e5]; decide) (by rw [e5]; decide) (by rw [e5]; rfl) (by decide) ?_
    refine g_iload_n X dL_act_134 rfl 2 rfl ?_
    refine g_bipush (v := 64) X dL_act_135 (by decide) ?_
    refine g_iand X dL_act_137 ?_
    refine g_if_ne (tgt := 149) X dL_act_138 (by decide) (fun c6 => ?_) (fun c6 => ?_)
    · refine g_aload_n X dL_act_149 rfl 3 rfl ?_
      refine g_iload_n X dL_act_150 rfl 1 rfl ?_
      refine g_cW X dL_act_151 (As := [.ref (A 313), .int mb]) (A := A) (w' := ((pEnter w mb).2)) (v := .int (wI (-100000000) (pEnter w mb).1)) (c_L_enter κ.l hl κ.Γ M A w hB hJ.inv mb (j_enter hJ mb).1) (Fr.rf : Fr A 315 M M) k5017 k478 k0 k5018 ⟨by decide, by decide, (show (parseMethodDescriptor yL_enter.desc).map (fun d => d.parameters.length) = some 2 by decide +kernel)⟩ rfl (Nat.le_of_ble_eq_true rfl) (by rw [hRm]; decide) (by rw [hRm]; exact ⟨by (show _ ≤ 160); omega, by (show _ ≤ 960); omega⟩) (fun M1 hB hF => ?_)
      exact g_iret X F dL_act_154 (by omega) (by omega) ⟨_, _, rfl, ⟨(j_enter hJ mb).2, _, rfl, fr_enter hJ mb⟩, hB, hF⟩
    · refine g_aload_n X dL_act_141 rfl 3 rfl ?_
      refine g_iload_n X dL_act_142 rfl 1 rfl ?_
      refine g_cW X dL_act_143 (As := [.ref (A 313), .int mb]) (A := A) (w' := ((pLeave w mb).2)) (v := .int (wI (-100000000) (pLeave w mb).1)) (c_L_leave κ.l hl κ.Γ M A w hB hJ.inv mb (j_leave hJ mb).1) (Fr.rf : Fr A 315 M M) k5058 k497 k0 k5059 ⟨by decide, by decide, (show (parseMethodDescriptor yL_leave.desc).map (fun d => d.parameters.length) = some 2 by decide +kernel)⟩ rfl (Nat.le_of_ble_eq_true rfl) (by rw [hRm]; decide) (by rw [hRm]; exact ⟨by (show _ ≤ 160); omega, by (show _ ≤ 960); omega⟩) (fun M1 hB hF => ?_)
      refine g_goto (tgt := 154) X dL_act_146 (by decide) ?_
      exact g_iret X F dL_act_154 (by omega) (by omega) ⟨_, _, rfl, ⟨(j_leave hJ mb).2, _, rfl, fr_leave hJ mb⟩, hB, hF⟩
  by_cases e7 : z1 = 3
  · refine g_tabIn (off := 132) (tgt := 155) X dL_act_23 (by rw [e7]; decide) (by rw [e7]; decide) (by rw [e7]; rfl) (by decide) ?_
    refine g_aload_n X dL_act_155 rfl 3 rfl ?_
    refine g_iload_n X dL_act_156 rfl 1 rfl ?_
    refine g_iload_n X dL_act_157 rfl 2 rfl ?_
    refine g_iconst (v := 2) X dL_act_158 (by decide) ?_
    refine g_ishr X dL_act_159 ?_
    refine g_bipush (v := 66) X dL_act_160 (by decide) ?_
    refine g_irem X dL_act_162 (by decide) ?_
    refine g_iload_n X dL_act_163 rfl 2 rfl ?_
    refine g_iconst (v := 4) X dL_act_164 (by decide) ?_
    refine g_ishr X dL_act_165 ?_
    refine g_bipush (v := 66) X dL_act_166 (by decide) ?_
    refine g_irem X dL_act_168 (by decide) ?_
    refine g_cW X dL_act_169 (As := [.ref (A 313), .int mb, .int (irm (shr y 2) 66), .int (irm (shr y 4) 66)]) (A := A) (w' := ((pIntroduce w mb (irm (shr y 2) 66) (irm (shr y 4) 66)).2)) (v := .int (wI (-100000000) (pIntroduce w mb (irm (shr y 2) 66) (irm (shr y 4) 66)).1)) (c_L_introduce κ.l hl κ.Γ M A w hB hJ.inv mb (irm (shr y 2) 66) (irm (shr y 4) 66) (j_introduce hJ mb (irm (shr y 2) 66) (irm (shr y 4) 66)).1) (Fr.rf : Fr A 315 M M) k5023 k562 k0 k5024 ⟨by decide, by decide, (show (parseMethodDescriptor yL_introduce.desc).map (fun d => d.parameters.length) = some 4 by decide +kernel)⟩ rfl (Nat.le_of_ble_eq_true rfl) (by rw [hRm]; decide) (by rw [hRm]; exact ⟨by (show _ ≤ 160); omega, by (show _ ≤ 960); omega⟩) (fun M1 hB hF => ?_)
    exact g_iret X F dL_act_172 (by omega) (by omega) ⟨_, _, rfl, ⟨(j_introduce hJ mb (irm (shr y 2) 66) (irm (shr y 4) 66)).2, _, rfl, fr_introduce hJ mb (irm (shr y 2) 66) (irm (shr y 4) 66)⟩, hB, hF⟩
  by_cases e8 : z1 = 4
  · refine g_tabIn (off := 150) (tgt := 173) X dL_act_23 (by rw [e8]; decide) (by rw [e8]; decide) (by rw [e8]; rfl) (by decide) ?_
    refine g_aload_n X dL_act_173 rfl 3 rfl ?_
    refine g_iload X dL_act_174 0 rfl ?_
    refine g_iload_n X dL_act_176 rfl 1 rfl ?_
    refine g_cW X dL_act_177 (As := [.ref (A 313), .int bl, .int mb]) (A := A) (w' := ((pVoteFor w bl mb).2)) (v := .int (wI (-100000000) (pVoteFor w bl mb).1)) (c_L_voteFor κ.l hl κ.Γ M A w hB hJ.inv bl mb (j_voteFor hJ bl mb).1) (Fr.rf : Fr A 315 M M) k5027 k665 k0 k5028 ⟨by decide, by decide, (show (parseMethodDescriptor yL_voteFor.desc).map (fun d => d.parameters.length) = some 3 by decide +kernel)⟩ rfl (Nat.le_of_ble_eq_true rfl) (by rw [hRm]; decide) (by rw [hRm]; exact ⟨by (show _ ≤ 160); omega, by (show _ ≤ 960); omega⟩) (fun M1 hB hF => ?_)
    exact g_iret X F dL_act_180 (by omega) (by omega) ⟨_, _, rfl, ⟨(j_voteFor hJ bl mb).2, _, rfl, fr_voteFor hJ bl mb⟩, hB, hF⟩
  by_cases e9 : z1 = 5
  · refine g_tabIn (off := 150) (tgt := 173) X dL_act_23 (by rw [e9]; decide) (by rw [e9]; decide) (by rw [e9]; rfl) (by decide) ?_
    refine g_aload_n X dL_act_173 rfl 3 rfl ?_
    refine g_iload X dL_act_174 0 rfl ?_
    refine g_iload_n X dL_act_176 rfl 1 rfl ?_
    refine g_cW X dL_act_177 (As := [.ref (A 313), .int bl, .int mb]) (A := A) (w' := ((pVoteFor w bl mb).2)) (v := .int (wI (-100000000) (pVoteFor w bl mb).1)) (c_L_voteFor κ.l hl κ.Γ M A w hB hJ.inv bl mb (j_voteFor hJ bl mb).1) (Fr.rf : Fr A 315 M M) k5027 k665 k0 k5028 ⟨by decide, by decide, (show (parseMethodDescriptor yL_voteFor.desc).map (fun d => d.parameters.length) = some 3 by decide +kernel)⟩ rfl (Nat.le_of_ble_eq_true rfl) (by rw [hRm]; decide) (by rw [hRm]; exact ⟨by (show _ ≤ 160); omega, by (show _ ≤ 960); omega⟩) (fun M1 hB hF => ?_)
    exact g_iret X F dL_act_180 (by omega) (by omega) ⟨_, _, rfl, ⟨(j_voteFor hJ bl mb).2, _, rfl, fr_voteFor hJ bl mb⟩, hB, hF⟩
  by_cases e10 : z1 = 6
  · refine g_tabIn (off := 150) (tgt := 173) X dL_act_23 (by rw [e10]; decide) (by rw [e10]; decide) (by rw [e10]; rfl) (by decide) ?_
    refine g_aload_n X dL_act_173 rfl 3 rfl ?_
    refine g_iload X dL_act_174 0 rfl ?_
    refine g_iload_n X dL_act_176 rfl 1 rfl ?_
    refine g_cW X dL_act_177 (As := [.ref (A 313), .int bl, .int mb]) (A := A) (w' := ((pVoteFor w bl mb).2)) (v := .int (wI (-100000000) (pVoteFor w bl mb).1)) (c_L_voteFor κ.l hl κ.Γ M A w hB hJ.inv bl mb (j_voteFor hJ bl mb).1) (Fr.rf : Fr A 315 M M) k5027 k665 k0 k5028 ⟨by decide, by decide, (show (parseMethodDescriptor yL_voteFor.desc).map (fun d => d.parameters.length) = some 3 by decide +kernel)⟩ rfl (Nat.le_of_ble_eq_true rfl) (by rw [hRm]; decide) (by rw [hRm]; exact ⟨by (show _ ≤ 160); omega, by (show _ ≤ 960); omega⟩) (fun M1 hB hF => ?_)
    exact g_iret X F dL_act_180 (by omega) (by omega) ⟨_, _, rfl, ⟨(j_voteFor hJ bl mb).2, _, rfl, fr_voteFor hJ bl mb⟩, hB, hF⟩
  by_cases e11 : z1 = 7
  · refine g_tabIn (off := 158) (tgt := 181) X dL_act_23 (by rw [e11]; decide) (by rw [e11]; decide) (by rw [e11]; rfl) (by decide) ?_
    refine g_aload_n X dL_act_181 rfl 3 rfl ?_
    refine g_iload X dL_act_182 0 rfl ?_
    refine g_iload_n X dL_act_184 rfl 1 rfl ?_
    refine g_cW X dL_act_185 (As := [.ref (A 313), .int bl, .int mb]) (A := A) (w' := ((pVoteAgainst w bl mb).2)) (v := .int (wI (-100000000) (pVoteAgainst w bl mb).1)) (c_L_voteAgainst κ.l hl κ.Γ M A w hB hJ.inv bl mb (j_voteAgainst hJ bl mb).1) (Fr.rf : Fr A 315 M M) k5061 k682 k0 k5062 ⟨by decide, by decide, (show (parseMethodDescriptor yL_voteAgainst.desc).map (fun d => d.parameters.length) = some 3 by decide +kernel)⟩ rfl (Nat.le_of_ble_eq_true rfl) (by rw [hRm]; decide) (by rw [hRm]; exact ⟨by (show _ ≤ 160); omega, by (show _ ≤ 960); omega⟩) (fun M1 hB hF => ?_)
    exact g_iret X F dL_act_188 (by omega) (by omega) ⟨_, _, rfl, ⟨(j_voteAgainst hJ bl mb).2, _, rfl, fr_voteAgainst hJ bl mb⟩, hB, hF⟩
  by_cases e12 : z1 = 8
  · refine g_tabIn (off := 166) (tgt := 189) X dL_act_23 (by rw [e12]; decide) (by rw [e12]; decide) (by rw [e12]; rfl) (by decide) ?_
    refine g_aload_n X dL_act_189 rfl 3 rfl ?_
    refine g_iload X dL_act_190 0 rfl ?_
    refine g_cW X dL_act_192 (As := [.ref (A 313), .int bl]) (A := A) (w' := ((pCloseReading w bl).2)) (v := .int (wI (-100000000) (pCloseReading w bl).1)) (c_L_closeReading κ.l hl κ.Γ M A w hB hJ.inv bl (j_closeReading hJ bl).1) (Fr.rf : Fr A 315 M M) k5064 k714 k0 k5065 ⟨by decide, by decide, (show (parseMethodDescriptor yL_closeReading.desc).map (fun d => d.parameters.length) = some 2 by decide +kernel)⟩ rfl (Nat.le_of_ble_eq_true rfl) (by rw [hRm]; decide) (by rw [hRm]; exact ⟨by (show _ ≤ 160); omega, by (show _ ≤ 960); omega⟩) (fun M1 hB hF => ?_)
    exact g_iret X F dL_act_195 (by omega) (by omega) ⟨_, _, rfl, ⟨(j_closeReading hJ bl).2, _, rfl, fr_closeReading hJ bl⟩, hB, hF⟩
  by_cases e13 : z1 = 9
  · refine g_tabIn (off := 173) (tgt := 196) X dL_act_23 (by rw [e13]; decide) (by rw [e13]; decide) (by rw [e13]; rfl) (by decide) ?_
    refine g_aload_n X dL_act_196 rfl 3 rfl ?_
    refine g_iload X dL_act_197 0 rfl ?_
    refine g_iload_n X dL_act_199 rfl 1 rfl ?_
    refine g_iload_n X dL_act_200 rfl 2 rfl ?_
    refine g_iconst (v := 4) X dL_act_201 (by decide) ?_
    refine g_ishr X dL_act_202 ?_
    refine g_bipush (v := 65) X dL_act_203 (by decide) ?_
    refine g_irem X dL_act_205 (by decide) ?_
    refine g_cW X dL_act_206 (As := [.ref (A 313), .int bl, .int mb, .int (irm (shr y 4) 65)]) (A := A) (w' := ((pPropose w bl mb (irm (shr y 4) 65)).2)) (v := .int (wI (-100000000) (pPropose w bl mb (irm (shr y 4) 65)).1)) (c_L_propose κ.l hl κ.Γ M A w hB hJ.inv bl mb (irm (shr y 4) 65) (j_propose hJ bl mb (irm (shr y 4) 65)).1) (Fr.rf : Fr A 315 M M) k5030 k734 k0 k5031 ⟨by decide, by decide, (show (parseMethodDescriptor yL_propose.desc).map (fun d => d.parameters.length) = some 4 by decide +kernel)⟩ rfl (Nat.le_of_ble_eq_true rfl) (by rw [hRm]; decide) (by rw [hRm]; exact ⟨by (show _ ≤ 160); omega, by (show _ ≤ 960); omega⟩) (fun M1 hB hF => ?_)
    exact g_iret X F dL_act_209 (by omega) (by omega) ⟨_, _, rfl, ⟨(j_propose hJ bl mb (irm (shr y 4) 65)).2, _, rfl, fr_propose hJ bl mb (irm (shr y 4) 65)⟩, hB, hF⟩
  by_cases e14 : z1 = 10
  · refine g_tabIn (off := 173) (tgt := 196) X dL_act_23 (by rw [e14]; decide) (by rw [e14]; decide) (by rw [e14]; rfl) (by decide) ?_
    refine g_aload_n X dL_act_196 rfl 3 rfl ?_
    refine g_iload X dL_act_197 0 rfl ?_
    refine g_iload_n X dL_act_199 rfl 1 rfl ?_
    refine g_iload_n X dL_act_200 rfl 2 rfl ?_
    refine g_iconst (v := 4) X dL_act_201 (by decide) ?_
    refine g_ishr X dL_act_202 ?_
    refine g_bipush (v := 65) X dL_act_203 (by decide) ?_
    refine g_irem X dL_act_205 (by decide) ?_
    refine g_cW X dL_act_206 (As := [.ref (A 313), .int bl, .int mb, .int (irm (shr y 4) 65)]) (A := A) (w' := ((pPropose w bl mb (irm (shr y 4) 65)).2)) (v := .int (wI (-100000000) (pPropose w bl mb (irm (shr y 4) 65)).1)) (c_L_propose κ.l hl κ.Γ M A w hB hJ.inv bl mb (irm (shr y 4) 65) (j_propose hJ bl mb (irm (shr y 4) 65)).1) (Fr.rf : Fr A 315 M M) k5030 k734 k0 k5031 ⟨by decide, by decide, (show (parseMethodDescriptor yL_propose.desc).map (fun d => d.parameters.length) = some 4 by decide +kernel)⟩ rfl (Nat.le_of_ble_eq_true rfl) (by rw [hRm]; decide) (by rw [hRm]; exact ⟨by (show _ ≤ 160); omega, by (show _ ≤ 960); omega⟩) (fun M1 hB hF => ?_)
    exact g_iret X F dL_act_209 (by omega) (by omega) ⟨_, _, rfl, ⟨(j_propose hJ bl mb (irm (shr y 4) 65)).2, _, rfl, fr_propose hJ bl mb (irm (shr y 4) 65)⟩, hB, hF⟩
  by_cases e15 : z1 = 11
  · refine g_tabIn (off := 187) (tgt := 210) X dL_act_23 (by rw [e15]; decide) (by rw [e15]; decide) (by rw [e15]; rfl) (by decide) ?_
    refine g_iload_n X dL_act_210 rfl 2 rfl ?_
    refine g_bipush (v := 64) X dL_act_211 (by decide) ?_
    refine g_iand X dL_act_213 ?_
    refine g_if_ne (tgt := 232) X dL_act_214 (by decide) (fun c16 => ?_) (fun c16 => ?_)
    · refine g_aload_n X dL_act_232 rfl 3 rfl ?_
      refine g_iload X dL_act_233 0 rfl ?_
      refine g_cW X dL_act_235 (As := [.ref (A 313), .int bl]) (A := A) (w' := ((pDecide w bl).2)) (v := .int (wI (-100000000) (pDecide w bl).1)) (c_L_decide κ.l hl κ.Γ M A w hB hJ.inv bl (j_decide hJ bl).1) (Fr.rf : Fr A 315 M M) k5070 k768 k0 k5071 ⟨by decide, by decide, (show (parseMethodDescriptor yL_decide.desc).map (fun d => d.parameters.length) = some 2 by decide +kernel)⟩ rfl (Nat.le_of_ble_eq_true rfl) (by rw [hRm]; decide) (by rw [hRm]; exact ⟨by (show _ ≤ 160); omega, by (show _ ≤ 960); omega⟩) (fun M1 hB hF => ?_)
      exact g_iret X F dL_act_238 (by omega) (by omega) ⟨_, _, rfl, ⟨(j_decide hJ bl).2, _, rfl, fr_decide hJ bl⟩, hB, hF⟩
    · refine g_aload_n X dL_act_217 rfl 3 rfl ?_
      refine g_iload X dL_act_218 0 rfl ?_
      refine g_iload_n X dL_act_220 rfl 2 rfl ?_
      refine g_iconst (v := 5) X dL_act_221 (by decide) ?_
      refine g_ishr X dL_act_222 ?_
      refine g_iconst (v := 3) X dL_act_223 (by decide) ?_
      refine g_irem X dL_act_224 (by decide) ?_
      refine g_iload_n X dL_act_225 rfl 1 rfl ?_
      refine g_cW X dL_act_226 (As := [.ref (A 313), .int bl, .int (irm (shr y 5) 3), .int mb]) (A := A) (w' := ((pSupport w bl (irm (shr y 5) 3) mb).2)) (v := .int (wI (-100000000) (pSupport w bl (irm (shr y 5) 3) mb).1)) (c_L_support κ.l hl κ.Γ M A w hB hJ.inv bl (irm (shr y 5) 3) mb (j_support hJ bl (irm (shr y 5) 3) mb).1) (Fr.rf : Fr A 315 M M) k5067 k749 k0 k5068 ⟨by decide, by decide, (show (parseMethodDescriptor yL_support.desc).map (fun d => d.parameters.length) = some 4 by decide +kernel)⟩ rfl (Nat.le_of_ble_eq_true rfl) (by rw [hRm]; decide) (by rw [hRm]; exact ⟨by (show _ ≤ 160); omega, by (show _ ≤ 960); omega⟩) (fun M1 hB hF => ?_)
      refine g_goto (tgt := 238) X dL_act_229 (by decide) ?_
      exact g_iret X F dL_act_238 (by omega) (by omega) ⟨_, _, rfl, ⟨(j_support hJ bl (irm (shr y 5) 3) mb).2, _, rfl, fr_support hJ bl (irm (shr y 5) 3) mb⟩, hB, hF⟩
  by_cases e17 : z1 = 12
  · refine g_tabIn (off := 216) (tgt := 239) X dL_act_23 (by rw [e17]; decide) (by rw [e17]; decide) (by rw [e17]; rfl) (by decide) ?_
    refine g_aload_n X dL_act_239 rfl 3 rfl ?_
    refine g_iload_n X dL_act_240 rfl 1 rfl ?_
    refine g_iload X dL_act_241 0 rfl ?_
    refine g_iload_n X dL_act_243 rfl 2 rfl ?_
    refine g_iconst (v := 4) X dL_act_244 (by decide) ?_
    refine g_ishr X dL_act_245 ?_
    refine g_bipush (v := 32) X dL_act_246 (by decide) ?_
    refine g_irem X dL_act_248 (by decide) ?_
    refine g_cW X dL_act_249 (As := [.ref (A 313), .int mb, .int bl, .int (irm (shr y 4) 32)]) (A := A) (w' := ((pRide w mb bl (irm (shr y 4) 32)).2)) (v := .int (wI (-100000000) (pRide w mb bl (irm (shr y 4) 32)).1)) (c_L_ride κ.l hl κ.Γ M A w hB hJ.inv mb bl (irm (shr y 4) 32) (j_ride hJ mb bl (irm (shr y 4) 32)).1) (Fr.rf : Fr A 315 M M) k5073 k809 k0 k5074 ⟨by decide, by decide, (show (parseMethodDescriptor yL_ride.desc).map (fun d => d.parameters.length) = some 4 by decide +kernel)⟩ rfl (Nat.le_of_ble_eq_true rfl) (by rw [hRm]; decide) (by rw [hRm]; exact ⟨by (show _ ≤ 160); omega, by (show _ ≤ 960); omega⟩) (fun M1 hB hF => ?_)
    exact g_iret X F dL_act_252 (by omega) (by omega) ⟨_, _, rfl, ⟨(j_ride hJ mb bl (irm (shr y 4) 32)).2, _, rfl, fr_ride hJ mb bl (irm (shr y 4) 32)⟩, hB, hF⟩
  by_cases e18 : z1 = 13
  · refine g_tabIn (off := 230) (tgt := 253) X dL_act_23 (by rw [e18]; decide) (by rw [e18]; decide) (by rw [e18]; rfl) (by decide) ?_
    refine g_aload_n X dL_act_253 rfl 3 rfl ?_
    refine g_txs X dL_act_254 k5076 ?_
    refine g_iload_n X dL_act_257 rfl 2 rfl ?_
    refine g_txs X dL_act_258 k5076 ?_
    refine g_txlen X dL_act_261 ?_
    refine g_irem X dL_act_262 (by decide) ?_
    have hti : vp_in (irm y 31) 31 := irm_in (n := 31) (by rw [hy]; exact and16 _) (by decide) (by decide)
    have htl := vin_lt hti
    refine g_txld X dL_act_263 hti ?_
    refine g_cS X dL_act_264 (As := [.ref (A 313), .ref (sK κ.Γ (13 + cN (irm y 31)))]) (A := A) (c_L_write κ.l hl κ.Γ M A w hB hJ (13 + cN (irm y 31)) (by omega)) (Fr.rf : Fr A 315 M M) k5046 k5047 k0 k5048 ⟨by decide, by decide, (show (parseMethodDescriptor yL_write.desc).map (fun d => d.parameters.length) = some 2 by decide +kernel)⟩ rfl (Nat.le_of_ble_eq_true rfl) (by rw [hRm]; decide) (by rw [hRm]; exact ⟨by (show _ ≤ 160); omega, by (show _ ≤ 960); omega⟩) (fun v9 w9 M1 h9 hB hF => ?_)
    obtain ⟨rfl, e9, hJ9⟩ := h9
    refine g_cW X dL_act_267 (As := [.ref (A 313)]) (A := A) (w' := ((pRun w9).2)) (v := .int (wI (-100000000) (pRun w9).1)) (c_L_run κ.l hl κ.Γ M1 A w9 hB hJ9.inv (j_run hJ9).1) hF k5033 k861 k0 k5034 ⟨by decide, by decide, (show (parseMethodDescriptor yL_run.desc).map (fun d => d.parameters.length) = some 1 by decide +kernel)⟩ rfl (Nat.le_of_ble_eq_true rfl) (by rw [hRm]; decide) (by rw [hRm]; exact ⟨by (show _ ≤ 160); omega, by (show _ ≤ 960); omega⟩) (fun M1 hB hF => ?_)
    exact g_iret X F dL_act_270 (by omega) (by omega) ⟨_, _, rfl, ⟨(j_run hJ9).2, _, rfl, fun e => (fr_run e).trans (by rw [e9]; rw [(wWr_k _).1])⟩, hB, hF⟩
  by_cases e19 : z1 = 14
  · refine g_tabIn (off := 230) (tgt := 253) X dL_act_23 (by rw [e19]; decide) (by rw [e19]; decide) (by rw [e19]; rfl) (by decide) ?_
    refine g_aload_n X dL_act_253 rfl 3 rfl ?_
    refine g_txs X dL_act_254 k5076 ?_
    refine g_iload_n X dL_act_257 rfl 2 rfl ?_
    refine g_txs X dL_act_258 k5076 ?_
    refine g_txlen X dL_act_261 ?_
    refine g_irem X dL_act_262 (by decide) ?_
    have hti : vp_in (irm y 31) 31 := irm_in (n := 31) (by rw [hy]; exact and16 _) (by decide) (by decide)
    have htl := vin_lt hti
    refine g_txld X dL_act_263 hti ?_
    refine g_cS X dL_act_264 (As := [.ref (A 313), .ref (sK κ.Γ (13 + cN (irm y 31)))]) (A := A) (c_L_write κ.l hl κ.Γ M A w hB hJ (13 + cN (irm y 31)) (by omega)) (Fr.rf : Fr A 315 M M) k5046 k5047 k0 k5048 ⟨by decide, by decide, (show (parseMethodDescriptor yL_write.desc).map (fun d => d.parameters.length) = some 2 by decide +kernel)⟩ rfl (Nat.le_of_ble_eq_true rfl) (by rw [hRm]; decide) (by rw [hRm]; exact ⟨by (show _ ≤ 160); omega, by (show _ ≤ 960); omega⟩) (fun v9 w9 M1 h9 hB hF => ?_)
    obtain ⟨rfl, e9, hJ9⟩ := h9
    refine g_cW X dL_act_267 (As := [.ref (A 313)]) (A := A) (w' := ((pRun w9).2)) (v := .int (wI (-100000000) (pRun w9).1)) (c_L_run κ.l hl κ.Γ M1 A w9 hB hJ9.inv (j_run hJ9).1) hF k5033 k861 k0 k5034 ⟨by decide, by decide, (show (parseMethodDescriptor yL_run.desc).map (fun d => d.parameters.length) = some 1 by decide +kernel)⟩ rfl (Nat.le_of_ble_eq_true rfl) (by rw [hRm]; decide) (by rw [hRm]; exact ⟨by (show _ ≤ 160); omega, by (show _ ≤ 960); omega⟩) (fun M1 hB hF => ?_)
    exact g_iret X F dL_act_270 (by omega) (by omega) ⟨_, _, rfl, ⟨(j_run hJ9).2, _, rfl, fun e => (fr_run e).trans (by rw [e9]; rw [(wWr_k _).1])⟩, hB, hF⟩
  refine g_tabDef (keys := [0, 1, 2, 3, 4, 5, 6, 7, 8, 9, 10, 11, 12, 13, 14]) (tgt := 271) X dL_act_23 (by decide +kernel) (by decide) (nk e2 (nk e4 (nk e5 (nk e7 (nk e8 (nk e9 (nk e10 (nk e11 (nk e12 (nk e13 (nk e14 (nk e15 (nk e17 (nk e18 (nk e19 nk0))))))))))))))) (by decide) ?_
  refine g_iload_n X dL_act_271 rfl 2 rfl ?_
  refine g_iconst (v := 3) X dL_act_272 (by decide) ?_
  refine g_iand X dL_act_273 ?_
  refine g_if_ne (tgt := 284) X dL_act_274 (by decide) (fun c20 => ?_) (fun c20 => ?_)
  · refine g_iload_n X dL_act_284 rfl 2 rfl ?_
    refine g_iconst (v := 3) X dL_act_285 (by decide) ?_
    refine g_iand X dL_act_286 ?_
    refine g_iconst (v := 1) X dL_act_287 (by decide) ?_
    refine g_icmp_ne (tgt := 298) X dL_act_288 (by decide) (fun c21 => ?_) (fun c21 => ?_)
    · refine g_aload_n X dL_act_298 rfl 3 rfl ?_
      refine g_cW X dL_act_299 (As := [.ref (A 313)]) (A := A) (w' := ((pUndo w).2)) (v := .int (wI (-100000000) (pUndo w).1)) (c_L_undo κ.l hl κ.Γ M A w hB hJ.inv (j_undo hJ).1) (Fr.rf : Fr A 315 M M) k5040 k1069 k0 k5041 ⟨by decide, by decide, (show (parseMethodDescriptor yL_undo.desc).map (fun d => d.parameters.length) = some 1 by decide +kernel)⟩ rfl (Nat.le_of_ble_eq_true rfl) (by rw [hRm]; decide) (by rw [hRm]; exact ⟨by (show _ ≤ 160); omega, by (show _ ≤ 960); omega⟩) (fun M1 hB hF => ?_)
      exact g_iret X F dL_act_302 (by omega) (by omega) ⟨_, _, rfl, ⟨(j_undo hJ).2, _, rfl, fr_undo hJ⟩, hB, hF⟩
    · refine g_aload_n X dL_act_291 rfl 3 rfl ?_
      refine g_cW X dL_act_292 (As := [.ref (A 313)]) (A := A) (w' := ((pRestore w).2)) (v := .int (wI (-100000000) (pRestore w).1)) (c_L_restore κ.l hl κ.Γ M A w hB hJ.inv (j_restore hJ).1) (Fr.rf : Fr A 315 M M) k5043 k1076 k0 k5044 ⟨by decide, by decide, (show (parseMethodDescriptor yL_restore.desc).map (fun d => d.parameters.length) = some 1 by decide +kernel)⟩ rfl (Nat.le_of_ble_eq_true rfl) (by rw [hRm]; decide) (by rw [hRm]; exact ⟨by (show _ ≤ 160); omega, by (show _ ≤ 960); omega⟩) (fun M1 hB hF => ?_)
      refine g_goto (tgt := 302) X dL_act_295 (by decide) ?_
      exact g_iret X F dL_act_302 (by omega) (by omega) ⟨_, _, rfl, ⟨(j_restore hJ).2, _, rfl, fr_restore hJ⟩, hB, hF⟩
  · refine g_aload_n X dL_act_277 rfl 3 rfl ?_
    refine g_cV X dL_act_278 (As := []) (A := A) (w := w) (w' := (pSave w).2) (v := .int ((w.1 0).1 3)) (c_X3_save κ.l hl κ.Γ M A w hB hJ.inv) hB (Fr.rf : Fr A 315 M M) k5004 k276 k277 k1 k278 ⟨rfl, by decide, by decide, (show (parseMethodDescriptor yX3_save.desc).map (fun d => d.parameters.length) = some 0 by decide +kernel)⟩ rfl (Nat.le_of_ble_eq_true rfl) (by rw [hRm]; decide) (by rw [hRm]; exact ⟨by (show _ ≤ 160); omega, by (show _ ≤ 960); omega⟩) (fun M1 hB hF => ?_)
    refine g_goto (tgt := 302) X dL_act_281 (by decide) ?_
    exact g_iret X F dL_act_302 (by omega) (by omega) ⟨_, _, rfl, ⟨(j_save hJ), _, rfl, fun _ => rfl⟩, hB, hF⟩
set_option maxRecDepth 100000 in
set_option maxHeartbeats 4000000 in
theorem c_L_digest (l : Launch) (hl : l.stackTraces = false) (Γ : Gm) (M : Hp) (A : Nat → Nat) (w : PV) (hB : BRep Γ A w M) (hJ : J w) : Ct l Γ yL_digest cL_digest 5 (some .long) 4 1300 7800 [.ref (A 313)] M (BMu Γ A (.inl (some (.long (dgH (w.1 0)))), w) M) := by
  refine Ct.of hl (by decide) (Nat.le_of_ble_eq_true rfl) rfl ?_
  intro κ e1 e2 hnL hRm X F hlt
  subst e1 e2
  obtain ⟨m, n, u, q⟩ := hJ.hs
  have em : (w.1 0).1 0 = nI m := q.2.1.1
  have en : (w.1 0).1 3 = nI n := q.2.2.1.1
  obtain ⟨hm, hn⟩ := q.1
  refine g_ldc2 (v := 7) X dL_digest_0 k5080 ?_
  refine g_aload_n X dL_digest_3 rfl 0 rfl ?_
  refine g_cV X dL_digest_4 (As := []) (A := A) (w := w) (w' := w) (v := .int ((w.1 0).1 1)) (c_X3_presentMask κ.l hl κ.Γ M A w hB hJ.inv) hB (Fr.rf : Fr A 315 M M) k5081 k193 k194 k1 k195 ⟨rfl, by decide, by decide, (show (parseMethodDescriptor yX3_presentMask.desc).map (fun d => d.parameters.length) = some 0 by decide +kernel)⟩ rfl (Nat.le_of_ble_eq_true rfl) (by rw [hRm]; decide) (by rw [hRm]; exact ⟨by (show _ ≤ 1300); omega, by (show _ ≤ 7800); omega⟩) (fun M1 hB hF => ?_)
  refine g_i2l X dL_digest_7 ?_
  refine g_lmul X dL_digest_8 ?_
  refine g_ldc2 (v := 11) X dL_digest_9 k5082 ?_
  refine g_aload_n X dL_digest_12 rfl 0 rfl ?_
  refine g_cV X dL_digest_13 (As := []) (A := A) (w := w) (w' := w) (v := .int ((w.1 0).1 2)) (c_X3_quorum κ.l hl κ.Γ M1 A w hB hJ.inv) hB hF k5083 k197 k198 k1 k199 ⟨rfl, by decide, by decide, (show (parseMethodDescriptor yX3_quorum.desc).map (fun d => d.parameters.length) = some 0 by decide +kernel)⟩ rfl (Nat.le_of_ble_eq_true rfl) (by rw [hRm]; decide) (by rw [hRm]; exact ⟨by (show _ ≤ 1300); omega, by (show _ ≤ 7800); omega⟩) (fun M1 hB hF => ?_)
  refine g_i2l X dL_digest_16 ?_
  refine g_lmul X dL_digest_17 ?_
  refine g_ladd X dL_digest_18 ?_
  refine g_ldc2 (v := 13) X dL_digest_19 k5084 ?_
  refine g_aload_n X dL_digest_22 rfl 0 rfl ?_
  refine g_cV X dL_digest_23 (As := []) (A := A) (w := w) (w' := w) (v := .int ((w.1 0).1 4)) (c_X3_acceptedCount κ.l hl κ.Γ M1 A w hB hJ.inv) hB hF k5085 k243 k244 k1 k245 ⟨rfl, by decide, by decide, (show (parseMethodDescriptor yX3_acceptedCount.desc).map (fun d => d.parameters.length) = some 0 by decide +kernel)⟩ rfl (Nat.le_of_ble_eq_true rfl) (by rw [hRm]; decide) (by rw [hRm]; exact ⟨by (show _ ≤ 1300); omega, by (show _ ≤ 7800); omega⟩) (fun M1 hB hF => ?_)
  refine g_i2l X dL_digest_26 ?_
  refine g_lmul X dL_digest_27 ?_
  refine g_ladd X dL_digest_28 ?_
  refine g_aload_n X dL_digest_29 rfl 0 rfl ?_
  refine g_cV X dL_digest_30 (As := []) (A := A) (w := w) (w' := w) (v := .int ((w.1 0).1 0)) (c_X3_memberCount κ.l hl κ.Γ M1 A w hB hJ.inv) hB hF k5002 k189 k190 k1 k191 ⟨rfl, by decide, by decide, (show (parseMethodDescriptor yX3_memberCount.desc).map (fun d => d.parameters.length) = some 0 by decide +kernel)⟩ rfl (Nat.le_of_ble_eq_true rfl) (by rw [hRm]; decide) (by rw [hRm]; exact ⟨by (show _ ≤ 1300); omega, by (show _ ≤ 7800); omega⟩) (fun M1 hB hF => ?_)
  refine g_i2l X dL_digest_33 ?_
  refine g_ladd X dL_digest_34 ?_
  refine g_lstore_n (L' := [(1, .long ((((7 * (i2l ((w.1 0).1 1))) + (11 * (i2l ((w.1 0).1 2)))) + (13 * (i2l ((w.1 0).1 4)))) + (i2l ((w.1 0).1 0)))), (0, .ref (A 313))]) X dL_digest_35 rfl (by rw [hnL]; decide) rfl ?_
  refine g_iconst (v := 0) X dL_digest_36 (by decide) ?_
  refine g_istore_n (L' := [(3, .int 0), (1, .long ((((7 * (i2l ((w.1 0).1 1))) + (11 * (i2l ((w.1 0).1 2)))) + (13 * (i2l ((w.1 0).1 4)))) + (i2l ((w.1 0).1 0)))), (0, .ref (A 313))]) X dL_digest_37 rfl (by rw [hnL]; decide) rfl ?_
  have lp1 : ∀ (n9 : Nat) (i : Nat) (M1 : Hp), m - i < n9 → i ≤ m → BRep κ.Γ A w M1 → Fr A 315 M M1 → G κ M1 (12 + 9 * i) (72 + 54 * i) [(3, .int (nI i)), (1, .long (dgM (w.1 0) i)), (0, .ref (A 313))] 38 [] := by
    intro n9
    induction n9 with
    | zero => intro i M1 h9; exact absurd h9 (Nat.not_lt_zero _)
    | succ n9 ih38 =>
      intro i M1 hn9_38 hi hB hF
      refine g_iload_n X dL_digest_38 rfl 0 rfl ?_
      refine g_aload_n X dL_digest_39 rfl 2 rfl ?_
      refine g_cV X dL_digest_40 (As := []) (A := A) (w := w) (w' := w) (v := .int ((w.1 0).1 0)) (c_X3_memberCount κ.l hl κ.Γ M1 A w hB hJ.inv) hB hF k5002 k189 k190 k1 k191 ⟨rfl, by decide, by decide, (show (parseMethodDescriptor yX3_memberCount.desc).map (fun d => d.parameters.length) = some 0 by decide +kernel)⟩ rfl (Nat.le_of_ble_eq_true rfl) (by rw [hRm]; decide) (by rw [hRm]; exact ⟨by (show _ ≤ 1300); omega, by (show _ ≤ 7800); omega⟩) (fun M1 hB hF => ?_)
      refine g_icmp_ge (tgt := 76) X dL_digest_43 (by decide) (fun c2 => ?_) (fun c2 => ?_)
      · have hge : i = m := Nat.le_antisymm hi (ge_N (by omega) (by omega) em c2)
        subst hge
        refine g_iconst (v := 0) X dL_digest_76 (by decide) ?_
        refine g_istore_n (L' := [(3, .int 0), (1, .long (dgM (w.1 0) i)), (0, .ref (A 313))]) X dL_digest_77 rfl (by rw [hnL]; decide) rfl ?_
        have lp3 : ∀ (n9 : Nat) (j : Nat) (M1 : Hp), n - j < n9 → j ≤ n → BRep κ.Γ A w M1 → Fr A 315 M M1 → G κ M1 (300 + 100 * j) (1800 + 600 * j) [(3, .int (nI j)), (1, .long (dgB (w.1 0) (dgM (w.1 0) i) j)), (0, .ref (A 313))] 78 [] := by
          intro n9
          induction n9 with
          | zero => intro j M1 h9; exact absurd h9 (Nat.not_lt_zero _)
          | succ n9 ih78 =>
            intro j M1 hn9_78 hj hB hF
            refine g_iload_n X dL_digest_78 rfl 0 rfl ?_
            refine g_aload_n X dL_digest_79 rfl 2 rfl ?_
            refine g_cV X dL_digest_80 (As := []) (A := A) (w := w) (w' := w) (v := .int ((w.1 0).1 3)) (c_X3_billCount κ.l hl κ.Γ M1 A w hB hJ.inv) hB hF k5003 k227 k228 k1 k229 ⟨rfl, by decide, by decide, (show (parseMethodDescriptor yX3_billCount.desc).map (fun d => d.parameters.length) = some 0 by decide +kernel)⟩ rfl (Nat.le_of_ble_eq_true rfl) (by rw [hRm]; decide) (by rw [hRm]; exact ⟨by (show _ ≤ 1300); omega, by (show _ ≤ 7800); omega⟩) (fun M1 hB hF => ?_)
            refine g_icmp_ge (tgt := 228) X dL_digest_83 (by decide) (fun c4 => ?_) (fun c4 => ?_)
            · have hge : j = n := Nat.le_antisymm hj (ge_N (by omega) (by omega) en c4)
              subst hge
              refine g_lload_n X dL_digest_228 rfl 1 rfl ?_
              exact g_lret X F dL_digest_229 (by omega) (by omega) ⟨by rw [show dgH (w.1 0) = dgB (w.1 0) (dgM (w.1 0) i) j from by unfold dgH; rw [em, en, cN_nI (by omega), cN_nI (by omega)]], hB, hF⟩
            · have hlj : j < n := lt_N (by omega) (by omega) en c4
              have hgb : hasB (w.1 0) (nI j) := gB_N en hn hlj
              obtain ⟨-, -, ⟨pn, hpn, epn0, -⟩, -⟩ := q.bl (b := j) (by omega)
              have epn : (w.1 0).2.1 8 (cN (nI j)) = nI pn := by rw [cN_nI (by omega)]; exact epn0
              refine g_ldc2 (v := 31) X dL_digest_86 k5086 ?_
              refine g_ldc2 (v := 31) X dL_digest_89 k5086 ?_
              refine g_ldc2 (v := 31) X dL_digest_92 k5086 ?_
              refine g_ldc2 (v := 31) X dL_digest_95 k5086 ?_
              refine g_lload_n X dL_digest_98 rfl 1 rfl ?_
              refine g_lmul X dL_digest_99 ?_
              refine g_aload_n X dL_digest_100 rfl 2 rfl ?_
              refine g_iload_n X dL_digest_101 rfl 0 rfl ?_
              refine g_cV X dL_digest_102 (As := [.int (nI j)]) (A := A) (w := w) (w' := w) (v := .long ((w.1 0).2.2 (cN (nI j)))) (Ct.gy hgb (c_X3_clauses κ.l hl κ.Γ M1 A w hB hJ.inv (nI j))) hB hF k5089 k614 k615 k1 k616 ⟨rfl, by decide, by decide, (show (parseMethodDescriptor yX3_clauses.desc).map (fun d => d.parameters.length) = some 1 by decide +kernel)⟩ rfl (Nat.le_of_ble_eq_true rfl) (by rw [hRm]; decide) (by rw [hRm]; exact ⟨by (show _ ≤ 1300); omega, by (show _ ≤ 7800); omega⟩) (fun M1 hB hF => ?_)
              refine g_ladd X dL_digest_105 ?_
              refine g_lmul X dL_digest_106 ?_
              refine g_aload_n X dL_digest_107 rfl 2 rfl ?_
              refine g_iload_n X dL_digest_108 rfl 0 rfl ?_
              refine g_cV X dL_digest_109 (As := [.int (nI j)]) (A := A) (w := w) (w' := w) (v := .int ((w.1 0).2.1 4 (cN (nI j)))) (Ct.gy hgb (c_X3_readings κ.l hl κ.Γ M1 A w hB hJ.inv (nI j))) hB hF k5090 k607 k608 k1 k609 ⟨rfl, by decide, by decide, (show (parseMethodDescriptor yX3_readings.desc).map (fun d => d.parameters.length) = some 1 by decide +kernel)⟩ rfl (Nat.le_of_ble_eq_true rfl) (by rw [hRm]; decide) (by rw [hRm]; exact ⟨by (show _ ≤ 1300); omega, by (show _ ≤ 7800); omega⟩) (fun M1 hB hF => ?_)
              refine g_i2l X dL_digest_112 ?_
              refine g_ladd X dL_digest_113 ?_
              refine g_lmul X dL_digest_114 ?_
              refine g_aload_n X dL_digest_115 rfl 2 rfl ?_
              refine g_iload_n X dL_digest_116 rfl 0 rfl ?_
              refine g_cV X dL_digest_117 (As := [.int (nI j)]) (A := A) (w := w) (w' := w) (v := .int ((w.1 0).2.1 5 (cN (nI j)))) (Ct.gy hgb (c_X3_delay κ.l hl κ.Γ M1 A w hB hJ.inv (nI j))) hB hF k5091 k827 k828 k1 k829 ⟨rfl, by decide, by decide, (show (parseMethodDescriptor yX3_delay.desc).map (fun d => d.parameters.length) = some 1 by decide +kernel)⟩ rfl (Nat.le_of_ble_eq_true rfl) (by rw [hRm]; decide) (by rw [hRm]; exact ⟨by (show _ ≤ 1300); omega, by (show _ ≤ 7800); omega⟩) (fun M1 hB hF => ?_)
              refine g_i2l X dL_digest_120 ?_
              refine g_ladd X dL_digest_121 ?_
              refine g_lmul X dL_digest_122 ?_
              have jn : ∀ M1 : Hp, BRep κ.Γ A w M1 → Fr A 315 M M1 → G κ M1 (300 + 100 * j + 20) (1800 + 600 * j + 120) [(3, .int (nI j)), (1, .long (dgB (w.1 0) (dgM (w.1 0) i) j)), (0, .ref (A 313))] 148 (.int (dgS (w.1 0) j) :: .long (31 * ((31 * ((31 * ((31 * (dgB (w.1 0) (dgM (w.1 0) i) j)) + ((w.1 0).2.2 (cN (nI j))))) + (i2l ((w.1 0).2.1 4 (cN (nI j)))))) + (i2l ((w.1 0).2.1 5 (cN (nI j)))))) :: []) := by
                intro M1 hB hF
                refine g_i2l X dL_digest_148 ?_
                refine g_ladd X dL_digest_149 ?_
                refine g_lstore_n (L' := [(1, .long ((31 * ((31 * ((31 * ((31 * (dgB (w.1 0) (dgM (w.1 0) i) j)) + ((w.1 0).2.2 (cN (nI j))))) + (i2l ((w.1 0).2.1 4 (cN (nI j)))))) + (i2l ((w.1 0).2.1 5 (cN (nI j)))))) + (i2l (dgS (w.1 0) j)))), (3, .int (nI j)), (0, .ref (A 313))]) X dL_digest_150 rfl (by rw [hnL]; decide) rfl ?_
                refine g_ldc2 (v := 31) X dL_digest_151 k5086 ?_
                refine g_ldc2 (v := 31) X dL_digest_154 k5086 ?_
                refine g_lload_n X dL_digest_157 rfl 0 rfl ?_
                refine g_lmul X dL_digest_158 ?_
                refine g_aload_n X dL_digest_159 rfl 2 rfl ?_
                refine g_iload_n X dL_digest_160 rfl 1 rfl ?_
                refine g_cV X dL_digest_161 (As := [.int (nI j)]) (A := A) (w := w) (w' := w) (v := .int (hW (w.1 0) ((w.1 0).2.1 6 (cN (nI j))))) (Ct.gy hgb (c_X3_weightFor κ.l hl κ.Γ M1 A w hB hJ.inv (nI j))) hB hF k5094 k696 k697 k1 k698 ⟨rfl, by decide, by decide, (show (parseMethodDescriptor yX3_weightFor.desc).map (fun d => d.parameters.length) = some 1 by decide +kernel)⟩ rfl (Nat.le_of_ble_eq_true rfl) (by rw [hRm]; decide) (by rw [hRm]; exact ⟨by (show _ ≤ 1300); omega, by (show _ ≤ 7800); omega⟩) (fun M1 hB hF => ?_)
                refine g_i2l X dL_digest_164 ?_
                refine g_ladd X dL_digest_165 ?_
                refine g_lmul X dL_digest_166 ?_
                refine g_aload_n X dL_digest_167 rfl 2 rfl ?_
                refine g_iload_n X dL_digest_168 rfl 1 rfl ?_
                refine g_cV X dL_digest_169 (As := [.int (nI j)]) (A := A) (w := w) (w' := w) (v := .int (hW (w.1 0) ((w.1 0).2.1 7 (cN (nI j))))) (Ct.gy hgb (c_X3_weightAgainst κ.l hl κ.Γ M1 A w hB hJ.inv (nI j))) hB hF k5095 k710 k711 k1 k712 ⟨rfl, by decide, by decide, (show (parseMethodDescriptor yX3_weightAgainst.desc).map (fun d => d.parameters.length) = some 1 by decide +kernel)⟩ rfl (Nat.le_of_ble_eq_true rfl) (by rw [hRm]; decide) (by rw [hRm]; exact ⟨by (show _ ≤ 1300); omega, by (show _ ≤ 7800); omega⟩) (fun M1 hB hF => ?_)
                refine g_i2l X dL_digest_172 ?_
                refine g_ladd X dL_digest_173 ?_
                refine g_lstore_n (L' := [(1, .long ((31 * ((31 * ((31 * ((31 * ((31 * ((31 * (dgB (w.1 0) (dgM (w.1 0) i) j)) + ((w.1 0).2.2 (cN (nI j))))) + (i2l ((w.1 0).2.1 4 (cN (nI j)))))) + (i2l ((w.1 0).2.1 5 (cN (nI j)))))) + (i2l (dgS (w.1 0) j)))) + (i2l (hW (w.1 0) ((w.1 0).2.1 6 (cN (nI j))))))) + (i2l (hW (w.1 0) ((w.1 0).2.1 7 (cN (nI j))))))), (3, .int (nI j)), (0, .ref (A 313))]) X dL_digest_174 rfl (by rw [hnL]; decide) rfl ?_
                refine g_iconst (v := 0) X dL_digest_175 (by decide) ?_
                refine g_istore (L' := [(4, .int 0), (1, .long ((31 * ((31 * ((31 * ((31 * ((31 * ((31 * (dgB (w.1 0) (dgM (w.1 0) i) j)) + ((w.1 0).2.2 (cN (nI j))))) + (i2l ((w.1 0).2.1 4 (cN (nI j)))))) + (i2l ((w.1 0).2.1 5 (cN (nI j)))))) + (i2l (dgS (w.1 0) j)))) + (i2l (hW (w.1 0) ((w.1 0).2.1 6 (cN (nI j))))))) + (i2l (hW (w.1 0) ((w.1 0).2.1 7 (cN (nI j))))))), (3, .int (nI j)), (0, .ref (A 313))]) X dL_digest_176 (by rw [hnL]; decide) rfl ?_
                have lp5 : ∀ (n9 : Nat) (p : Nat) (M1 : Hp), pn - p < n9 → p ≤ pn → BRep κ.Γ A w M1 → Fr A 315 M M1 → G κ M1 (300 + 100 * j + 30 + 9 * p) (1800 + 600 * j + 180 + 54 * p) [(4, .int (nI p)), (1, .long (dgP (w.1 0) j (dgB2 (w.1 0) j (dgB (w.1 0) (dgM (w.1 0) i) j)) p)), (3, .int (nI j)), (0, .ref (A 313))] 178 [] := by
                  intro n9
                  induction n9 with
                  | zero => intro p M1 h9; exact absurd h9 (Nat.not_lt_zero _)
                  | succ n9 ih178 =>
                    intro p M1 hn9_178 hp hB hF
                    refine g_iload X dL_digest_178 0 rfl ?_
                    refine g_aload_n X dL_digest_180 rfl 3 rfl ?_
                    refine g_iload_n X dL_digest_181 rfl 2 rfl ?_
                    refine g_cV X dL_digest_182 (As := [.int (nI j)]) (A := A) (w := w) (w' := w) (v := .int ((w.1 0).2.1 8 (cN (nI j)))) (Ct.gy hgb (c_X3_pendingCount κ.l hl κ.Γ M1 A w hB hJ.inv (nI j))) hB hF k5096 k786 k787 k1 k788 ⟨rfl, by decide, by decide, (show (parseMethodDescriptor yX3_pendingCount.desc).map (fun d => d.parameters.length) = some 1 by decide +kernel)⟩ rfl (Nat.le_of_ble_eq_true rfl) (by rw [hRm]; decide) (by rw [hRm]; exact ⟨by (show _ ≤ 1300); omega, by (show _ ≤ 7800); omega⟩) (fun M1 hB hF => ?_)
                    refine g_icmp_ge (tgt := 222) X dL_digest_185 (by decide) (fun c6 => ?_) (fun c6 => ?_)
                    · have hge : p = pn := Nat.le_antisymm hp (ge_N (by omega) (by omega) epn c6)
                      subst hge
                      have e9 : dgP (w.1 0) j (dgB2 (w.1 0) j (dgB (w.1 0) (dgM (w.1 0) i) j)) p = dgB (w.1 0) (dgM (w.1 0) i) (j + 1) := by (show _ = dgP (w.1 0) j (dgB2 (w.1 0) j (dgB (w.1 0) (dgM (w.1 0) i) j)) (cN ((w.1 0).2.1 8 (cN (nI j))))); rw [epn, cN_nI (by omega)]
                      rw [e9]
                      refine g_iinc (k := 2) (v := (nI (j + 1))) (L' := [(3, .int (nI (j + 1))), (4, .int (nI p)), (1, .long (dgB (w.1 0) (dgM (w.1 0) i) (j + 1))), (0, .ref (A 313))]) X dL_digest_222 rfl (nI_1 _) (by rw [hnL]; decide) rfl ?_
                      refine g_goto (tgt := 78) X dL_digest_225 (by decide) ?_
                      refine g_locs [0, 2, 3] (L' := [(3, .int (nI (j + 1))), (1, .long (dgB (w.1 0) (dgM (w.1 0) i) (j + 1))), (0, .ref (A 313))]) rfl ?_
                      refine g_widen (k := 300 + 100 * (j + 1)) (n := 1800 + 600 * (j + 1)) (by omega) (by omega) ?_
                      exact ih78 (j + 1) M1 (by omega) (by omega) hB hF
                    · have hlp : p < pn := lt_N (by omega) (by omega) epn c6
                      have hgp : hasB (w.1 0) (nI j) ∧ hasP (w.1 0) (nI j) (nI p) := ⟨hgb, gP_N epn hpn hlp⟩
                      refine g_ldc2 (v := 31) X dL_digest_188 k5086 ?_
                      refine g_ldc2 (v := 31) X dL_digest_191 k5086 ?_
                      refine g_lload_n X dL_digest_194 rfl 1 rfl ?_
                      refine g_lmul X dL_digest_195 ?_
                      refine g_aload_n X dL_digest_196 rfl 3 rfl ?_
                      refine g_iload_n X dL_digest_197 rfl 2 rfl ?_
                      refine g_iload X dL_digest_198 0 rfl ?_
                      refine g_cV X dL_digest_200 (As := [.int (nI j), .int (nI p)]) (A := A) (w := w) (w' := w) (v := .int ((w.1 0).2.1 (12 + cN (nI j)) (cN (nI p)))) (Ct.gy hgp (c_X3_amendedClause κ.l hl κ.Γ M1 A w hB hJ.inv (nI j) (nI p))) hB hF k5097 k793 k794 k1 k795 ⟨rfl, by decide, by decide, (show (parseMethodDescriptor yX3_amendedClause.desc).map (fun d => d.parameters.length) = some 2 by decide +kernel)⟩ rfl (Nat.le_of_ble_eq_true rfl) (by rw [hRm]; decide) (by rw [hRm]; exact ⟨by (show _ ≤ 1300); omega, by (show _ ≤ 7800); omega⟩) (fun M1 hB hF => ?_)
                      refine g_i2l X dL_digest_203 ?_
                      refine g_ladd X dL_digest_204 ?_
                      refine g_lmul X dL_digest_205 ?_
                      refine g_aload_n X dL_digest_206 rfl 3 rfl ?_
                      refine g_iload_n X dL_digest_207 rfl 2 rfl ?_
                      refine g_iload X dL_digest_208 0 rfl ?_
                      refine g_cV X dL_digest_210 (As := [.int (nI j), .int (nI p)]) (A := A) (w := w) (w' := w) (v := .int (hW (w.1 0) ((w.1 0).2.1 (20 + cN (nI j)) (cN (nI p))))) (Ct.gy hgp (c_X3_supportWeight κ.l hl κ.Γ M1 A w hB hJ.inv (nI j) (nI p))) hB hF k5098 k805 k806 k1 k807 ⟨rfl, by decide, by decide, (show (parseMethodDescriptor yX3_supportWeight.desc).map (fun d => d.parameters.length) = some 2 by decide +kernel)⟩ rfl (Nat.le_of_ble_eq_true rfl) (by rw [hRm]; decide) (by rw [hRm]; exact ⟨by (show _ ≤ 1300); omega, by (show _ ≤ 7800); omega⟩) (fun M1 hB hF => ?_)
                      refine g_i2l X dL_digest_213 ?_
                      refine g_ladd X dL_digest_214 ?_
                      refine g_lstore_n (L' := [(1, .long ((31 * ((31 * (dgP (w.1 0) j (dgB2 (w.1 0) j (dgB (w.1 0) (dgM (w.1 0) i) j)) p)) + (i2l ((w.1 0).2.1 (12 + cN (nI j)) (cN (nI p)))))) + (i2l (hW (w.1 0) ((w.1 0).2.1 (20 + cN (nI j)) (cN (nI p))))))), (4, .int (nI p)), (3, .int (nI j)), (0, .ref (A 313))]) X dL_digest_215 rfl (by rw [hnL]; decide) rfl ?_
                      refine g_iinc (k := 1) (v := (nI (p + 1))) (L' := [(4, .int (nI (p + 1))), (1, .long ((31 * ((31 * (dgP (w.1 0) j (dgB2 (w.1 0) j (dgB (w.1 0) (dgM (w.1 0) i) j)) p)) + (i2l ((w.1 0).2.1 (12 + cN (nI j)) (cN (nI p)))))) + (i2l (hW (w.1 0) ((w.1 0).2.1 (20 + cN (nI j)) (cN (nI p))))))), (3, .int (nI j)), (0, .ref (A 313))]) X dL_digest_216 rfl (nI_1 _) (by rw [hnL]; decide) rfl ?_
                      refine g_goto (tgt := 178) X dL_digest_219 (by decide) ?_
                      refine g_locs [0, 1, 2, 3] (L' := [(4, .int (nI (p + 1))), (1, .long ((31 * ((31 * (dgP (w.1 0) j (dgB2 (w.1 0) j (dgB (w.1 0) (dgM (w.1 0) i) j)) p)) + (i2l ((w.1 0).2.1 (12 + cN (nI j)) (cN (nI p)))))) + (i2l (hW (w.1 0) ((w.1 0).2.1 (20 + cN (nI j)) (cN (nI p))))))), (3, .int (nI j)), (0, .ref (A 313))]) rfl ?_
                      refine g_widen (k := 300 + 100 * j + 30 + 9 * (p + 1)) (n := 1800 + 600 * j + 180 + 54 * (p + 1)) (by omega) (by omega) ?_
                      exact ih178 (p + 1) M1 (by omega) (by omega) hB hF
                refine g_locs [0, 1, 2, 3] (L' := [(4, .int 0), (1, .long ((31 * ((31 * ((31 * ((31 * ((31 * ((31 * (dgB (w.1 0) (dgM (w.1 0) i) j)) + ((w.1 0).2.2 (cN (nI j))))) + (i2l ((w.1 0).2.1 4 (cN (nI j)))))) + (i2l ((w.1 0).2.1 5 (cN (nI j)))))) + (i2l (dgS (w.1 0) j)))) + (i2l (hW (w.1 0) ((w.1 0).2.1 6 (cN (nI j))))))) + (i2l (hW (w.1 0) ((w.1 0).2.1 7 (cN (nI j))))))), (3, .int (nI j)), (0, .ref (A 313))]) rfl ?_
                refine g_widen (k := 300 + 100 * j + 30 + 9 * 0) (n := 1800 + 600 * j + 180 + 54 * 0) (by omega) (by omega) ?_
                exact lp5 _ 0 M1 (Nat.lt_succ_self _) (Nat.zero_le _) hB hF
              refine g_aload_n X dL_digest_123 rfl 2 rfl ?_
              refine g_iload_n X dL_digest_124 rfl 0 rfl ?_
              refine g_cV X dL_digest_125 (As := [.int (nI j)]) (A := A) (w := w) (w' := w) (v := .int (bI ((w.1 0).2.1 3 (cN (nI j)) = 0))) (Ct.gy hgb (c_X3_isOpen κ.l hl κ.Γ M1 A w hB hJ.inv (nI j))) hB hF k5092 k585 k586 k1 k587 ⟨rfl, by decide, by decide, (show (parseMethodDescriptor yX3_isOpen.desc).map (fun d => d.parameters.length) = some 1 by decide +kernel)⟩ rfl (Nat.le_of_ble_eq_true rfl) (by rw [hRm]; decide) (by rw [hRm]; exact ⟨by (show _ ≤ 1300); omega, by (show _ ≤ 7800); omega⟩) (fun M1 hB hF => ?_)
              refine g_ifb_eq (tgt := 135) X dL_digest_128 (by decide) (fun c7 => ?_) (fun c7 => ?_)
              · refine g_aload_n X dL_digest_135 rfl 2 rfl ?_
                refine g_iload_n X dL_digest_136 rfl 0 rfl ?_
                refine g_cV X dL_digest_137 (As := [.int (nI j)]) (A := A) (w := w) (w' := w) (v := .int (bI ((w.1 0).2.1 3 (cN (nI j)) = 1))) (Ct.gy hgb (c_X3_isPassed κ.l hl κ.Γ M1 A w hB hJ.inv (nI j))) hB hF k5093 k600 k601 k1 k602 ⟨rfl, by decide, by decide, (show (parseMethodDescriptor yX3_isPassed.desc).map (fun d => d.parameters.length) = some 1 by decide +kernel)⟩ rfl (Nat.le_of_ble_eq_true rfl) (by rw [hRm]; decide) (by rw [hRm]; exact ⟨by (show _ ≤ 1300); omega, by (show _ ≤ 7800); omega⟩) (fun M1 hB hF => ?_)
                refine g_ifb_eq (tgt := 147) X dL_digest_140 (by decide) (fun c8 => ?_) (fun c8 => ?_)
                · refine g_iconst (v := 3) X dL_digest_147 (by decide) ?_
                  refine g_lit (y := dgS (w.1 0) j) (((if_neg c7).trans (if_neg c8)).symm) ?_
                  refine g_widen (k := 300 + 100 * j + 20) (n := 1800 + 600 * j + 120) (by omega) (by omega) ?_
                  exact jn M1 hB hF
                · refine g_iconst (v := 2) X dL_digest_143 (by decide) ?_
                  refine g_goto (tgt := 148) X dL_digest_144 (by decide) ?_
                  refine g_lit (y := dgS (w.1 0) j) (((if_neg c7).trans (if_pos c8)).symm) ?_
                  refine g_widen (k := 300 + 100 * j + 20) (n := 1800 + 600 * j + 120) (by omega) (by omega) ?_
                  exact jn M1 hB hF
              · refine g_iconst (v := 1) X dL_digest_131 (by decide) ?_
                refine g_goto (tgt := 148) X dL_digest_132 (by decide) ?_
                refine g_lit (y := dgS (w.1 0) j) ((if_pos c7).symm) ?_
                refine g_widen (k := 300 + 100 * j + 20) (n := 1800 + 600 * j + 120) (by omega) (by omega) ?_
                exact jn M1 hB hF
        refine g_locs [0, 1, 2] (L' := [(3, .int 0), (1, .long (dgM (w.1 0) i)), (0, .ref (A 313))]) rfl ?_
        refine g_widen (k := 300 + 100 * 0) (n := 1800 + 600 * 0) (by omega) (by omega) ?_
        exact lp3 _ 0 M1 (Nat.lt_succ_self _) (Nat.zero_le _) hB hF
      · have hlt : i < m := lt_N (by omega) (by omega) em c2
        have hg : hasM (w.1 0) (nI i) := gM_N em hm hlt
        refine g_ldc2 (v := 31) X dL_digest_46 k5086 ?_
        refine g_ldc2 (v := 31) X dL_digest_49 k5086 ?_
        refine g_lload_n X dL_digest_52 rfl 1 rfl ?_
        refine g_lmul X dL_digest_53 ?_
        refine g_aload_n X dL_digest_54 rfl 2 rfl ?_
        refine g_iload_n X dL_digest_55 rfl 0 rfl ?_
        refine g_cV X dL_digest_56 (As := [.int (nI i)]) (A := A) (w := w) (w' := w) (v := .int ((w.1 0).2.1 1 (cN (nI i)))) (Ct.gy hg (c_X3_wardOf κ.l hl κ.Γ M1 A w hB hJ.inv (nI i))) hB hF k5087 k530 k531 k1 k532 ⟨rfl, by decide, by decide, (show (parseMethodDescriptor yX3_wardOf.desc).map (fun d => d.parameters.length) = some 1 by decide +kernel)⟩ rfl (Nat.le_of_ble_eq_true rfl) (by rw [hRm]; decide) (by rw [hRm]; exact ⟨by (show _ ≤ 1300); omega, by (show _ ≤ 7800); omega⟩) (fun M1 hB hF => ?_)
        refine g_i2l X dL_digest_59 ?_
        refine g_ladd X dL_digest_60 ?_
        refine g_lmul X dL_digest_61 ?_
        refine g_aload_n X dL_digest_62 rfl 2 rfl ?_
        refine g_iload_n X dL_digest_63 rfl 0 rfl ?_
        refine g_cV X dL_digest_64 (As := [.int (nI i)]) (A := A) (w := w) (w' := w) (v := .int ((w.1 0).2.1 2 (cN (nI i)))) (Ct.gy hg (c_X3_weightOf κ.l hl κ.Γ M1 A w hB hJ.inv (nI i))) hB hF k5088 k542 k543 k1 k544 ⟨rfl, by decide, by decide, (show (parseMethodDescriptor yX3_weightOf.desc).map (fun d => d.parameters.length) = some 1 by decide +kernel)⟩ rfl (Nat.le_of_ble_eq_true rfl) (by rw [hRm]; decide) (by rw [hRm]; exact ⟨by (show _ ≤ 1300); omega, by (show _ ≤ 7800); omega⟩) (fun M1 hB hF => ?_)
        refine g_i2l X dL_digest_67 ?_
        refine g_ladd X dL_digest_68 ?_
        refine g_lstore_n (L' := [(1, .long ((31 * ((31 * (dgM (w.1 0) i)) + (i2l ((w.1 0).2.1 1 (cN (nI i)))))) + (i2l ((w.1 0).2.1 2 (cN (nI i)))))), (3, .int (nI i)), (0, .ref (A 313))]) X dL_digest_69 rfl (by rw [hnL]; decide) rfl ?_
        refine g_iinc (k := 1) (v := (nI (i + 1))) (L' := [(3, .int (nI (i + 1))), (1, .long ((31 * ((31 * (dgM (w.1 0) i)) + (i2l ((w.1 0).2.1 1 (cN (nI i)))))) + (i2l ((w.1 0).2.1 2 (cN (nI i)))))), (0, .ref (A 313))]) X dL_digest_70 rfl (nI_1 _) (by rw [hnL]; decide) rfl ?_
        refine g_goto (tgt := 38) X dL_digest_73 (by decide) ?_
        refine g_locs [0, 1, 2] (L' := [(3, .int (nI (i + 1))), (1, .long ((31 * ((31 * (dgM (w.1 0) i)) + (i2l ((w.1 0).2.1 1 (cN (nI i)))))) + (i2l ((w.1 0).2.1 2 (cN (nI i)))))), (0, .ref (A 313))]) rfl ?_
        refine g_widen (k := 12 + 9 * (i + 1)) (n := 72 + 54 * (i + 1)) (by omega) (by omega) ?_
        exact ih38 (i + 1) M1 (by omega) (by omega) hB hF
  refine g_locs [0, 1, 2] (L' := [(3, .int 0), (1, .long ((((7 * (i2l ((w.1 0).1 1))) + (11 * (i2l ((w.1 0).1 2)))) + (13 * (i2l ((w.1 0).1 4)))) + (i2l ((w.1 0).1 0)))), (0, .ref (A 313))]) rfl ?_
  refine g_widen (k := 12 + 9 * 0) (n := 72 + 54 * 0) (by omega) (by omega) ?_
  exact lp1 _ 0 M1 (Nat.lt_succ_self _) (Nat.zero_le _) hB hF
