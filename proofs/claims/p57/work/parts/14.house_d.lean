set_option maxRecDepth 100000 in
set_option maxHeartbeats 4000000 in
theorem c_X1_decideFirst (l : Launch) (hl : l.stackTraces = false) (Γ : Gm) (M : Hp) (a : Nat → Nat) (u : HV) (hR : HRep Γ a u M) (b : Int32) (vb : vp_in b 8) : Ct l Γ yX1_decideFirst cX1_decideFirst 4 (some .boolean) 1 0 0 [.ref (a 0), .int b] M (Mu Γ a (some (.int (bI (accD u b)))) (aDecide u b) M) := by
  refine Ct.of hl (by decide) (Nat.le_of_ble_eq_true rfl) rfl ?_
  intro κ e1 e2 hnL hRm X F hlt
  subst e1 e2
  refine g_iconst (v := 2) X dX1_decideFirst_0 (by decide) ?_
  refine g_aload_n X dX1_decideFirst_1 rfl 0 rfl ?_
  refine g_aload_n X dX1_decideFirst_2 rfl 0 rfl ?_
  refine g_get X dX1_decideFirst_3 (ci := 1) (k := 14) (v := .ref (a 11)) rfl k70 (by decide) rfl hR.obj rfl ?_
  refine g_iload_n X dX1_decideFirst_6 rfl 1 rfl ?_
  refine g_aaload (t0 := 3) (v := .ref (a (20 + cN b))) X dX1_decideFirst_7 hR.sup rfl rfl vb (rf_if (f := fun b => a (20 + b)) (vin_lt vb)) ?_
  refine g_iconst (v := 0) X dX1_decideFirst_8 (by decide) ?_
  refine g_iald (b := 0) X dX1_decideFirst_9 (hR.row20 vb) (by decide) (by decide) ?_
  refine g_callV_rd (As := [.int (u.2.1 (20 + cN b) 0)]) (ci := 1) (v := some (.int (hW u (u.2.1 (20 + cN b) 0)))) X dX1_decideFirst_10 (c_X1_weightOfSet κ.l hl κ.Γ M a u hR (u.2.1 (20 + cN b) 0)) k680 k255 k256 k2 k257 rfl hR.obj ⟨rfl, by decide, by decide, (show (parseMethodDescriptor yX1_weightOfSet.desc).map (fun d => d.parameters.length) = some 1 by decide +kernel)⟩ rfl (Nat.le_of_ble_eq_true rfl) (by rw [hRm]; decide) (by rw [hRm]; exact ⟨Nat.le_of_ble_eq_true rfl, Nat.le_of_ble_eq_true rfl⟩) ?_
  refine g_imul X dX1_decideFirst_13 ?_
  refine g_aload_n X dX1_decideFirst_14 rfl 0 rfl ?_
  refine g_aload_n X dX1_decideFirst_15 rfl 0 rfl ?_
  refine g_get X dX1_decideFirst_16 (ci := 1) (k := 3) (v := .int (u.1 1)) rfl k48 (by decide) rfl hR.obj rfl ?_
  refine g_callV_rd (As := [.int (u.1 1)]) (ci := 1) (v := some (.int (hW u (u.1 1)))) X dX1_decideFirst_19 (c_X1_weightOfSet κ.l hl κ.Γ M a u hR (u.1 1)) k680 k255 k256 k2 k257 rfl hR.obj ⟨rfl, by decide, by decide, (show (parseMethodDescriptor yX1_weightOfSet.desc).map (fun d => d.parameters.length) = some 1 by decide +kernel)⟩ rfl (Nat.le_of_ble_eq_true rfl) (by rw [hRm]; decide) (by rw [hRm]; exact ⟨Nat.le_of_ble_eq_true rfl, Nat.le_of_ble_eq_true rfl⟩) ?_
  refine g_icmp_le (tgt := 29) X dX1_decideFirst_22 (by decide) (fun c1 => ?_) (fun c1 => ?_)
  · refine g_iconst (v := 0) X dX1_decideFirst_29 (by decide) ?_
    refine g_istore_n (L' := [(2, .int 0), (0, .ref (a 0)), (1, .int b)]) X dX1_decideFirst_30 rfl (by rw [hnL]; decide) rfl ?_
    refine g_iload_n X dX1_decideFirst_31 rfl 0 rfl ?_
    refine g_if_eq (tgt := 64) X dX1_decideFirst_32 (by decide) (fun c2 => ?_) (fun c2 => absurd c2 (by decide))
    refine g_aload_n X dX1_decideFirst_64 rfl 1 rfl ?_
    refine g_get X dX1_decideFirst_65 (ci := 1) (k := 12) (v := .ref (a 8)) rfl k66 (by decide) rfl hR.obj rfl ?_
    refine g_iload_n X dX1_decideFirst_68 rfl 2 rfl ?_
    refine g_dup2 X dX1_decideFirst_69 rfl rfl ?_
    refine g_iaload X dX1_decideFirst_70 (hR.row 8 (by decide) (by decide)) vb ?_
    refine g_iconst (v := 1) X dX1_decideFirst_71 (by decide) ?_
    refine g_isub X dX1_decideFirst_72 ?_
    refine g_iastore X dX1_decideFirst_73 (hR.row 8 (by decide) (by decide)) vb ?_
    refine g_gen (P := fun M9 => HRep κ.Γ a (hset u 8 (cN b) ((u.2.1 8 (cN b)) - 1)) M9 ∧ Fr a 28 M M9) ⟨hR.ar 8 (by decide) (by decide) _ rfl, (Fr.up (by decide))⟩ (fun M3 ⟨hR4, hF5⟩ => ?_)
    refine g_iconst (v := 1) X dX1_decideFirst_74 (by decide) ?_
    refine g_istore_n (L' := [(3, .int 1), (2, .int 0), (0, .ref (a 0)), (1, .int b)]) X dX1_decideFirst_75 rfl (by rw [hnL]; decide) rfl ?_
    have hR6 : HRep κ.Γ a (aDec1 u b) M3 := hR4
    refine g_iload_n X dX1_decideFirst_76 rfl 0 rfl ?_
    refine g_iconst (v := 4) X dX1_decideFirst_77 (by decide) ?_
    refine g_icmp_ge (tgt := 123) X dX1_decideFirst_78 (by decide) (fun c7 => absurd c7 (by decide)) (fun c7 => ?_)
    refine g_aload_n X dX1_decideFirst_81 rfl 2 rfl ?_
    refine g_get X dX1_decideFirst_82 (ci := 1) (k := 13) (v := .ref (a 10)) rfl k68 (by decide) rfl hR6.obj rfl ?_
    refine g_iload_n X dX1_decideFirst_85 rfl 3 rfl ?_
    refine g_aaload (t0 := 3) (v := .ref (a (12 + cN b))) X dX1_decideFirst_86 hR6.amd rfl rfl vb (rf_if (f := fun b => a (12 + b)) (vin_lt vb)) ?_
    refine g_iload_n X dX1_decideFirst_87 rfl 0 rfl ?_
    refine g_iconst (v := 1) X dX1_decideFirst_88 (by decide) ?_
    refine g_isub X dX1_decideFirst_89 ?_
    refine g_lit (y := 0) (by decide) ?_
    refine g_aload_n X dX1_decideFirst_90 rfl 2 rfl ?_
    refine g_get X dX1_decideFirst_91 (ci := 1) (k := 13) (v := .ref (a 10)) rfl k68 (by decide) rfl hR6.obj rfl ?_
    refine g_iload_n X dX1_decideFirst_94 rfl 3 rfl ?_
    refine g_aaload (t0 := 3) (v := .ref (a (12 + cN b))) X dX1_decideFirst_95 hR6.amd rfl rfl vb (rf_if (f := fun b => a (12 + b)) (vin_lt vb)) ?_
    refine g_iload_n X dX1_decideFirst_96 rfl 0 rfl ?_
    refine g_iald (b := 1) X dX1_decideFirst_97 (hR6.row12 vb) (by decide) (by decide) ?_
    refine g_iast (b := 0) X dX1_decideFirst_98 (hR6.row12 vb) (by decide) (by decide) ?_
    refine g_gen (P := fun M9 => HRep κ.Γ a (hset (aDec1 u b) (12 + cN b) 0 ((aDec1 u b).2.1 (12 + cN b) 1)) M9 ∧ Fr a 28 M M9) ⟨hR6.ar (12 + cN b) (rb_lt12 vb) (rb_ne12 vb) _ (rb_len12 _), Fr.tr hF5 (Fr.up (rb_lt12 vb))⟩ (fun M8 ⟨hR9, hF10⟩ => ?_)
    refine g_aload_n X dX1_decideFirst_99 rfl 2 rfl ?_
    refine g_get X dX1_decideFirst_100 (ci := 1) (k := 14) (v := .ref (a 11)) rfl k70 (by decide) rfl hR9.obj rfl ?_
    refine g_iload_n X dX1_decideFirst_103 rfl 3 rfl ?_
    refine g_aaload (t0 := 3) (v := .ref (a (20 + cN b))) X dX1_decideFirst_104 hR9.sup rfl rfl vb (rf_if (f := fun b => a (20 + b)) (vin_lt vb)) ?_
    refine g_iload_n X dX1_decideFirst_105 rfl 0 rfl ?_
    refine g_iconst (v := 1) X dX1_decideFirst_106 (by decide) ?_
    refine g_isub X dX1_decideFirst_107 ?_
    refine g_lit (y := 0) (by decide) ?_
    refine g_aload_n X dX1_decideFirst_108 rfl 2 rfl ?_
    refine g_get X dX1_decideFirst_109 (ci := 1) (k := 14) (v := .ref (a 11)) rfl k70 (by decide) rfl hR9.obj rfl ?_
    refine g_iload_n X dX1_decideFirst_112 rfl 3 rfl ?_
    refine g_aaload (t0 := 3) (v := .ref (a (20 + cN b))) X dX1_decideFirst_113 hR9.sup rfl rfl vb (rf_if (f := fun b => a (20 + b)) (vin_lt vb)) ?_
    refine g_iload_n X dX1_decideFirst_114 rfl 0 rfl ?_
    refine g_iald (b := 1) X dX1_decideFirst_115 (hR9.row20 vb) (by decide) (by decide) ?_
    refine g_iast (b := 0) X dX1_decideFirst_116 (hR9.row20 vb) (by decide) (by decide) ?_
    refine g_gen (P := fun M9 => HRep κ.Γ a (hset (hset (aDec1 u b) (12 + cN b) 0 ((aDec1 u b).2.1 (12 + cN b) 1)) (20 + cN b) 0 ((hset (aDec1 u b) (12 + cN b) 0 ((aDec1 u b).2.1 (12 + cN b) 1)).2.1 (20 + cN b) 1)) M9 ∧ Fr a 28 M M9) ⟨hR9.ar (20 + cN b) (rb_lt20 vb) (rb_ne20 vb) _ (rb_len20 _), Fr.tr hF10 (Fr.up (rb_lt20 vb))⟩ (fun M11 ⟨hR12, hF13⟩ => ?_)
    refine g_iinc (k := 0) (v := 2) (L' := [(3, .int 2), (2, .int 0), (0, .ref (a 0)), (1, .int b)]) X dX1_decideFirst_117 rfl (by decide) (by rw [hnL]; decide) rfl ?_
    refine g_goto (tgt := 76) X dX1_decideFirst_120 (by decide) ?_
    have hR14 : HRep κ.Γ a (aShift1 (aDec1 u b) b 0) M11 := hR12
    refine g_iload_n X dX1_decideFirst_76 rfl 0 rfl ?_
    refine g_iconst (v := 4) X dX1_decideFirst_77 (by decide) ?_
    refine g_icmp_ge (tgt := 123) X dX1_decideFirst_78 (by decide) (fun c15 => absurd c15 (by decide)) (fun c15 => ?_)
    refine g_aload_n X dX1_decideFirst_81 rfl 2 rfl ?_
    refine g_get X dX1_decideFirst_82 (ci := 1) (k := 13) (v := .ref (a 10)) rfl k68 (by decide) rfl hR14.obj rfl ?_
    refine g_iload_n X dX1_decideFirst_85 rfl 3 rfl ?_
    refine g_aaload (t0 := 3) (v := .ref (a (12 + cN b))) X dX1_decideFirst_86 hR14.amd rfl rfl vb (rf_if (f := fun b => a (12 + b)) (vin_lt vb)) ?_
    refine g_iload_n X dX1_decideFirst_87 rfl 0 rfl ?_
    refine g_iconst (v := 1) X dX1_decideFirst_88 (by decide) ?_
    refine g_isub X dX1_decideFirst_89 ?_
    refine g_lit (y := 1) (by decide) ?_
    refine g_aload_n X dX1_decideFirst_90 rfl 2 rfl ?_
    refine g_get X dX1_decideFirst_91 (ci := 1) (k := 13) (v := .ref (a 10)) rfl k68 (by decide) rfl hR14.obj rfl ?_
    refine g_iload_n X dX1_decideFirst_94 rfl 3 rfl ?_
    refine g_aaload (t0 := 3) (v := .ref (a (12 + cN b))) X dX1_decideFirst_95 hR14.amd rfl rfl vb (rf_if (f := fun b => a (12 + b)) (vin_lt vb)) ?_
    refine g_iload_n X dX1_decideFirst_96 rfl 0 rfl ?_
    refine g_iald (b := 2) X dX1_decideFirst_97 (hR14.row12 vb) (by decide) (by decide) ?_
    refine g_iast (b := 1) X dX1_decideFirst_98 (hR14.row12 vb) (by decide) (by decide) ?_
    refine g_gen (P := fun M9 => HRep κ.Γ a (hset (aShift1 (aDec1 u b) b 0) (12 + cN b) 1 ((aShift1 (aDec1 u b) b 0).2.1 (12 + cN b) 2)) M9 ∧ Fr a 28 M M9) ⟨hR14.ar (12 + cN b) (rb_lt12 vb) (rb_ne12 vb) _ (rb_len12 _), Fr.tr hF13 (Fr.up (rb_lt12 vb))⟩ (fun M16 ⟨hR17, hF18⟩ => ?_)
    refine g_aload_n X dX1_decideFirst_99 rfl 2 rfl ?_
    refine g_get X dX1_decideFirst_100 (ci := 1) (k := 14) (v := .ref (a 11)) rfl k70 (by decide) rfl hR17.obj rfl ?_
    refine g_iload_n X dX1_decideFirst_103 rfl 3 rfl ?_
    refine g_aaload (t0 := 3) (v := .ref (a (20 + cN b))) X dX1_decideFirst_104 hR17.sup rfl rfl vb (rf_if (f := fun b => a (20 + b)) (vin_lt vb)) ?_
    refine g_iload_n X dX1_decideFirst_105 rfl 0 rfl ?_
    refine g_iconst (v := 1) X dX1_decideFirst_106 (by decide) ?_
    refine g_isub X dX1_decideFirst_107 ?_
    refine g_lit (y := 1) (by decide) ?_
    refine g_aload_n X dX1_decideFirst_108 rfl 2 rfl ?_
    refine g_get X dX1_decideFirst_109 (ci := 1) (k := 14) (v := .ref (a 11)) rfl k70 (by decide) rfl hR17.obj rfl ?_
    refine g_iload_n X dX1_decideFirst_112 rfl 3 rfl ?_
    refine g_aaload (t0 := 3) (v := .ref (a (20 + cN b))) X dX1_decideFirst_113 hR17.sup rfl rfl vb (rf_if (f := fun b => a (20 + b)) (vin_lt vb)) ?_
    refine g_iload_n X dX1_decideFirst_114 rfl 0 rfl ?_
    refine g_iald (b := 2) X dX1_decideFirst_115 (hR17.row20 vb) (by decide) (by decide) ?_
    refine g_iast (b := 1) X dX1_decideFirst_116 (hR17.row20 vb) (by decide) (by decide) ?_
    refine g_gen (P := fun M9 => HRep κ.Γ a (hset (hset (aShift1 (aDec1 u b) b 0) (12 + cN b) 1 ((aShift1 (aDec1 u b) b 0).2.1 (12 + cN b) 2)) (20 + cN b) 1 ((hset (aShift1 (aDec1 u b) b 0) (12 + cN b) 1 ((aShift1 (aDec1 u b) b 0).2.1 (12 + cN b) 2)).2.1 (20 + cN b) 2)) M9 ∧ Fr a 28 M M9) ⟨hR17.ar (20 + cN b) (rb_lt20 vb) (rb_ne20 vb) _ (rb_len20 _), Fr.tr hF18 (Fr.up (rb_lt20 vb))⟩ (fun M19 ⟨hR20, hF21⟩ => ?_)
    refine g_iinc (k := 0) (v := 3) (L' := [(3, .int 3), (2, .int 0), (0, .ref (a 0)), (1, .int b)]) X dX1_decideFirst_117 rfl (by decide) (by rw [hnL]; decide) rfl ?_
    refine g_goto (tgt := 76) X dX1_decideFirst_120 (by decide) ?_
    have hR22 : HRep κ.Γ a (aShift1 (aShift1 (aDec1 u b) b 0) b 1) M19 := hR20
    refine g_iload_n X dX1_decideFirst_76 rfl 0 rfl ?_
    refine g_iconst (v := 4) X dX1_decideFirst_77 (by decide) ?_
    refine g_icmp_ge (tgt := 123) X dX1_decideFirst_78 (by decide) (fun c23 => absurd c23 (by decide)) (fun c23 => ?_)
    refine g_aload_n X dX1_decideFirst_81 rfl 2 rfl ?_
    refine g_get X dX1_decideFirst_82 (ci := 1) (k := 13) (v := .ref (a 10)) rfl k68 (by decide) rfl hR22.obj rfl ?_
    refine g_iload_n X dX1_decideFirst_85 rfl 3 rfl ?_
    refine g_aaload (t0 := 3) (v := .ref (a (12 + cN b))) X dX1_decideFirst_86 hR22.amd rfl rfl vb (rf_if (f := fun b => a (12 + b)) (vin_lt vb)) ?_
    refine g_iload_n X dX1_decideFirst_87 rfl 0 rfl ?_
    refine g_iconst (v := 1) X dX1_decideFirst_88 (by decide) ?_
    refine g_isub X dX1_decideFirst_89 ?_
    refine g_lit (y := 2) (by decide) ?_
    refine g_aload_n X dX1_decideFirst_90 rfl 2 rfl ?_
    refine g_get X dX1_decideFirst_91 (ci := 1) (k := 13) (v := .ref (a 10)) rfl k68 (by decide) rfl hR22.obj rfl ?_
    refine g_iload_n X dX1_decideFirst_94 rfl 3 rfl ?_
    refine g_aaload (t0 := 3) (v := .ref (a (12 + cN b))) X dX1_decideFirst_95 hR22.amd rfl rfl vb (rf_if (f := fun b => a (12 + b)) (vin_lt vb)) ?_
    refine g_iload_n X dX1_decideFirst_96 rfl 0 rfl ?_
    refine g_iald (b := 3) X dX1_decideFirst_97 (hR22.row12 vb) (by decide) (by decide) ?_
    refine g_iast (b := 2) X dX1_decideFirst_98 (hR22.row12 vb) (by decide) (by decide) ?_
    refine g_gen (P := fun M9 => HRep κ.Γ a (hset (aShift1 (aShift1 (aDec1 u b) b 0) b 1) (12 + cN b) 2 ((aShift1 (aShift1 (aDec1 u b) b 0) b 1).2.1 (12 + cN b) 3)) M9 ∧ Fr a 28 M M9) ⟨hR22.ar (12 + cN b) (rb_lt12 vb) (rb_ne12 vb) _ (rb_len12 _), Fr.tr hF21 (Fr.up (rb_lt12 vb))⟩ (fun M24 ⟨hR25, hF26⟩ => ?_)
    refine g_aload_n X dX1_decideFirst_99 rfl 2 rfl ?_
    refine g_get X dX1_decideFirst_100 (ci := 1) (k := 14) (v := .ref (a 11)) rfl k70 (by decide) rfl hR25.obj rfl ?_
    refine g_iload_n X dX1_decideFirst_103 rfl 3 rfl ?_
    refine g_aaload (t0 := 3) (v := .ref (a (20 + cN b))) X dX1_decideFirst_104 hR25.sup rfl rfl vb (rf_if (f := fun b => a (20 + b)) (vin_lt vb)) ?_
    refine g_iload_n X dX1_decideFirst_105 rfl 0 rfl ?_
    refine g_iconst (v := 1) X dX1_decideFirst_106 (by decide) ?_
    refine g_isub X dX1_decideFirst_107 ?_
    refine g_lit (y := 2) (by decide) ?_
    refine g_aload_n X dX1_decideFirst_108 rfl 2 rfl ?_
    refine g_get X dX1_decideFirst_109 (ci := 1) (k := 14) (v := .ref (a 11)) rfl k70 (by decide) rfl hR25.obj rfl ?_
    refine g_iload_n X dX1_decideFirst_112 rfl 3 rfl ?_
    refine g_aaload (t0 := 3) (v := .ref (a (20 + cN b))) X dX1_decideFirst_113 hR25.sup rfl rfl vb (rf_if (f := fun b => a (20 + b)) (vin_lt vb)) ?_
    refine g_iload_n X dX1_decideFirst_114 rfl 0 rfl ?_
    refine g_iald (b := 3) X dX1_decideFirst_115 (hR25.row20 vb) (by decide) (by decide) ?_
    refine g_iast (b := 2) X dX1_decideFirst_116 (hR25.row20 vb) (by decide) (by decide) ?_
    refine g_gen (P := fun M9 => HRep κ.Γ a (hset (hset (aShift1 (aShift1 (aDec1 u b) b 0) b 1) (12 + cN b) 2 ((aShift1 (aShift1 (aDec1 u b) b 0) b 1).2.1 (12 + cN b) 3)) (20 + cN b) 2 ((hset (aShift1 (aShift1 (aDec1 u b) b 0) b 1) (12 + cN b) 2 ((aShift1 (aShift1 (aDec1 u b) b 0) b 1).2.1 (12 + cN b) 3)).2.1 (20 + cN b) 3)) M9 ∧ Fr a 28 M M9) ⟨hR25.ar (20 + cN b) (rb_lt20 vb) (rb_ne20 vb) _ (rb_len20 _), Fr.tr hF26 (Fr.up (rb_lt20 vb))⟩ (fun M27 ⟨hR28, hF29⟩ => ?_)
    refine g_iinc (k := 0) (v := 4) (L' := [(3, .int 4), (2, .int 0), (0, .ref (a 0)), (1, .int b)]) X dX1_decideFirst_117 rfl (by decide) (by rw [hnL]; decide) rfl ?_
    refine g_goto (tgt := 76) X dX1_decideFirst_120 (by decide) ?_
    have hR30 : HRep κ.Γ a (aShift1 (aShift1 (aShift1 (aDec1 u b) b 0) b 1) b 2) M27 := hR28
    refine g_iload_n X dX1_decideFirst_76 rfl 0 rfl ?_
    refine g_iconst (v := 4) X dX1_decideFirst_77 (by decide) ?_
    refine g_icmp_ge (tgt := 123) X dX1_decideFirst_78 (by decide) (fun c31 => ?_) (fun c31 => absurd c31 (by decide))
    refine g_iload_n X dX1_decideFirst_123 rfl 1 rfl ?_
    exact g_zret X F dX1_decideFirst_124 (by omega) (by omega) rfl (by rw [show aDecide u b = aShift1 (aShift1 (aShift1 (aDec1 u b) b 0) b 1) b 2 from by unfold aDecide; rw [if_neg (Int32.not_lt.mpr c1)]; rfl]; exact ⟨by rw [bI_f (Int32.not_lt.mpr c1)], hR30, hF29⟩)
  · refine g_iconst (v := 1) X dX1_decideFirst_25 (by decide) ?_
    refine g_goto (tgt := 30) X dX1_decideFirst_26 (by decide) ?_
    refine g_istore_n (L' := [(2, .int 1), (0, .ref (a 0)), (1, .int b)]) X dX1_decideFirst_30 rfl (by rw [hnL]; decide) rfl ?_
    refine g_iload_n X dX1_decideFirst_31 rfl 0 rfl ?_
    refine g_if_eq (tgt := 64) X dX1_decideFirst_32 (by decide) (fun c32 => absurd c32 (by decide)) (fun c32 => ?_)
    refine g_aload_n X dX1_decideFirst_35 rfl 1 rfl ?_
    refine g_get X dX1_decideFirst_36 (ci := 1) (k := 8) (v := .ref (a 9)) rfl k58 (by decide) rfl hR.obj rfl ?_
    refine g_iload_n X dX1_decideFirst_39 rfl 2 rfl ?_
    refine g_dup2 X dX1_decideFirst_40 rfl rfl ?_
    refine g_laload X dX1_decideFirst_41 hR.longs vb ?_
    refine g_lconst (v := 1) X dX1_decideFirst_42 rfl ?_
    refine g_aload_n X dX1_decideFirst_43 rfl 1 rfl ?_
    refine g_get X dX1_decideFirst_44 (ci := 1) (k := 13) (v := .ref (a 10)) rfl k68 (by decide) rfl hR.obj rfl ?_
    refine g_iload_n X dX1_decideFirst_47 rfl 2 rfl ?_
    refine g_aaload (t0 := 3) (v := .ref (a (12 + cN b))) X dX1_decideFirst_48 hR.amd rfl rfl vb (rf_if (f := fun b => a (12 + b)) (vin_lt vb)) ?_
    refine g_iconst (v := 0) X dX1_decideFirst_49 (by decide) ?_
    refine g_iald (b := 0) X dX1_decideFirst_50 (hR.row12 vb) (by decide) (by decide) ?_
    refine g_lshl X dX1_decideFirst_51 ?_
    refine g_lxor X dX1_decideFirst_52 ?_
    refine g_lastore X dX1_decideFirst_53 hR.longs vb ?_
    refine g_gen (P := fun M9 => HRep κ.Γ a (hcl u (vp_updL u.2.2 (cN b) ((u.2.2 (cN b)) ^^^ (lsl 1 (u.2.1 (12 + cN b) 0))))) M9 ∧ Fr a 28 M M9) ⟨hR.cl _, (Fr.up (by decide))⟩ (fun M33 ⟨hR34, hF35⟩ => ?_)
    refine g_aload_n X dX1_decideFirst_54 rfl 1 rfl ?_
    refine g_dup X dX1_decideFirst_55 rfl ?_
    refine g_get X dX1_decideFirst_56 (ci := 1) (k := 15) (v := .int ((hcl u (vp_updL u.2.2 (cN b) ((u.2.2 (cN b)) ^^^ (lsl 1 (u.2.1 (12 + cN b) 0))))).1 4)) rfl k72 (by decide) rfl hR34.obj rfl ?_
    refine g_iconst (v := 1) X dX1_decideFirst_59 (by decide) ?_
    refine g_iadd X dX1_decideFirst_60 ?_
    refine g_put X dX1_decideFirst_61 (ci := 1) (k := 15) (ty := .int) rfl k72 (by decide) rfl rfl (by decide +kernel) rfl rfl (Nat.le_of_ble_eq_true rfl) hR34.obj ?_
    refine g_gen (P := fun M9 => HRep κ.Γ a (hsc (hcl u (vp_updL u.2.2 (cN b) ((u.2.2 (cN b)) ^^^ (lsl 1 (u.2.1 (12 + cN b) 0))))) 4 (((hcl u (vp_updL u.2.2 (cN b) ((u.2.2 (cN b)) ^^^ (lsl 1 (u.2.1 (12 + cN b) 0))))).1 4) + 1)) M9 ∧ Fr a 28 M M9) ⟨hR34.sc 4 _ rfl, Fr.tr hF35 (Fr.up (by decide))⟩ (fun M36 ⟨hR37, hF38⟩ => ?_)
    have hR39 : HRep κ.Γ a (aDec0 u b) M36 := hR37
    refine g_aload_n X dX1_decideFirst_64 rfl 1 rfl ?_
    refine g_get X dX1_decideFirst_65 (ci := 1) (k := 12) (v := .ref (a 8)) rfl k66 (by decide) rfl hR39.obj rfl ?_
    refine g_iload_n X dX1_decideFirst_68 rfl 2 rfl ?_
    refine g_dup2 X dX1_decideFirst_69 rfl rfl ?_
    refine g_iaload X dX1_decideFirst_70 (hR39.row 8 (by decide) (by decide)) vb ?_
    refine g_iconst (v := 1) X dX1_decideFirst_71 (by decide) ?_
    refine g_isub X dX1_decideFirst_72 ?_
    refine g_iastore X dX1_decideFirst_73 (hR39.row 8 (by decide) (by decide)) vb ?_
    refine g_gen (P := fun M9 => HRep κ.Γ a (hset (aDec0 u b) 8 (cN b) (((aDec0 u b).2.1 8 (cN b)) - 1)) M9 ∧ Fr a 28 M M9) ⟨hR39.ar 8 (by decide) (by decide) _ rfl, Fr.tr hF38 (Fr.up (by decide))⟩ (fun M40 ⟨hR41, hF42⟩ => ?_)
    refine g_iconst (v := 1) X dX1_decideFirst_74 (by decide) ?_
    refine g_istore_n (L' := [(3, .int 1), (2, .int 1), (0, .ref (a 0)), (1, .int b)]) X dX1_decideFirst_75 rfl (by rw [hnL]; decide) rfl ?_
    have hR43 : HRep κ.Γ a (aDec1 (aDec0 u b) b) M40 := hR41
    refine g_iload_n X dX1_decideFirst_76 rfl 0 rfl ?_
    refine g_iconst (v := 4) X dX1_decideFirst_77 (by decide) ?_
    refine g_icmp_ge (tgt := 123) X dX1_decideFirst_78 (by decide) (fun c44 => absurd c44 (by decide)) (fun c44 => ?_)
    refine g_aload_n X dX1_decideFirst_81 rfl 2 rfl ?_
    refine g_get X dX1_decideFirst_82 (ci := 1) (k := 13) (v := .ref (a 10)) rfl k68 (by decide) rfl hR43.obj rfl ?_
    refine g_iload_n X dX1_decideFirst_85 rfl 3 rfl ?_
    refine g_aaload (t0 := 3) (v := .ref (a (12 + cN b))) X dX1_decideFirst_86 hR43.amd rfl rfl vb (rf_if (f := fun b => a (12 + b)) (vin_lt vb)) ?_
    refine g_iload_n X dX1_decideFirst_87 rfl 0 rfl ?_
    refine g_iconst (v := 1) X dX1_decideFirst_88 (by decide) ?_
    refine g_isub X dX1_decideFirst_89 ?_
    refine g_lit (y := 0) (by decide) ?_
    refine g_aload_n X dX1_decideFirst_90 rfl 2 rfl ?_
    refine g_get X dX1_decideFirst_91 (ci := 1) (k := 13) (v := .ref (a 10)) rfl k68 (by decide) rfl hR43.obj rfl ?_
    refine g_iload_n X dX1_decideFirst_94 rfl 3 rfl ?_
    refine g_aaload (t0 := 3) (v := .ref (a (12 + cN b))) X dX1_decideFirst_95 hR43.amd rfl rfl vb (rf_if (f := fun b => a (12 + b)) (vin_lt vb)) ?_
    refine g_iload_n X dX1_decideFirst_96 rfl 0 rfl ?_
    refine g_iald (b := 1) X dX1_decideFirst_97 (hR43.row12 vb) (by decide) (by decide) ?_
    refine g_iast (b := 0) X dX1_decideFirst_98 (hR43.row12 vb) (by decide) (by decide) ?_
    refine g_gen (P := fun M9 => HRep κ.Γ a (hset (aDec1 (aDec0 u b) b) (12 + cN b) 0 ((aDec1 (aDec0 u b) b).2.1 (12 + cN b) 1)) M9 ∧ Fr a 28 M M9) ⟨hR43.ar (12 + cN b) (rb_lt12 vb) (rb_ne12 vb) _ (rb_len12 _), Fr.tr hF42 (Fr.up (rb_lt12 vb))⟩ (fun M45 ⟨hR46, hF47⟩ => ?_)
    refine g_aload_n X dX1_decideFirst_99 rfl 2 rfl ?_
    refine g_get X dX1_decideFirst_100 (ci := 1) (k := 14) (v := .ref (a 11)) rfl k70 (by decide) rfl hR46.obj rfl ?_
    refine g_iload_n X dX1_decideFirst_103 rfl 3 rfl ?_
    refine g_aaload (t0 := 3) (v := .ref (a (20 + cN b))) X dX1_decideFirst_104 hR46.sup rfl rfl vb (rf_if (f := fun b => a (20 + b)) (vin_lt vb)) ?_
    refine g_iload_n X dX1_decideFirst_105 rfl 0 rfl ?_
    refine g_iconst (v := 1) X dX1_decideFirst_106 (by decide) ?_
    refine g_isub X dX1_decideFirst_107 ?_
    refine g_lit (y := 0) (by decide) ?_
    refine g_aload_n X dX1_decideFirst_108 rfl 2 rfl ?_
    refine g_get X dX1_decideFirst_109 (ci := 1) (k := 14) (v := .ref (a 11)) rfl k70 (by decide) rfl hR46.obj rfl ?_
    refine g_iload_n X dX1_decideFirst_112 rfl 3 rfl ?_
    refine g_aaload (t0 := 3) (v := .ref (a (20 + cN b))) X dX1_decideFirst_113 hR46.sup rfl rfl vb (rf_if (f := fun b => a (20 + b)) (vin_lt vb)) ?_
    refine g_iload_n X dX1_decideFirst_114 rfl 0 rfl ?_
    refine g_iald (b := 1) X dX1_decideFirst_115 (hR46.row20 vb) (by decide) (by decide) ?_
    refine g_iast (b := 0) X dX1_decideFirst_116 (hR46.row20 vb) (by decide) (by decide) ?_
    refine g_gen (P := fun M9 => HRep κ.Γ a (hset (hset (aDec1 (aDec0 u b) b) (12 + cN b) 0 ((aDec1 (aDec0 u b) b).2.1 (12 + cN b) 1)) (20 + cN b) 0 ((hset (aDec1 (aDec0 u b) b) (12 + cN b) 0 ((aDec1 (aDec0 u b) b).2.1 (12 + cN b) 1)).2.1 (20 + cN b) 1)) M9 ∧ Fr a 28 M M9) ⟨hR46.ar (20 + cN b) (rb_lt20 vb) (rb_ne20 vb) _ (rb_len20 _), Fr.tr hF47 (Fr.up (rb_lt20 vb))⟩ (fun M48 ⟨hR49, hF50⟩ => ?_)
    refine g_iinc (k := 0) (v := 2) (L' := [(3, .int 2), (2, .int 1), (0, .ref (a 0)), (1, .int b)]) X dX1_decideFirst_117 rfl (by decide) (by rw [hnL]; decide) rfl ?_
    refine g_goto (tgt := 76) X dX1_decideFirst_120 (by decide) ?_
    have hR51 : HRep κ.Γ a (aShift1 (aDec1 (aDec0 u b) b) b 0) M48 := hR49
    refine g_iload_n X dX1_decideFirst_76 rfl 0 rfl ?_
    refine g_iconst (v := 4) X dX1_decideFirst_77 (by decide) ?_
    refine g_icmp_ge (tgt := 123) X dX1_decideFirst_78 (by decide) (fun c52 => absurd c52 (by decide)) (fun c52 => ?_)
    refine g_aload_n X dX1_decideFirst_81 rfl 2 rfl ?_
    refine g_get X dX1_decideFirst_82 (ci := 1) (k := 13) (v := .ref (a 10)) rfl k68 (by decide) rfl hR51.obj rfl ?_
    refine g_iload_n X dX1_decideFirst_85 rfl 3 rfl ?_
    refine g_aaload (t0 := 3) (v := .ref (a (12 + cN b))) X dX1_decideFirst_86 hR51.amd rfl rfl vb (rf_if (f := fun b => a (12 + b)) (vin_lt vb)) ?_
    refine g_iload_n X dX1_decideFirst_87 rfl 0 rfl ?_
    refine g_iconst (v := 1) X dX1_decideFirst_88 (by decide) ?_
    refine g_isub X dX1_decideFirst_89 ?_
    refine g_lit (y := 1) (by decide) ?_
    refine g_aload_n X dX1_decideFirst_90 rfl 2 rfl ?_
    refine g_get X dX1_decideFirst_91 (ci := 1) (k := 13) (v := .ref (a 10)) rfl k68 (by decide) rfl hR51.obj rfl ?_
    refine g_iload_n X dX1_decideFirst_94 rfl 3 rfl ?_
    refine g_aaload (t0 := 3) (v := .ref (a (12 + cN b))) X dX1_decideFirst_95 hR51.amd rfl rfl vb (rf_if (f := fun b => a (12 + b)) (vin_lt vb)) ?_
    refine g_iload_n X dX1_decideFirst_96 rfl 0 rfl ?_
    refine g_iald (b := 2) X dX1_decideFirst_97 (hR51.row12 vb) (by decide) (by decide) ?_
    refine g_iast (b := 1) X dX1_decideFirst_98 (hR51.row12 vb) (by decide) (by decide) ?_
    refine g_gen (P := fun M9 => HRep κ.Γ a (hset (aShift1 (aDec1 (aDec0 u b) b) b 0) (12 + cN b) 1 ((aShift1 (aDec1 (aDec0 u b) b) b 0).2.1 (12 + cN b) 2)) M9 ∧ Fr a 28 M M9) ⟨hR51.ar (12 + cN b) (rb_lt12 vb) (rb_ne12 vb) _ (rb_len12 _), Fr.tr hF50 (Fr.up (rb_lt12 vb))⟩ (fun M53 ⟨hR54, hF55⟩ => ?_)
    refine g_aload_n X dX1_decideFirst_99 rfl 2 rfl ?_
    refine g_get X dX1_decideFirst_100 (ci := 1) (k := 14) (v := .ref (a 11)) rfl k70 (by decide) rfl hR54.obj rfl ?_
    refine g_iload_n X dX1_decideFirst_103 rfl 3 rfl ?_
    refine g_aaload (t0 := 3) (v := .ref (a (20 + cN b))) X dX1_decideFirst_104 hR54.sup rfl rfl vb (rf_if (f := fun b => a (20 + b)) (vin_lt vb)) ?_
    refine g_iload_n X dX1_decideFirst_105 rfl 0 rfl ?_
    refine g_iconst (v := 1) X dX1_decideFirst_106 (by decide) ?_
    refine g_isub X dX1_decideFirst_107 ?_
    refine g_lit (y := 1) (by decide) ?_
    refine g_aload_n X dX1_decideFirst_108 rfl 2 rfl ?_
    refine g_get X dX1_decideFirst_109 (ci := 1) (k := 14) (v := .ref (a 11)) rfl k70 (by decide) rfl hR54.obj rfl ?_
    refine g_iload_n X dX1_decideFirst_112 rfl 3 rfl ?_
    refine g_aaload (t0 := 3) (v := .ref (a (20 + cN b))) X dX1_decideFirst_113 hR54.sup rfl rfl vb (rf_if (f := fun b => a (20 + b)) (vin_lt vb)) ?_
    refine g_iload_n X dX1_decideFirst_114 rfl 0 rfl ?_
    refine g_iald (b := 2) X dX1_decideFirst_115 (hR54.row20 vb) (by decide) (by decide) ?_
    refine g_iast (b := 1) X dX1_decideFirst_116 (hR54.row20 vb) (by decide) (by decide) ?_
    refine g_gen (P := fun M9 => HRep κ.Γ a (hset (hset (aShift1 (aDec1 (aDec0 u b) b) b 0) (12 + cN b) 1 ((aShift1 (aDec1 (aDec0 u b) b) b 0).2.1 (12 + cN b) 2)) (20 + cN b) 1 ((hset (aShift1 (aDec1 (aDec0 u b) b) b 0) (12 + cN b) 1 ((aShift1 (aDec1 (aDec0 u b) b) b 0).2.1 (12 + cN b) 2)).2.1 (20 + cN b) 2)) M9 ∧ Fr a 28 M M9) ⟨hR54.ar (20 + cN b) (rb_lt20 vb) (rb_ne20 vb) _ (rb_len20 _), Fr.tr hF55 (Fr.up (rb_lt20 vb))⟩ (fun M56 ⟨hR57, hF58⟩ => ?_)
    refine g_iinc (k := 0) (v := 3) (L' := [(3, .int 3), (2, .int 1), (0, .ref (a 0)), (1, .int b)]) X dX1_decideFirst_117 rfl (by decide) (by rw [hnL]; decide) rfl ?_
    refine g_goto (tgt := 76) X dX1_decideFirst_120 (by decide) ?_
    have hR59 : HRep κ.Γ a (aShift1 (aShift1 (aDec1 (aDec0 u b) b) b 0) b 1) M56 := hR57
    refine g_iload_n X dX1_decideFirst_76 rfl 0 rfl ?_
    refine g_iconst (v := 4) X dX1_decideFirst_77 (by decide) ?_
    refine g_icmp_ge (tgt := 123) X dX1_decideFirst_78 (by decide) (fun c60 => absurd c60 (by decide)) (fun c60 => ?_)
    refine g_aload_n X dX1_decideFirst_81 rfl 2 rfl ?_
    refine g_get X dX1_decideFirst_82 (ci := 1) (k := 13) (v := .ref (a 10)) rfl k68 (by decide) rfl hR59.obj rfl ?_
    refine g_iload_n X dX1_decideFirst_85 rfl 3 rfl ?_
    refine g_aaload (t0 := 3) (v := .ref (a (12 + cN b))) X dX1_decideFirst_86 hR59.amd rfl rfl vb (rf_if (f := fun b => a (12 + b)) (vin_lt vb)) ?_
    refine g_iload_n X dX1_decideFirst_87 rfl 0 rfl ?_
    refine g_iconst (v := 1) X dX1_decideFirst_88 (by decide) ?_
    refine g_isub X dX1_decideFirst_89 ?_
    refine g_lit (y := 2) (by decide) ?_
    refine g_aload_n X dX1_decideFirst_90 rfl 2 rfl ?_
    refine g_get X dX1_decideFirst_91 (ci := 1) (k := 13) (v := .ref (a 10)) rfl k68 (by decide) rfl hR59.obj rfl ?_
    refine g_iload_n X dX1_decideFirst_94 rfl 3 rfl ?_
    refine g_aaload (t0 := 3) (v := .ref (a (12 + cN b))) X dX1_decideFirst_95 hR59.amd rfl rfl vb (rf_if (f := fun b => a (12 + b)) (vin_lt vb)) ?_
    refine g_iload_n X dX1_decideFirst_96 rfl 0 rfl ?_
    refine g_iald (b := 3) X dX1_decideFirst_97 (hR59.row12 vb) (by decide) (by decide) ?_
    refine g_iast (b := 2) X dX1_decideFirst_98 (hR59.row12 vb) (by decide) (by decide) ?_
    refine g_gen (P := fun M9 => HRep κ.Γ a (hset (aShift1 (aShift1 (aDec1 (aDec0 u b) b) b 0) b 1) (12 + cN b) 2 ((aShift1 (aShift1 (aDec1 (aDec0 u b) b) b 0) b 1).2.1 (12 + cN b) 3)) M9 ∧ Fr a 28 M M9) ⟨hR59.ar (12 + cN b) (rb_lt12 vb) (rb_ne12 vb) _ (rb_len12 _), Fr.tr hF58 (Fr.up (rb_lt12 vb))⟩ (fun M61 ⟨hR62, hF63⟩ => ?_)
    refine g_aload_n X dX1_decideFirst_99 rfl 2 rfl ?_
    refine g_get X dX1_decideFirst_100 (ci := 1) (k := 14) (v := .ref (a 11)) rfl k70 (by decide) rfl hR62.obj rfl ?_
    refine g_iload_n X dX1_decideFirst_103 rfl 3 rfl ?_
    refine g_aaload (t0 := 3) (v := .ref (a (20 + cN b))) X dX1_decideFirst_104 hR62.sup rfl rfl vb (rf_if (f := fun b => a (20 + b)) (vin_lt vb)) ?_
    refine g_iload_n X dX1_decideFirst_105 rfl 0 rfl ?_
    refine g_iconst (v := 1) X dX1_decideFirst_106 (by decide) ?_
    refine g_isub X dX1_decideFirst_107 ?_
    refine g_lit (y := 2) (by decide) ?_
    refine g_aload_n X dX1_decideFirst_108 rfl 2 rfl ?_
    refine g_get X dX1_decideFirst_109 (ci := 1) (k := 14) (v := .ref (a 11)) rfl k70 (by decide) rfl hR62.obj rfl ?_
    refine g_iload_n X dX1_decideFirst_112 rfl 3 rfl ?_
    refine g_aaload (t0 := 3) (v := .ref (a (20 + cN b))) X dX1_decideFirst_113 hR62.sup rfl rfl vb (rf_if (f := fun b => a (20 + b)) (vin_lt vb)) ?_
    refine g_iload_n X dX1_decideFirst_114 rfl 0 rfl ?_
    refine g_iald (b := 3) X dX1_decideFirst_115 (hR62.row20 vb) (by decide) (by decide) ?_
    refine g_iast (b := 2) X dX1_decideFirst_116 (hR62.row20 vb) (by decide) (by decide) ?_
    refine g_gen (P := fun M9 => HRep κ.Γ a (hset (hset (aShift1 (aShift1 (aDec1 (aDec0 u b) b) b 0) b 1) (12 + cN b) 2 ((aShift1 (aShift1 (aDec1 (aDec0 u b) b) b 0) b 1).2.1 (12 + cN b) 3)) (20 + cN b) 2 ((hset (aShift1 (aShift1 (aDec1 (aDec0 u b) b) b 0) b 1) (12 + cN b) 2 ((aShift1 (aShift1 (aDec1 (aDec0 u b) b) b 0) b 1).2.1 (12 + cN b) 3)).2.1 (20 + cN b) 3)) M9 ∧ Fr a 28 M M9) ⟨hR62.ar (20 + cN b) (rb_lt20 vb) (rb_ne20 vb) _ (rb_len20 _), Fr.tr hF63 (Fr.up (rb_lt20 vb))⟩ (fun M64 ⟨hR65, hF66⟩ => ?_)
    refine g_iinc (k := 0) (v := 4) (L' := [(3, .int 4), (2, .int 1), (0, .ref (a 0)), (1, .int b)]) X dX1_decideFirst_117 rfl (by decide) (by rw [hnL]; decide) rfl ?_
    refine g_goto (tgt := 76) X dX1_decideFirst_120 (by decide) ?_
    have hR67 : HRep κ.Γ a (aShift1 (aShift1 (aShift1 (aDec1 (aDec0 u b) b) b 0) b 1) b 2) M64 := hR65
    refine g_iload_n X dX1_decideFirst_76 rfl 0 rfl ?_
    refine g_iconst (v := 4) X dX1_decideFirst_77 (by decide) ?_
    refine g_icmp_ge (tgt := 123) X dX1_decideFirst_78 (by decide) (fun c68 => ?_) (fun c68 => absurd c68 (by decide))
    refine g_iload_n X dX1_decideFirst_123 rfl 1 rfl ?_
    exact g_zret X F dX1_decideFirst_124 (by omega) (by omega) rfl (by rw [show aDecide u b = aShift1 (aShift1 (aShift1 (aDec1 (aDec0 u b) b) b 0) b 1) b 2 from by unfold aDecide; rw [if_pos (Int32.not_le.mp c1)]; rfl]; exact ⟨by rw [bI_t (Int32.not_le.mp c1)], hR67, hF66⟩)
theorem co_dec5 {P : Nat → Prop} (h : P 0 ∧ P 1 ∧ P 2 ∧ P 3 ∧ P 4) : ∀ s, s < 5 → P s := by
  intro s hs
  have : s = 0 ∨ s = 1 ∨ s = 2 ∨ s = 3 ∨ s = 4 := by omega
  rcases this with rfl | rfl | rfl | rfl | rfl
  · exact h.1
  · exact h.2.1
  · exact h.2.2.1
  · exact h.2.2.2.1
  · exact h.2.2.2.2
theorem cf_rows {i : Nat} (h : i < 28) (hn : i ≠ 0 ∧ i ≠ 9 ∧ i ≠ 10 ∧ i ≠ 11) : i = 1 ∨ i = 2 ∨ i = 3 ∨ i = 4 ∨ i = 5 ∨ i = 6 ∨ i = 7 ∨ i = 8 ∨ i = 12 ∨ i = 13 ∨ i = 14 ∨ i = 15 ∨ i = 16 ∨ i = 17 ∨ i = 18 ∨ i = 19 ∨ i = 20 ∨ i = 21 ∨ i = 22 ∨ i = 23 ∨ i = 24 ∨ i = 25 ∨ i = 26 ∨ i = 27 := by omega
set_option maxRecDepth 100000 in
set_option maxHeartbeats 4000000 in
theorem c_X1_copyFrom (l : Launch) (hl : l.stackTraces = false) (Γ : Gm) (M : Hp) (a : Nat → Nat) (u : HV) (hR : HRep Γ a u M) (b : Nat → Nat) (v : HV) (hb : HRep Γ b v M) (hd : ∀ i j, i < 28 → j < 28 → b i ≠ a j) : Ct l Γ yX1_copyFrom cX1_copyFrom 3 none 0 0 0 [.ref (a 0), .ref (b 0)] M (Mu Γ a none v M) := by
  refine Ct.of hl (by decide) (Nat.le_of_ble_eq_true rfl) rfl ?_
  intro κ e1 e2 hnL hRm X F hlt
  subst e1 e2
  refine g_aload_n X dX1_copyFrom_0 rfl 0 rfl ?_
  refine g_aload_n X dX1_copyFrom_1 rfl 1 rfl ?_
  refine g_get X dX1_copyFrom_2 (ci := 1) (k := 0) (v := .int (v.1 0)) rfl k42 (by decide) rfl (HRep.obj hb) rfl ?_
  refine g_put X dX1_copyFrom_5 (ci := 1) (k := 0) (ty := .int) rfl k42 (by decide) rfl rfl (by decide +kernel) rfl rfl (Nat.le_of_ble_eq_true rfl) hR.obj ?_
  refine g_gen (P := fun M9 => HRep κ.Γ a (hsc u 0 (v.1 0)) M9 ∧ Fr a 28 M M9) ⟨hR.sc 0 _ rfl, (Fr.up (by decide))⟩ (fun M1 ⟨hR2, hF3⟩ => ?_)
  refine g_aload_n X dX1_copyFrom_8 rfl 1 rfl ?_
  refine g_get X dX1_copyFrom_9 (ci := 1) (k := 1) (v := .ref (b 1)) rfl k44 (by decide) rfl (HRep.obj (Rp.fr hb hF3 hd)) rfl ?_
  refine g_iconst (v := 0) X dX1_copyFrom_12 (by decide) ?_
  refine g_aload_n X dX1_copyFrom_13 rfl 0 rfl ?_
  refine g_get X dX1_copyFrom_14 (ci := 1) (k := 1) (v := .ref (a 1)) rfl k44 (by decide) rfl hR2.obj rfl ?_
  refine g_iconst (v := 0) X dX1_copyFrom_17 (by decide) ?_
  refine g_bipush (v := 24) X dX1_copyFrom_18 (by decide) ?_
  refine g_copyi (n := 24) X dX1_copyFrom_20 kAcL (HRep.row (Rp.fr hb hF3 hd) 1 (by decide) (by decide)) (hR2.row 1 (by decide) (by decide)) rfl (by decide) (by rw [hRm]; decide) (by rw [hRm]; decide +kernel) ?_
  refine g_gen (P := fun M9 => HRep κ.Γ a (har (hsc u 0 (v.1 0)) 1 (v.2.1 1)) M9 ∧ Fr a 28 M M9) ⟨hR2.ar 1 (by decide) (by decide) _ rfl, Fr.tr hF3 (Fr.up (by decide))⟩ (fun M4 ⟨hR5, hF6⟩ => ?_)
  refine g_aload_n X dX1_copyFrom_23 rfl 1 rfl ?_
  refine g_get X dX1_copyFrom_24 (ci := 1) (k := 2) (v := .ref (b 2)) rfl k46 (by decide) rfl (HRep.obj (Rp.fr hb hF6 hd)) rfl ?_
  refine g_iconst (v := 0) X dX1_copyFrom_27 (by decide) ?_
  refine g_aload_n X dX1_copyFrom_28 rfl 0 rfl ?_
  refine g_get X dX1_copyFrom_29 (ci := 1) (k := 2) (v := .ref (a 2)) rfl k46 (by decide) rfl hR5.obj rfl ?_
  refine g_iconst (v := 0) X dX1_copyFrom_32 (by decide) ?_
  refine g_bipush (v := 24) X dX1_copyFrom_33 (by decide) ?_
  refine g_copyi (n := 24) X dX1_copyFrom_35 kAcL (HRep.row (Rp.fr hb hF6 hd) 2 (by decide) (by decide)) (hR5.row 2 (by decide) (by decide)) rfl (by decide) (by rw [hRm]; decide) (by rw [hRm]; decide +kernel) ?_
  refine g_gen (P := fun M9 => HRep κ.Γ a (har (har (hsc u 0 (v.1 0)) 1 (v.2.1 1)) 2 (v.2.1 2)) M9 ∧ Fr a 28 M M9) ⟨hR5.ar 2 (by decide) (by decide) _ rfl, Fr.tr hF6 (Fr.up (by decide))⟩ (fun M7 ⟨hR8, hF9⟩ => ?_)
  refine g_aload_n X dX1_copyFrom_38 rfl 0 rfl ?_
  refine g_aload_n X dX1_copyFrom_39 rfl 1 rfl ?_
  refine g_get X dX1_copyFrom_40 (ci := 1) (k := 3) (v := .int (v.1 1)) rfl k48 (by decide) rfl (HRep.obj (Rp.fr hb hF9 hd)) rfl ?_
  refine g_put X dX1_copyFrom_43 (ci := 1) (k := 3) (ty := .int) rfl k48 (by decide) rfl rfl (by decide +kernel) rfl rfl (Nat.le_of_ble_eq_true rfl) hR8.obj ?_
  refine g_gen (P := fun M9 => HRep κ.Γ a (hsc (har (har (hsc u 0 (v.1 0)) 1 (v.2.1 1)) 2 (v.2.1 2)) 1 (v.1 1)) M9 ∧ Fr a 28 M M9) ⟨hR8.sc 1 _ rfl, Fr.tr hF9 (Fr.up (by decide))⟩ (fun M10 ⟨hR11, hF12⟩ => ?_)
  refine g_aload_n X dX1_copyFrom_46 rfl 0 rfl ?_
  refine g_aload_n X dX1_copyFrom_47 rfl 1 rfl ?_
  refine g_get X dX1_copyFrom_48 (ci := 1) (k := 4) (v := .int (v.1 2)) rfl k50 (by decide) rfl (HRep.obj (Rp.fr hb hF12 hd)) rfl ?_
  refine g_put X dX1_copyFrom_51 (ci := 1) (k := 4) (ty := .int) rfl k50 (by decide) rfl rfl (by decide +kernel) rfl rfl (Nat.le_of_ble_eq_true rfl) hR11.obj ?_
  refine g_gen (P := fun M9 => HRep κ.Γ a (hsc (hsc (har (har (hsc u 0 (v.1 0)) 1 (v.2.1 1)) 2 (v.2.1 2)) 1 (v.1 1)) 2 (v.1 2)) M9 ∧ Fr a 28 M M9) ⟨hR11.sc 2 _ rfl, Fr.tr hF12 (Fr.up (by decide))⟩ (fun M13 ⟨hR14, hF15⟩ => ?_)
  refine g_aload_n X dX1_copyFrom_54 rfl 0 rfl ?_
  refine g_aload_n X dX1_copyFrom_55 rfl 1 rfl ?_
  refine g_get X dX1_copyFrom_56 (ci := 1) (k := 5) (v := .int (v.1 3)) rfl k52 (by decide) rfl (HRep.obj (Rp.fr hb hF15 hd)) rfl ?_
  refine g_put X dX1_copyFrom_59 (ci := 1) (k := 5) (ty := .int) rfl k52 (by decide) rfl rfl (by decide +kernel) rfl rfl (Nat.le_of_ble_eq_true rfl) hR14.obj ?_
  refine g_gen (P := fun M9 => HRep κ.Γ a (hsc (hsc (hsc (har (har (hsc u 0 (v.1 0)) 1 (v.2.1 1)) 2 (v.2.1 2)) 1 (v.1 1)) 2 (v.1 2)) 3 (v.1 3)) M9 ∧ Fr a 28 M M9) ⟨hR14.sc 3 _ rfl, Fr.tr hF15 (Fr.up (by decide))⟩ (fun M16 ⟨hR17, hF18⟩ => ?_)
  refine g_aload_n X dX1_copyFrom_62 rfl 1 rfl ?_
  refine g_get X dX1_copyFrom_63 (ci := 1) (k := 6) (v := .ref (b 3)) rfl k54 (by decide) rfl (HRep.obj (Rp.fr hb hF18 hd)) rfl ?_
  refine g_iconst (v := 0) X dX1_copyFrom_66 (by decide) ?_
  refine g_aload_n X dX1_copyFrom_67 rfl 0 rfl ?_
  refine g_get X dX1_copyFrom_68 (ci := 1) (k := 6) (v := .ref (a 3)) rfl k54 (by decide) rfl hR17.obj rfl ?_
  refine g_iconst (v := 0) X dX1_copyFrom_71 (by decide) ?_
  refine g_bipush (v := 8) X dX1_copyFrom_72 (by decide) ?_
  refine g_copyi (n := 8) X dX1_copyFrom_74 kAcL (HRep.row (Rp.fr hb hF18 hd) 3 (by decide) (by decide)) (hR17.row 3 (by decide) (by decide)) rfl (by decide) (by rw [hRm]; decide) (by rw [hRm]; decide +kernel) ?_
  refine g_gen (P := fun M9 => HRep κ.Γ a (har (hsc (hsc (hsc (har (har (hsc u 0 (v.1 0)) 1 (v.2.1 1)) 2 (v.2.1 2)) 1 (v.1 1)) 2 (v.1 2)) 3 (v.1 3)) 3 (v.2.1 3)) M9 ∧ Fr a 28 M M9) ⟨hR17.ar 3 (by decide) (by decide) _ rfl, Fr.tr hF18 (Fr.up (by decide))⟩ (fun M19 ⟨hR20, hF21⟩ => ?_)
  refine g_aload_n X dX1_copyFrom_77 rfl 1 rfl ?_
  refine g_get X dX1_copyFrom_78 (ci := 1) (k := 7) (v := .ref (b 4)) rfl k56 (by decide) rfl (HRep.obj (Rp.fr hb hF21 hd)) rfl ?_
  refine g_iconst (v := 0) X dX1_copyFrom_81 (by decide) ?_
  refine g_aload_n X dX1_copyFrom_82 rfl 0 rfl ?_
  refine g_get X dX1_copyFrom_83 (ci := 1) (k := 7) (v := .ref (a 4)) rfl k56 (by decide) rfl hR20.obj rfl ?_
  refine g_iconst (v := 0) X dX1_copyFrom_86 (by decide) ?_
  refine g_bipush (v := 8) X dX1_copyFrom_87 (by decide) ?_
  refine g_copyi (n := 8) X dX1_copyFrom_89 kAcL (HRep.row (Rp.fr hb hF21 hd) 4 (by decide) (by decide)) (hR20.row 4 (by decide) (by decide)) rfl (by decide) (by rw [hRm]; decide) (by rw [hRm]; decide +kernel) ?_
  refine g_gen (P := fun M9 => HRep κ.Γ a (har (har (hsc (hsc (hsc (har (har (hsc u 0 (v.1 0)) 1 (v.2.1 1)) 2 (v.2.1 2)) 1 (v.1 1)) 2 (v.1 2)) 3 (v.1 3)) 3 (v.2.1 3)) 4 (v.2.1 4)) M9 ∧ Fr a 28 M M9) ⟨hR20.ar 4 (by decide) (by decide) _ rfl, Fr.tr hF21 (Fr.up (by decide))⟩ (fun M22 ⟨hR23, hF24⟩ => ?_)
  refine g_aload_n X dX1_copyFrom_92 rfl 1 rfl ?_
  refine g_get X dX1_copyFrom_93 (ci := 1) (k := 8) (v := .ref (b 9)) rfl k58 (by decide) rfl (HRep.obj (Rp.fr hb hF24 hd)) rfl ?_
  refine g_iconst (v := 0) X dX1_copyFrom_96 (by decide) ?_
  refine g_aload_n X dX1_copyFrom_97 rfl 0 rfl ?_
  refine g_get X dX1_copyFrom_98 (ci := 1) (k := 8) (v := .ref (a 9)) rfl k58 (by decide) rfl hR23.obj rfl ?_
  refine g_iconst (v := 0) X dX1_copyFrom_101 (by decide) ?_
  refine g_bipush (v := 8) X dX1_copyFrom_102 (by decide) ?_
  refine g_copyl (n := 8) X dX1_copyFrom_104 kAcL (HRep.longs (Rp.fr hb hF24 hd)) hR23.longs rfl (by decide) (by rw [hRm]; decide) (by rw [hRm]; decide +kernel) ?_
  refine g_gen (P := fun M9 => HRep κ.Γ a (hcl (har (har (hsc (hsc (hsc (har (har (hsc u 0 (v.1 0)) 1 (v.2.1 1)) 2 (v.2.1 2)) 1 (v.1 1)) 2 (v.1 2)) 3 (v.1 3)) 3 (v.2.1 3)) 4 (v.2.1 4)) v.2.2) M9 ∧ Fr a 28 M M9) ⟨hR23.cl _, Fr.tr hF24 (Fr.up (by decide))⟩ (fun M25 ⟨hR26, hF27⟩ => ?_)
  refine g_aload_n X dX1_copyFrom_107 rfl 1 rfl ?_
  refine g_get X dX1_copyFrom_108 (ci := 1) (k := 9) (v := .ref (b 5)) rfl k60 (by decide) rfl (HRep.obj (Rp.fr hb hF27 hd)) rfl ?_
  refine g_iconst (v := 0) X dX1_copyFrom_111 (by decide) ?_
  refine g_aload_n X dX1_copyFrom_112 rfl 0 rfl ?_
  refine g_get X dX1_copyFrom_113 (ci := 1) (k := 9) (v := .ref (a 5)) rfl k60 (by decide) rfl hR26.obj rfl ?_
  refine g_iconst (v := 0) X dX1_copyFrom_116 (by decide) ?_
  refine g_bipush (v := 8) X dX1_copyFrom_117 (by decide) ?_
  refine g_copyi (n := 8) X dX1_copyFrom_119 kAcL (HRep.row (Rp.fr hb hF27 hd) 5 (by decide) (by decide)) (hR26.row 5 (by decide) (by decide)) rfl (by decide) (by rw [hRm]; decide) (by rw [hRm]; decide +kernel) ?_
  refine g_gen (P := fun M9 => HRep κ.Γ a (har (hcl (har (har (hsc (hsc (hsc (har (har (hsc u 0 (v.1 0)) 1 (v.2.1 1)) 2 (v.2.1 2)) 1 (v.1 1)) 2 (v.1 2)) 3 (v.1 3)) 3 (v.2.1 3)) 4 (v.2.1 4)) v.2.2) 5 (v.2.1 5)) M9 ∧ Fr a 28 M M9) ⟨hR26.ar 5 (by decide) (by decide) _ rfl, Fr.tr hF27 (Fr.up (by decide))⟩ (fun M28 ⟨hR29, hF30⟩ => ?_)
  refine g_aload_n X dX1_copyFrom_122 rfl 1 rfl ?_
  refine g_get X dX1_copyFrom_123 (ci := 1) (k := 10) (v := .ref (b 6)) rfl k62 (by decide) rfl (HRep.obj (Rp.fr hb hF30 hd)) rfl ?_
  refine g_iconst (v := 0) X dX1_copyFrom_126 (by decide) ?_
  refine g_aload_n X dX1_copyFrom_127 rfl 0 rfl ?_
  refine g_get X dX1_copyFrom_128 (ci := 1) (k := 10) (v := .ref (a 6)) rfl k62 (by decide) rfl hR29.obj rfl ?_
  refine g_iconst (v := 0) X dX1_copyFrom_131 (by decide) ?_
  refine g_bipush (v := 8) X dX1_copyFrom_132 (by decide) ?_
  refine g_copyi (n := 8) X dX1_copyFrom_134 kAcL (HRep.row (Rp.fr hb hF30 hd) 6 (by decide) (by decide)) (hR29.row 6 (by decide) (by decide)) rfl (by decide) (by rw [hRm]; decide) (by rw [hRm]; decide +kernel) ?_
  refine g_gen (P := fun M9 => HRep κ.Γ a (har (har (hcl (har (har (hsc (hsc (hsc (har (har (hsc u 0 (v.1 0)) 1 (v.2.1 1)) 2 (v.2.1 2)) 1 (v.1 1)) 2 (v.1 2)) 3 (v.1 3)) 3 (v.2.1 3)) 4 (v.2.1 4)) v.2.2) 5 (v.2.1 5)) 6 (v.2.1 6)) M9 ∧ Fr a 28 M M9) ⟨hR29.ar 6 (by decide) (by decide) _ rfl, Fr.tr hF30 (Fr.up (by decide))⟩ (fun M31 ⟨hR32, hF33⟩ => ?_)
  refine g_aload_n X dX1_copyFrom_137 rfl 1 rfl ?_
  refine g_get X dX1_copyFrom_138 (ci := 1) (k := 11) (v := .ref (b 7)) rfl k64 (by decide) rfl (HRep.obj (Rp.fr hb hF33 hd)) rfl ?_
  refine g_iconst (v := 0) X dX1_copyFrom_141 (by decide) ?_
  refine g_aload_n X dX1_copyFrom_142 rfl 0 rfl ?_
  refine g_get X dX1_copyFrom_143 (ci := 1) (k := 11) (v := .ref (a 7)) rfl k64 (by decide) rfl hR32.obj rfl ?_
  refine g_iconst (v := 0) X dX1_copyFrom_146 (by decide) ?_
  refine g_bipush (v := 8) X dX1_copyFrom_147 (by decide) ?_
  refine g_copyi (n := 8) X dX1_copyFrom_149 kAcL (HRep.row (Rp.fr hb hF33 hd) 7 (by decide) (by decide)) (hR32.row 7 (by decide) (by decide)) rfl (by decide) (by rw [hRm]; decide) (by rw [hRm]; decide +kernel) ?_
  refine g_gen (P := fun M9 => HRep κ.Γ a (har (har (har (hcl (har (har (hsc (hsc (hsc (har (har (hsc u 0 (v.1 0)) 1 (v.2.1 1)) 2 (v.2.1 2)) 1 (v.1 1)) 2 (v.1 2)) 3 (v.1 3)) 3 (v.2.1 3)) 4 (v.2.1 4)) v.2.2) 5 (v.2.1 5)) 6 (v.2.1 6)) 7 (v.2.1 7)) M9 ∧ Fr a 28 M M9) ⟨hR32.ar 7 (by decide) (by decide) _ rfl, Fr.tr hF33 (Fr.up (by decide))⟩ (fun M34 ⟨hR35, hF36⟩ => ?_)
  refine g_aload_n X dX1_copyFrom_152 rfl 1 rfl ?_
  refine g_get X dX1_copyFrom_153 (ci := 1) (k := 12) (v := .ref (b 8)) rfl k66 (by decide) rfl (HRep.obj (Rp.fr hb hF36 hd)) rfl ?_
  refine g_iconst (v := 0) X dX1_copyFrom_156 (by decide) ?_
  refine g_aload_n X dX1_copyFrom_157 rfl 0 rfl ?_
  refine g_get X dX1_copyFrom_158 (ci := 1) (k := 12) (v := .ref (a 8)) rfl k66 (by decide) rfl hR35.obj rfl ?_
  refine g_iconst (v := 0) X dX1_copyFrom_161 (by decide) ?_
  refine g_bipush (v := 8) X dX1_copyFrom_162 (by decide) ?_
  refine g_copyi (n := 8) X dX1_copyFrom_164 kAcL (HRep.row (Rp.fr hb hF36 hd) 8 (by decide) (by decide)) (hR35.row 8 (by decide) (by decide)) rfl (by decide) (by rw [hRm]; decide) (by rw [hRm]; decide +kernel) ?_
  refine g_gen (P := fun M9 => HRep κ.Γ a (har (har (har (har (hcl (har (har (hsc (hsc (hsc (har (har (hsc u 0 (v.1 0)) 1 (v.2.1 1)) 2 (v.2.1 2)) 1 (v.1 1)) 2 (v.1 2)) 3 (v.1 3)) 3 (v.2.1 3)) 4 (v.2.1 4)) v.2.2) 5 (v.2.1 5)) 6 (v.2.1 6)) 7 (v.2.1 7)) 8 (v.2.1 8)) M9 ∧ Fr a 28 M M9) ⟨hR35.ar 8 (by decide) (by decide) _ rfl, Fr.tr hF36 (Fr.up (by decide))⟩ (fun M37 ⟨hR38, hF39⟩ => ?_)
  refine g_iconst (v := 0) X dX1_copyFrom_167 (by decide) ?_
  refine g_istore_n (L' := [(2, .int 0), (0, .ref (a 0)), (1, .ref (b 0))]) X dX1_copyFrom_168 rfl (by rw [hnL]; decide) rfl ?_
  refine g_iload_n X dX1_copyFrom_169 rfl 0 rfl ?_
  refine g_bipush (v := 8) X dX1_copyFrom_170 (by decide) ?_
  refine g_icmp_ge (tgt := 217) X dX1_copyFrom_172 (by decide) (fun c40 => absurd c40 (by decide)) (fun c40 => ?_)
  refine g_aload_n X dX1_copyFrom_175 rfl 2 rfl ?_
  refine g_get X dX1_copyFrom_176 (ci := 1) (k := 13) (v := .ref (b 10)) rfl k68 (by decide) rfl (HRep.obj (Rp.fr hb hF39 hd)) rfl ?_
  refine g_iload_n X dX1_copyFrom_179 rfl 0 rfl ?_
  refine g_aaload (t0 := 3) (v := .ref (b 12)) X dX1_copyFrom_180 (HRep.amd (Rp.fr hb hF39 hd)) rfl rfl (vin_lit (by decide +kernel)) rfl ?_
  refine g_iconst (v := 0) X dX1_copyFrom_181 (by decide) ?_
  refine g_aload_n X dX1_copyFrom_182 rfl 1 rfl ?_
  refine g_get X dX1_copyFrom_183 (ci := 1) (k := 13) (v := .ref (a 10)) rfl k68 (by decide) rfl hR38.obj rfl ?_
  refine g_iload_n X dX1_copyFrom_186 rfl 0 rfl ?_
  refine g_aaload (t0 := 3) (v := .ref (a 12)) X dX1_copyFrom_187 hR38.amd rfl rfl (vin_lit (by decide +kernel)) rfl ?_
  refine g_iconst (v := 0) X dX1_copyFrom_188 (by decide) ?_
  refine g_iconst (v := 4) X dX1_copyFrom_189 (by decide) ?_
  refine g_copyi (n := 4) X dX1_copyFrom_190 kAcL (HRep.row (Rp.fr hb hF39 hd) 12 (by decide) (by decide)) (hR38.row 12 (by decide) (by decide)) rfl (by decide) (by rw [hRm]; decide) (by rw [hRm]; decide +kernel) ?_
  refine g_gen (P := fun M9 => HRep κ.Γ a (har (har (har (har (har (hcl (har (har (hsc (hsc (hsc (har (har (hsc u 0 (v.1 0)) 1 (v.2.1 1)) 2 (v.2.1 2)) 1 (v.1 1)) 2 (v.1 2)) 3 (v.1 3)) 3 (v.2.1 3)) 4 (v.2.1 4)) v.2.2) 5 (v.2.1 5)) 6 (v.2.1 6)) 7 (v.2.1 7)) 8 (v.2.1 8)) 12 (v.2.1 12)) M9 ∧ Fr a 28 M M9) ⟨hR38.ar 12 (by decide) (by decide) _ rfl, Fr.tr hF39 (Fr.up (by decide))⟩ (fun M41 ⟨hR42, hF43⟩ => ?_)
  refine g_aload_n X dX1_copyFrom_193 rfl 2 rfl ?_
  refine g_get X dX1_copyFrom_194 (ci := 1) (k := 14) (v := .ref (b 11)) rfl k70 (by decide) rfl (HRep.obj (Rp.fr hb hF43 hd)) rfl ?_
  refine g_iload_n X dX1_copyFrom_197 rfl 0 rfl ?_
  refine g_aaload (t0 := 3) (v := .ref (b 20)) X dX1_copyFrom_198 (HRep.sup (Rp.fr hb hF43 hd)) rfl rfl (vin_lit (by decide +kernel)) rfl ?_
  refine g_iconst (v := 0) X dX1_copyFrom_199 (by decide) ?_
  refine g_aload_n X dX1_copyFrom_200 rfl 1 rfl ?_
  refine g_get X dX1_copyFrom_201 (ci := 1) (k := 14) (v := .ref (a 11)) rfl k70 (by decide) rfl hR42.obj rfl ?_
  refine g_iload_n X dX1_copyFrom_204 rfl 0 rfl ?_
  refine g_aaload (t0 := 3) (v := .ref (a 20)) X dX1_copyFrom_205 hR42.sup rfl rfl (vin_lit (by decide +kernel)) rfl ?_
  refine g_iconst (v := 0) X dX1_copyFrom_206 (by decide) ?_
  refine g_iconst (v := 4) X dX1_copyFrom_207 (by decide) ?_
  refine g_copyi (n := 4) X dX1_copyFrom_208 kAcL (HRep.row (Rp.fr hb hF43 hd) 20 (by decide) (by decide)) (hR42.row 20 (by decide) (by decide)) rfl (by decide) (by rw [hRm]; decide) (by rw [hRm]; decide +kernel) ?_
  refine g_gen (P := fun M9 => HRep κ.Γ a (har (har (har (har (har (har (hcl (har (har (hsc (hsc (hsc (har (har (hsc u 0 (v.1 0)) 1 (v.2.1 1)) 2 (v.2.1 2)) 1 (v.1 1)) 2 (v.1 2)) 3 (v.1 3)) 3 (v.2.1 3)) 4 (v.2.1 4)) v.2.2) 5 (v.2.1 5)) 6 (v.2.1 6)) 7 (v.2.1 7)) 8 (v.2.1 8)) 12 (v.2.1 12)) 20 (v.2.1 20)) M9 ∧ Fr a 28 M M9) ⟨hR42.ar 20 (by decide) (by decide) _ rfl, Fr.tr hF43 (Fr.up (by decide))⟩ (fun M44 ⟨hR45, hF46⟩ => ?_)
  refine g_iinc (k := 0) (v := 1) (L' := [(2, .int 1), (0, .ref (a 0)), (1, .ref (b 0))]) X dX1_copyFrom_211 rfl (by decide) (by rw [hnL]; decide) rfl ?_
  refine g_goto (tgt := 169) X dX1_copyFrom_214 (by decide) ?_
  refine g_iload_n X dX1_copyFrom_169 rfl 0 rfl ?_
  refine g_bipush (v := 8) X dX1_copyFrom_170 (by decide) ?_
  refine g_icmp_ge (tgt := 217) X dX1_copyFrom_172 (by decide) (fun c47 => absurd c47 (by decide)) (fun c47 => ?_)
  refine g_aload_n X dX1_copyFrom_175 rfl 2 rfl ?_
  refine g_get X dX1_copyFrom_176 (ci := 1) (k := 13) (v := .ref (b 10)) rfl k68 (by decide) rfl (HRep.obj (Rp.fr hb hF46 hd)) rfl ?_
  refine g_iload_n X dX1_copyFrom_179 rfl 0 rfl ?_
  refine g_aaload (t0 := 3) (v := .ref (b 13)) X dX1_copyFrom_180 (HRep.amd (Rp.fr hb hF46 hd)) rfl rfl (vin_lit (by decide +kernel)) rfl ?_
  refine g_iconst (v := 0) X dX1_copyFrom_181 (by decide) ?_
  refine g_aload_n X dX1_copyFrom_182 rfl 1 rfl ?_
  refine g_get X dX1_copyFrom_183 (ci := 1) (k := 13) (v := .ref (a 10)) rfl k68 (by decide) rfl hR45.obj rfl ?_
  refine g_iload_n X dX1_copyFrom_186 rfl 0 rfl ?_
  refine g_aaload (t0 := 3) (v := .ref (a 13)) X dX1_copyFrom_187 hR45.amd rfl rfl (vin_lit (by decide +kernel)) rfl ?_
  refine g_iconst (v := 0) X dX1_copyFrom_188 (by decide) ?_
  refine g_iconst (v := 4) X dX1_copyFrom_189 (by decide) ?_
  refine g_copyi (n := 4) X dX1_copyFrom_190 kAcL (HRep.row (Rp.fr hb hF46 hd) 13 (by decide) (by decide)) (hR45.row 13 (by decide) (by decide)) rfl (by decide) (by rw [hRm]; decide) (by rw [hRm]; decide +kernel) ?_
  refine g_gen (P := fun M9 => HRep κ.Γ a (har (har (har (har (har (har (har (hcl (har (har (hsc (hsc (hsc (har (har (hsc u 0 (v.1 0)) 1 (v.2.1 1)) 2 (v.2.1 2)) 1 (v.1 1)) 2 (v.1 2)) 3 (v.1 3)) 3 (v.2.1 3)) 4 (v.2.1 4)) v.2.2) 5 (v.2.1 5)) 6 (v.2.1 6)) 7 (v.2.1 7)) 8 (v.2.1 8)) 12 (v.2.1 12)) 20 (v.2.1 20)) 13 (v.2.1 13)) M9 ∧ Fr a 28 M M9) ⟨hR45.ar 13 (by decide) (by decide) _ rfl, Fr.tr hF46 (Fr.up (by decide))⟩ (fun M48 ⟨hR49, hF50⟩ => ?_)
  refine g_aload_n X dX1_copyFrom_193 rfl 2 rfl ?_
  refine g_get X dX1_copyFrom_194 (ci := 1) (k := 14) (v := .ref (b 11)) rfl k70 (by decide) rfl (HRep.obj (Rp.fr hb hF50 hd)) rfl ?_
  refine g_iload_n X dX1_copyFrom_197 rfl 0 rfl ?_
  refine g_aaload (t0 := 3) (v := .ref (b 21)) X dX1_copyFrom_198 (HRep.sup (Rp.fr hb hF50 hd)) rfl rfl (vin_lit (by decide +kernel)) rfl ?_
  refine g_iconst (v := 0) X dX1_copyFrom_199 (by decide) ?_
  refine g_aload_n X dX1_copyFrom_200 rfl 1 rfl ?_
  refine g_get X dX1_copyFrom_201 (ci := 1) (k := 14) (v := .ref (a 11)) rfl k70 (by decide) rfl hR49.obj rfl ?_
  refine g_iload_n X dX1_copyFrom_204 rfl 0 rfl ?_
  refine g_aaload (t0 := 3) (v := .ref (a 21)) X dX1_copyFrom_205 hR49.sup rfl rfl (vin_lit (by decide +kernel)) rfl ?_
  refine g_iconst (v := 0) X dX1_copyFrom_206 (by decide) ?_
  refine g_iconst (v := 4) X dX1_copyFrom_207 (by decide) ?_
  refine g_copyi (n := 4) X dX1_copyFrom_208 kAcL (HRep.row (Rp.fr hb hF50 hd) 21 (by decide) (by decide)) (hR49.row 21 (by decide) (by decide)) rfl (by decide) (by rw [hRm]; decide) (by rw [hRm]; decide +kernel) ?_
  refine g_gen (P := fun M9 => HRep κ.Γ a (har (har (har (har (har (har (har (har (hcl (har (har (hsc (hsc (hsc (har (har (hsc u 0 (v.1 0)) 1 (v.2.1 1)) 2 (v.2.1 2)) 1 (v.1 1)) 2 (v.1 2)) 3 (v.1 3)) 3 (v.2.1 3)) 4 (v.2.1 4)) v.2.2) 5 (v.2.1 5)) 6 (v.2.1 6)) 7 (v.2.1 7)) 8 (v.2.1 8)) 12 (v.2.1 12)) 20 (v.2.1 20)) 13 (v.2.1 13)) 21 (v.2.1 21)) M9 ∧ Fr a 28 M M9) ⟨hR49.ar 21 (by decide) (by decide) _ rfl, Fr.tr hF50 (Fr.up (by decide))⟩ (fun M51 ⟨hR52, hF53⟩ => ?_)
  refine g_iinc (k := 0) (v := 2) (L' := [(2, .int 2), (0, .ref (a 0)), (1, .ref (b 0))]) X dX1_copyFrom_211 rfl (by decide) (by rw [hnL]; decide) rfl ?_
  refine g_goto (tgt := 169) X dX1_copyFrom_214 (by decide) ?_
  refine g_iload_n X dX1_copyFrom_169 rfl 0 rfl ?_
  refine g_bipush (v := 8) X dX1_copyFrom_170 (by decide) ?_
  refine g_icmp_ge (tgt := 217) X dX1_copyFrom_172 (by decide) (fun c54 => absurd c54 (by decide)) (fun c54 => ?_)
  refine g_aload_n X dX1_copyFrom_175 rfl 2 rfl ?_
  refine g_get X dX1_copyFrom_176 (ci := 1) (k := 13) (v := .ref (b 10)) rfl k68 (by decide) rfl (HRep.obj (Rp.fr hb hF53 hd)) rfl ?_
  refine g_iload_n X dX1_copyFrom_179 rfl 0 rfl ?_
  refine g_aaload (t0 := 3) (v := .ref (b 14)) X dX1_copyFrom_180 (HRep.amd (Rp.fr hb hF53 hd)) rfl rfl (vin_lit (by decide +kernel)) rfl ?_
  refine g_iconst (v := 0) X dX1_copyFrom_181 (by decide) ?_
  refine g_aload_n X dX1_copyFrom_182 rfl 1 rfl ?_
  refine g_get X dX1_copyFrom_183 (ci := 1) (k := 13) (v := .ref (a 10)) rfl k68 (by decide) rfl hR52.obj rfl ?_
  refine g_iload_n X dX1_copyFrom_186 rfl 0 rfl ?_
  refine g_aaload (t0 := 3) (v := .ref (a 14)) X dX1_copyFrom_187 hR52.amd rfl rfl (vin_lit (by decide +kernel)) rfl ?_
  refine g_iconst (v := 0) X dX1_copyFrom_188 (by decide) ?_
  refine g_iconst (v := 4) X dX1_copyFrom_189 (by decide) ?_
  refine g_copyi (n := 4) X dX1_copyFrom_190 kAcL (HRep.row (Rp.fr hb hF53 hd) 14 (by decide) (by decide)) (hR52.row 14 (by decide) (by decide)) rfl (by decide) (by rw [hRm]; decide) (by rw [hRm]; decide +kernel) ?_
  refine g_gen (P := fun M9 => HRep κ.Γ a (har (har (har (har (har (har (har (har (har (hcl (har (har (hsc (hsc (hsc (har (har (hsc u 0 (v.1 0)) 1 (v.2.1 1)) 2 (v.2.1 2)) 1 (v.1 1)) 2 (v.1 2)) 3 (v.1 3)) 3 (v.2.1 3)) 4 (v.2.1 4)) v.2.2) 5 (v.2.1 5)) 6 (v.2.1 6)) 7 (v.2.1 7)) 8 (v.2.1 8)) 12 (v.2.1 12)) 20 (v.2.1 20)) 13 (v.2.1 13)) 21 (v.2.1 21)) 14 (v.2.1 14)) M9 ∧ Fr a 28 M M9) ⟨hR52.ar 14 (by decide) (by decide) _ rfl, Fr.tr hF53 (Fr.up (by decide))⟩ (fun M55 ⟨hR56, hF57⟩ => ?_)
  refine g_aload_n X dX1_copyFrom_193 rfl 2 rfl ?_
  refine g_get X dX1_copyFrom_194 (ci := 1) (k := 14) (v := .ref (b 11)) rfl k70 (by decide) rfl (HRep.obj (Rp.fr hb hF57 hd)) rfl ?_
  refine g_iload_n X dX1_copyFrom_197 rfl 0 rfl ?_
  refine g_aaload (t0 := 3) (v := .ref (b 22)) X dX1_copyFrom_198 (HRep.sup (Rp.fr hb hF57 hd)) rfl rfl (vin_lit (by decide +kernel)) rfl ?_
  refine g_iconst (v := 0) X dX1_copyFrom_199 (by decide) ?_
  refine g_aload_n X dX1_copyFrom_200 rfl 1 rfl ?_
  refine g_get X dX1_copyFrom_201 (ci := 1) (k := 14) (v := .ref (a 11)) rfl k70 (by decide) rfl hR56.obj rfl ?_
  refine g_iload_n X dX1_copyFrom_204 rfl 0 rfl ?_
  refine g_aaload (t0 := 3) (v := .ref (a 22)) X dX1_copyFrom_205 hR56.sup rfl rfl (vin_lit (by decide +kernel)) rfl ?_
  refine g_iconst (v := 0) X dX1_copyFrom_206 (by decide) ?_
  refine g_iconst (v := 4) X dX1_copyFrom_207 (by decide) ?_
  refine g_copyi (n := 4) X dX1_copyFrom_208 kAcL (HRep.row (Rp.fr hb hF57 hd) 22 (by decide) (by decide)) (hR56.row 22 (by decide) (by decide)) rfl (by decide) (by rw [hRm]; decide) (by rw [hRm]; decide +kernel) ?_
  refine g_gen (P := fun M9 => HRep κ.Γ a (har (har (har (har (har (har (har (har (har (har (hcl (har (har (hsc (hsc (hsc (har (har (hsc u 0 (v.1 0)) 1 (v.2.1 1)) 2 (v.2.1 2)) 1 (v.1 1)) 2 (v.1 2)) 3 (v.1 3)) 3 (v.2.1 3)) 4 (v.2.1 4)) v.2.2) 5 (v.2.1 5)) 6 (v.2.1 6)) 7 (v.2.1 7)) 8 (v.2.1 8)) 12 (v.2.1 12)) 20 (v.2.1 20)) 13 (v.2.1 13)) 21 (v.2.1 21)) 14 (v.2.1 14)) 22 (v.2.1 22)) M9 ∧ Fr a 28 M M9) ⟨hR56.ar 22 (by decide) (by decide) _ rfl, Fr.tr hF57 (Fr.up (by decide))⟩ (fun M58 ⟨hR59, hF60⟩ => ?_)
  refine g_iinc (k := 0) (v := 3) (L' := [(2, .int 3), (0, .ref (a 0)), (1, .ref (b 0))]) X dX1_copyFrom_211 rfl (by decide) (by rw [hnL]; decide) rfl ?_
  refine g_goto (tgt := 169) X dX1_copyFrom_214 (by decide) ?_
  refine g_iload_n X dX1_copyFrom_169 rfl 0 rfl ?_
  refine g_bipush (v := 8) X dX1_copyFrom_170 (by decide) ?_
  refine g_icmp_ge (tgt := 217) X dX1_copyFrom_172 (by decide) (fun c61 => absurd c61 (by decide)) (fun c61 => ?_)
  refine g_aload_n X dX1_copyFrom_175 rfl 2 rfl ?_
  refine g_get X dX1_copyFrom_176 (ci := 1) (k := 13) (v := .ref (b 10)) rfl k68 (by decide) rfl (HRep.obj (Rp.fr hb hF60 hd)) rfl ?_
  refine g_iload_n X dX1_copyFrom_179 rfl 0 rfl ?_
  refine g_aaload (t0 := 3) (v := .ref (b 15)) X dX1_copyFrom_180 (HRep.amd (Rp.fr hb hF60 hd)) rfl rfl (vin_lit (by decide +kernel)) rfl ?_
  refine g_iconst (v := 0) X dX1_copyFrom_181 (by decide) ?_
  refine g_aload_n X dX1_copyFrom_182 rfl 1 rfl ?_
  refine g_get X dX1_copyFrom_183 (ci := 1) (k := 13) (v := .ref (a 10)) rfl k68 (by decide) rfl hR59.obj rfl ?_
  refine g_iload_n X dX1_copyFrom_186 rfl 0 rfl ?_
  refine g_aaload (t0 := 3) (v := .ref (a 15)) X dX1_copyFrom_187 hR59.amd rfl rfl (vin_lit (by decide +kernel)) rfl ?_
  refine g_iconst (v := 0) X dX1_copyFrom_188 (by decide) ?_
  refine g_iconst (v := 4) X dX1_copyFrom_189 (by decide) ?_
  refine g_copyi (n := 4) X dX1_copyFrom_190 kAcL (HRep.row (Rp.fr hb hF60 hd) 15 (by decide) (by decide)) (hR59.row 15 (by decide) (by decide)) rfl (by decide) (by rw [hRm]; decide) (by rw [hRm]; decide +kernel) ?_
  refine g_gen (P := fun M9 => HRep κ.Γ a (har (har (har (har (har (har (har (har (har (har (har (hcl (har (har (hsc (hsc (hsc (har (har (hsc u 0 (v.1 0)) 1 (v.2.1 1)) 2 (v.2.1 2)) 1 (v.1 1)) 2 (v.1 2)) 3 (v.1 3)) 3 (v.2.1 3)) 4 (v.2.1 4)) v.2.2) 5 (v.2.1 5)) 6 (v.2.1 6)) 7 (v.2.1 7)) 8 (v.2.1 8)) 12 (v.2.1 12)) 20 (v.2.1 20)) 13 (v.2.1 13)) 21 (v.2.1 21)) 14 (v.2.1 14)) 22 (v.2.1 22)) 15 (v.2.1 15)) M9 ∧ Fr a 28 M M9) ⟨hR59.ar 15 (by decide) (by decide) _ rfl, Fr.tr hF60 (Fr.up (by decide))⟩ (fun M62 ⟨hR63, hF64⟩ => ?_)
  refine g_aload_n X dX1_copyFrom_193 rfl 2 rfl ?_
  refine g_get X dX1_copyFrom_194 (ci := 1) (k := 14) (v := .ref (b 11)) rfl k70 (by decide) rfl (HRep.obj (Rp.fr hb hF64 hd)) rfl ?_
  refine g_iload_n X dX1_copyFrom_197 rfl 0 rfl ?_
  refine g_aaload (t0 := 3) (v := .ref (b 23)) X dX1_copyFrom_198 (HRep.sup (Rp.fr hb hF64 hd)) rfl rfl (vin_lit (by decide +kernel)) rfl ?_
  refine g_iconst (v := 0) X dX1_copyFrom_199 (by decide) ?_
  refine g_aload_n X dX1_copyFrom_200 rfl 1 rfl ?_
  refine g_get X dX1_copyFrom_201 (ci := 1) (k := 14) (v := .ref (a 11)) rfl k70 (by decide) rfl hR63.obj rfl ?_
  refine g_iload_n X dX1_copyFrom_204 rfl 0 rfl ?_
  refine g_aaload (t0 := 3) (v := .ref (a 23)) X dX1_copyFrom_205 hR63.sup rfl rfl (vin_lit (by decide +kernel)) rfl ?_
  refine g_iconst (v := 0) X dX1_copyFrom_206 (by decide) ?_
  refine g_iconst (v := 4) X dX1_copyFrom_207 (by decide) ?_
  refine g_copyi (n := 4) X dX1_copyFrom_208 kAcL (HRep.row (Rp.fr hb hF64 hd) 23 (by decide) (by decide)) (hR63.row 23 (by decide) (by decide)) rfl (by decide) (by rw [hRm]; decide) (by rw [hRm]; decide +kernel) ?_
  refine g_gen (P := fun M9 => HRep κ.Γ a (har (har (har (har (har (har (har (har (har (har (har (har (hcl (har (har (hsc (hsc (hsc (har (har (hsc u 0 (v.1 0)) 1 (v.2.1 1)) 2 (v.2.1 2)) 1 (v.1 1)) 2 (v.1 2)) 3 (v.1 3)) 3 (v.2.1 3)) 4 (v.2.1 4)) v.2.2) 5 (v.2.1 5)) 6 (v.2.1 6)) 7 (v.2.1 7)) 8 (v.2.1 8)) 12 (v.2.1 12)) 20 (v.2.1 20)) 13 (v.2.1 13)) 21 (v.2.1 21)) 14 (v.2.1 14)) 22 (v.2.1 22)) 15 (v.2.1 15)) 23 (v.2.1 23)) M9 ∧ Fr a 28 M M9) ⟨hR63.ar 23 (by decide) (by decide) _ rfl, Fr.tr hF64 (Fr.up (by decide))⟩ (fun M65 ⟨hR66, hF67⟩ => ?_)
  refine g_iinc (k := 0) (v := 4) (L' := [(2, .int 4), (0, .ref (a 0)), (1, .ref (b 0))]) X dX1_copyFrom_211 rfl (by decide) (by rw [hnL]; decide) rfl ?_
  refine g_goto (tgt := 169) X dX1_copyFrom_214 (by decide) ?_
  refine g_iload_n X dX1_copyFrom_169 rfl 0 rfl ?_
  refine g_bipush (v := 8) X dX1_copyFrom_170 (by decide) ?_
  refine g_icmp_ge (tgt := 217) X dX1_copyFrom_172 (by decide) (fun c68 => absurd c68 (by decide)) (fun c68 => ?_)
  refine g_aload_n X dX1_copyFrom_175 rfl 2 rfl ?_
  refine g_get X dX1_copyFrom_176 (ci := 1) (k := 13) (v := .ref (b 10)) rfl k68 (by decide) rfl (HRep.obj (Rp.fr hb hF67 hd)) rfl ?_
  refine g_iload_n X dX1_copyFrom_179 rfl 0 rfl ?_
  refine g_aaload (t0 := 3) (v := .ref (b 16)) X dX1_copyFrom_180 (HRep.amd (Rp.fr hb hF67 hd)) rfl rfl (vin_lit (by decide +kernel)) rfl ?_
  refine g_iconst (v := 0) X dX1_copyFrom_181 (by decide) ?_
  refine g_aload_n X dX1_copyFrom_182 rfl 1 rfl ?_
  refine g_get X dX1_copyFrom_183 (ci := 1) (k := 13) (v := .ref (a 10)) rfl k68 (by decide) rfl hR66.obj rfl ?_
  refine g_iload_n X dX1_copyFrom_186 rfl 0 rfl ?_
  refine g_aaload (t0 := 3) (v := .ref (a 16)) X dX1_copyFrom_187 hR66.amd rfl rfl (vin_lit (by decide +kernel)) rfl ?_
  refine g_iconst (v := 0) X dX1_copyFrom_188 (by decide) ?_
  refine g_iconst (v := 4) X dX1_copyFrom_189 (by decide) ?_
  refine g_copyi (n := 4) X dX1_copyFrom_190 kAcL (HRep.row (Rp.fr hb hF67 hd) 16 (by decide) (by decide)) (hR66.row 16 (by decide) (by decide)) rfl (by decide) (by rw [hRm]; decide) (by rw [hRm]; decide +kernel) ?_
  refine g_gen (P := fun M9 => HRep κ.Γ a (har (har (har (har (har (har (har (har (har (har (har (har (har (hcl (har (har (hsc (hsc (hsc (har (har (hsc u 0 (v.1 0)) 1 (v.2.1 1)) 2 (v.2.1 2)) 1 (v.1 1)) 2 (v.1 2)) 3 (v.1 3)) 3 (v.2.1 3)) 4 (v.2.1 4)) v.2.2) 5 (v.2.1 5)) 6 (v.2.1 6)) 7 (v.2.1 7)) 8 (v.2.1 8)) 12 (v.2.1 12)) 20 (v.2.1 20)) 13 (v.2.1 13)) 21 (v.2.1 21)) 14 (v.2.1 14)) 22 (v.2.1 22)) 15 (v.2.1 15)) 23 (v.2.1 23)) 16 (v.2.1 16)) M9 ∧ Fr a 28 M M9) ⟨hR66.ar 16 (by decide) (by decide) _ rfl, Fr.tr hF67 (Fr.up (by decide))⟩ (fun M69 ⟨hR70, hF71⟩ => ?_)
  refine g_aload_n X dX1_copyFrom_193 rfl 2 rfl ?_
  refine g_get X dX1_copyFrom_194 (ci := 1) (k := 14) (v := .ref (b 11)) rfl k70 (by decide) rfl (HRep.obj (Rp.fr hb hF71 hd)) rfl ?_
  refine g_iload_n X dX1_copyFrom_197 rfl 0 rfl ?_
  refine g_aaload (t0 := 3) (v := .ref (b 24)) X dX1_copyFrom_198 (HRep.sup (Rp.fr hb hF71 hd)) rfl rfl (vin_lit (by decide +kernel)) rfl ?_
  refine g_iconst (v := 0) X dX1_copyFrom_199 (by decide) ?_
  refine g_aload_n X dX1_copyFrom_200 rfl 1 rfl ?_
  refine g_get X dX1_copyFrom_201 (ci := 1) (k := 14) (v := .ref (a 11)) rfl k70 (by decide) rfl hR70.obj rfl ?_
  refine g_iload_n X dX1_copyFrom_204 rfl 0 rfl ?_
  refine g_aaload (t0 := 3) (v := .ref (a 24)) X dX1_copyFrom_205 hR70.sup rfl rfl (vin_lit (by decide +kernel)) rfl ?_
  refine g_iconst (v := 0) X dX1_copyFrom_206 (by decide) ?_
  refine g_iconst (v := 4) X dX1_copyFrom_207 (by decide) ?_
  refine g_copyi (n := 4) X dX1_copyFrom_208 kAcL (HRep.row (Rp.fr hb hF71 hd) 24 (by decide) (by decide)) (hR70.row 24 (by decide) (by decide)) rfl (by decide) (by rw [hRm]; decide) (by rw [hRm]; decide +kernel) ?_
  refine g_gen (P := fun M9 => HRep κ.Γ a (har (har (har (har (har (har (har (har (har (har (har (har (har (har (hcl (har (har (hsc (hsc (hsc (har (har (hsc u 0 (v.1 0)) 1 (v.2.1 1)) 2 (v.2.1 2)) 1 (v.1 1)) 2 (v.1 2)) 3 (v.1 3)) 3 (v.2.1 3)) 4 (v.2.1 4)) v.2.2) 5 (v.2.1 5)) 6 (v.2.1 6)) 7 (v.2.1 7)) 8 (v.2.1 8)) 12 (v.2.1 12)) 20 (v.2.1 20)) 13 (v.2.1 13)) 21 (v.2.1 21)) 14 (v.2.1 14)) 22 (v.2.1 22)) 15 (v.2.1 15)) 23 (v.2.1 23)) 16 (v.2.1 16)) 24 (v.2.1 24)) M9 ∧ Fr a 28 M M9) ⟨hR70.ar 24 (by decide) (by decide) _ rfl, Fr.tr hF71 (Fr.up (by decide))⟩ (fun M72 ⟨hR73, hF74⟩ => ?_)
  refine g_iinc (k := 0) (v := 5) (L' := [(2, .int 5), (0, .ref (a 0)), (1, .ref (b 0))]) X dX1_copyFrom_211 rfl (by decide) (by rw [hnL]; decide) rfl ?_
  refine g_goto (tgt := 169) X dX1_copyFrom_214 (by decide) ?_
  refine g_iload_n X dX1_copyFrom_169 rfl 0 rfl ?_
  refine g_bipush (v := 8) X dX1_copyFrom_170 (by decide) ?_
  refine g_icmp_ge (tgt := 217) X dX1_copyFrom_172 (by decide) (fun c75 => absurd c75 (by decide)) (fun c75 => ?_)
  refine g_aload_n X dX1_copyFrom_175 rfl 2 rfl ?_
  refine g_get X dX1_copyFrom_176 (ci := 1) (k := 13) (v := .ref (b 10)) rfl k68 (by decide) rfl (HRep.obj (Rp.fr hb hF74 hd)) rfl ?_
  refine g_iload_n X dX1_copyFrom_179 rfl 0 rfl ?_
  refine g_aaload (t0 := 3) (v := .ref (b 17)) X dX1_copyFrom_180 (HRep.amd (Rp.fr hb hF74 hd)) rfl rfl (vin_lit (by decide +kernel)) rfl ?_
  refine g_iconst (v := 0) X dX1_copyFrom_181 (by decide) ?_
  refine g_aload_n X dX1_copyFrom_182 rfl 1 rfl ?_
  refine g_get X dX1_copyFrom_183 (ci := 1) (k := 13) (v := .ref (a 10)) rfl k68 (by decide) rfl hR73.obj rfl ?_
  refine g_iload_n X dX1_copyFrom_186 rfl 0 rfl ?_
  refine g_aaload (t0 := 3) (v := .ref (a 17)) X dX1_copyFrom_187 hR73.amd rfl rfl (vin_lit (by decide +kernel)) rfl ?_
  refine g_iconst (v := 0) X dX1_copyFrom_188 (by decide) ?_
  refine g_iconst (v := 4) X dX1_copyFrom_189 (by decide) ?_
  refine g_copyi (n := 4) X dX1_copyFrom_190 kAcL (HRep.row (Rp.fr hb hF74 hd) 17 (by decide) (by decide)) (hR73.row 17 (by decide) (by decide)) rfl (by decide) (by rw [hRm]; decide) (by rw [hRm]; decide +kernel) ?_
  refine g_gen (P := fun M9 => HRep κ.Γ a (har (har (har (har (har (har (har (har (har (har (har (har (har (har (har (hcl (har (har (hsc (hsc (hsc (har (har (hsc u 0 (v.1 0)) 1 (v.2.1 1)) 2 (v.2.1 2)) 1 (v.1 1)) 2 (v.1 2)) 3 (v.1 3)) 3 (v.2.1 3)) 4 (v.2.1 4)) v.2.2) 5 (v.2.1 5)) 6 (v.2.1 6)) 7 (v.2.1 7)) 8 (v.2.1 8)) 12 (v.2.1 12)) 20 (v.2.1 20)) 13 (v.2.1 13)) 21 (v.2.1 21)) 14 (v.2.1 14)) 22 (v.2.1 22)) 15 (v.2.1 15)) 23 (v.2.1 23)) 16 (v.2.1 16)) 24 (v.2.1 24)) 17 (v.2.1 17)) M9 ∧ Fr a 28 M M9) ⟨hR73.ar 17 (by decide) (by decide) _ rfl, Fr.tr hF74 (Fr.up (by decide))⟩ (fun M76 ⟨hR77, hF78⟩ => ?_)
  refine g_aload_n X dX1_copyFrom_193 rfl 2 rfl ?_
  refine g_get X dX1_copyFrom_194 (ci := 1) (k := 14) (v := .ref (b 11)) rfl k70 (by decide) rfl (HRep.obj (Rp.fr hb hF78 hd)) rfl ?_
  refine g_iload_n X dX1_copyFrom_197 rfl 0 rfl ?_
  refine g_aaload (t0 := 3) (v := .ref (b 25)) X dX1_copyFrom_198 (HRep.sup (Rp.fr hb hF78 hd)) rfl rfl (vin_lit (by decide +kernel)) rfl ?_
  refine g_iconst (v := 0) X dX1_copyFrom_199 (by decide) ?_
  refine g_aload_n X dX1_copyFrom_200 rfl 1 rfl ?_
  refine g_get X dX1_copyFrom_201 (ci := 1) (k := 14) (v := .ref (a 11)) rfl k70 (by decide) rfl hR77.obj rfl ?_
  refine g_iload_n X dX1_copyFrom_204 rfl 0 rfl ?_
  refine g_aaload (t0 := 3) (v := .ref (a 25)) X dX1_copyFrom_205 hR77.sup rfl rfl (vin_lit (by decide +kernel)) rfl ?_
  refine g_iconst (v := 0) X dX1_copyFrom_206 (by decide) ?_
  refine g_iconst (v := 4) X dX1_copyFrom_207 (by decide) ?_
  refine g_copyi (n := 4) X dX1_copyFrom_208 kAcL (HRep.row (Rp.fr hb hF78 hd) 25 (by decide) (by decide)) (hR77.row 25 (by decide) (by decide)) rfl (by decide) (by rw [hRm]; decide) (by rw [hRm]; decide +kernel) ?_
  refine g_gen (P := fun M9 => HRep κ.Γ a (har (har (har (har (har (har (har (har (har (har (har (har (har (har (har (har (hcl (har (har (hsc (hsc (hsc (har (har (hsc u 0 (v.1 0)) 1 (v.2.1 1)) 2 (v.2.1 2)) 1 (v.1 1)) 2 (v.1 2)) 3 (v.1 3)) 3 (v.2.1 3)) 4 (v.2.1 4)) v.2.2) 5 (v.2.1 5)) 6 (v.2.1 6)) 7 (v.2.1 7)) 8 (v.2.1 8)) 12 (v.2.1 12)) 20 (v.2.1 20)) 13 (v.2.1 13)) 21 (v.2.1 21)) 14 (v.2.1 14)) 22 (v.2.1 22)) 15 (v.2.1 15)) 23 (v.2.1 23)) 16 (v.2.1 16)) 24 (v.2.1 24)) 17 (v.2.1 17)) 25 (v.2.1 25)) M9 ∧ Fr a 28 M M9) ⟨hR77.ar 25 (by decide) (by decide) _ rfl, Fr.tr hF78 (Fr.up (by decide))⟩ (fun M79 ⟨hR80, hF81⟩ => ?_)
  refine g_iinc (k := 0) (v := 6) (L' := [(2, .int 6), (0, .ref (a 0)), (1, .ref (b 0))]) X dX1_copyFrom_211 rfl (by decide) (by rw [hnL]; decide) rfl ?_
  refine g_goto (tgt := 169) X dX1_copyFrom_214 (by decide) ?_
  refine g_iload_n X dX1_copyFrom_169 rfl 0 rfl ?_
  refine g_bipush (v := 8) X dX1_copyFrom_170 (by decide) ?_
  refine g_icmp_ge (tgt := 217) X dX1_copyFrom_172 (by decide) (fun c82 => absurd c82 (by decide)) (fun c82 => ?_)
  refine g_aload_n X dX1_copyFrom_175 rfl 2 rfl ?_
  refine g_get X dX1_copyFrom_176 (ci := 1) (k := 13) (v := .ref (b 10)) rfl k68 (by decide) rfl (HRep.obj (Rp.fr hb hF81 hd)) rfl ?_
  refine g_iload_n X dX1_copyFrom_179 rfl 0 rfl ?_
  refine g_aaload (t0 := 3) (v := .ref (b 18)) X dX1_copyFrom_180 (HRep.amd (Rp.fr hb hF81 hd)) rfl rfl (vin_lit (by decide +kernel)) rfl ?_
  refine g_iconst (v := 0) X dX1_copyFrom_181 (by decide) ?_
  refine g_aload_n X dX1_copyFrom_182 rfl 1 rfl ?_
  refine g_get X dX1_copyFrom_183 (ci := 1) (k := 13) (v := .ref (a 10)) rfl k68 (by decide) rfl hR80.obj rfl ?_
  refine g_iload_n X dX1_copyFrom_186 rfl 0 rfl ?_
  refine g_aaload (t0 := 3) (v := .ref (a 18)) X dX1_copyFrom_187 hR80.amd rfl rfl (vin_lit (by decide +kernel)) rfl ?_
  refine g_iconst (v := 0) X dX1_copyFrom_188 (by decide) ?_
  refine g_iconst (v := 4) X dX1_copyFrom_189 (by decide) ?_
  refine g_copyi (n := 4) X dX1_copyFrom_190 kAcL (HRep.row (Rp.fr hb hF81 hd) 18 (by decide) (by decide)) (hR80.row 18 (by decide) (by decide)) rfl (by decide) (by rw [hRm]; decide) (by rw [hRm]; decide +kernel) ?_
  refine g_gen (P := fun M9 => HRep κ.Γ a (har (har (har (har (har (har (har (har (har (har (har (har (har (har (har (har (har (hcl (har (har (hsc (hsc (hsc (har (har (hsc u 0 (v.1 0)) 1 (v.2.1 1)) 2 (v.2.1 2)) 1 (v.1 1)) 2 (v.1 2)) 3 (v.1 3)) 3 (v.2.1 3)) 4 (v.2.1 4)) v.2.2) 5 (v.2.1 5)) 6 (v.2.1 6)) 7 (v.2.1 7)) 8 (v.2.1 8)) 12 (v.2.1 12)) 20 (v.2.1 20)) 13 (v.2.1 13)) 21 (v.2.1 21)) 14 (v.2.1 14)) 22 (v.2.1 22)) 15 (v.2.1 15)) 23 (v.2.1 23)) 16 (v.2.1 16)) 24 (v.2.1 24)) 17 (v.2.1 17)) 25 (v.2.1 25)) 18 (v.2.1 18)) M9 ∧ Fr a 28 M M9) ⟨hR80.ar 18 (by decide) (by decide) _ rfl, Fr.tr hF81 (Fr.up (by decide))⟩ (fun M83 ⟨hR84, hF85⟩ => ?_)
  refine g_aload_n X dX1_copyFrom_193 rfl 2 rfl ?_
  refine g_get X dX1_copyFrom_194 (ci := 1) (k := 14) (v := .ref (b 11)) rfl k70 (by decide) rfl (HRep.obj (Rp.fr hb hF85 hd)) rfl ?_
  refine g_iload_n X dX1_copyFrom_197 rfl 0 rfl ?_
  refine g_aaload (t0 := 3) (v := .ref (b 26)) X dX1_copyFrom_198 (HRep.sup (Rp.fr hb hF85 hd)) rfl rfl (vin_lit (by decide +kernel)) rfl ?_
  refine g_iconst (v := 0) X dX1_copyFrom_199 (by decide) ?_
  refine g_aload_n X dX1_copyFrom_200 rfl 1 rfl ?_
  refine g_get X dX1_copyFrom_201 (ci := 1) (k := 14) (v := .ref (a 11)) rfl k70 (by decide) rfl hR84.obj rfl ?_
  refine g_iload_n X dX1_copyFrom_204 rfl 0 rfl ?_
  refine g_aaload (t0 := 3) (v := .ref (a 26)) X dX1_copyFrom_205 hR84.sup rfl rfl (vin_lit (by decide +kernel)) rfl ?_
  refine g_iconst (v := 0) X dX1_copyFrom_206 (by decide) ?_
  refine g_iconst (v := 4) X dX1_copyFrom_207 (by decide) ?_
  refine g_copyi (n := 4) X dX1_copyFrom_208 kAcL (HRep.row (Rp.fr hb hF85 hd) 26 (by decide) (by decide)) (hR84.row 26 (by decide) (by decide)) rfl (by decide) (by rw [hRm]; decide) (by rw [hRm]; decide +kernel) ?_
  refine g_gen (P := fun M9 => HRep κ.Γ a (har (har (har (har (har (har (har (har (har (har (har (har (har (har (har (har (har (har (hcl (har (har (hsc (hsc (hsc (har (har (hsc u 0 (v.1 0)) 1 (v.2.1 1)) 2 (v.2.1 2)) 1 (v.1 1)) 2 (v.1 2)) 3 (v.1 3)) 3 (v.2.1 3)) 4 (v.2.1 4)) v.2.2) 5 (v.2.1 5)) 6 (v.2.1 6)) 7 (v.2.1 7)) 8 (v.2.1 8)) 12 (v.2.1 12)) 20 (v.2.1 20)) 13 (v.2.1 13)) 21 (v.2.1 21)) 14 (v.2.1 14)) 22 (v.2.1 22)) 15 (v.2.1 15)) 23 (v.2.1 23)) 16 (v.2.1 16)) 24 (v.2.1 24)) 17 (v.2.1 17)) 25 (v.2.1 25)) 18 (v.2.1 18)) 26 (v.2.1 26)) M9 ∧ Fr a 28 M M9) ⟨hR84.ar 26 (by decide) (by decide) _ rfl, Fr.tr hF85 (Fr.up (by decide))⟩ (fun M86 ⟨hR87, hF88⟩ => ?_)
  refine g_iinc (k := 0) (v := 7) (L' := [(2, .int 7), (0, .ref (a 0)), (1, .ref (b 0))]) X dX1_copyFrom_211 rfl (by decide) (by rw [hnL]; decide) rfl ?_
  refine g_goto (tgt := 169) X dX1_copyFrom_214 (by decide) ?_
  refine g_iload_n X dX1_copyFrom_169 rfl 0 rfl ?_
  refine g_bipush (v := 8) X dX1_copyFrom_170 (by decide) ?_
  refine g_icmp_ge (tgt := 217) X dX1_copyFrom_172 (by decide) (fun c89 => absurd c89 (by decide)) (fun c89 => ?_)
  refine g_aload_n X dX1_copyFrom_175 rfl 2 rfl ?_
  refine g_get X dX1_copyFrom_176 (ci := 1) (k := 13) (v := .ref (b 10)) rfl k68 (by decide) rfl (HRep.obj (Rp.fr hb hF88 hd)) rfl ?_
  refine g_iload_n X dX1_copyFrom_179 rfl 0 rfl ?_
  refine g_aaload (t0 := 3) (v := .ref (b 19)) X dX1_copyFrom_180 (HRep.amd (Rp.fr hb hF88 hd)) rfl rfl (vin_lit (by decide +kernel)) rfl ?_
  refine g_iconst (v := 0) X dX1_copyFrom_181 (by decide) ?_
  refine g_aload_n X dX1_copyFrom_182 rfl 1 rfl ?_
  refine g_get X dX1_copyFrom_183 (ci := 1) (k := 13) (v := .ref (a 10)) rfl k68 (by decide) rfl hR87.obj rfl ?_
  refine g_iload_n X dX1_copyFrom_186 rfl 0 rfl ?_
  refine g_aaload (t0 := 3) (v := .ref (a 19)) X dX1_copyFrom_187 hR87.amd rfl rfl (vin_lit (by decide +kernel)) rfl ?_
  refine g_iconst (v := 0) X dX1_copyFrom_188 (by decide) ?_
  refine g_iconst (v := 4) X dX1_copyFrom_189 (by decide) ?_
  refine g_copyi (n := 4) X dX1_copyFrom_190 kAcL (HRep.row (Rp.fr hb hF88 hd) 19 (by decide) (by decide)) (hR87.row 19 (by decide) (by decide)) rfl (by decide) (by rw [hRm]; decide) (by rw [hRm]; decide +kernel) ?_
  refine g_gen (P := fun M9 => HRep κ.Γ a (har (har (har (har (har (har (har (har (har (har (har (har (har (har (har (har (har (har (har (hcl (har (har (hsc (hsc (hsc (har (har (hsc u 0 (v.1 0)) 1 (v.2.1 1)) 2 (v.2.1 2)) 1 (v.1 1)) 2 (v.1 2)) 3 (v.1 3)) 3 (v.2.1 3)) 4 (v.2.1 4)) v.2.2) 5 (v.2.1 5)) 6 (v.2.1 6)) 7 (v.2.1 7)) 8 (v.2.1 8)) 12 (v.2.1 12)) 20 (v.2.1 20)) 13 (v.2.1 13)) 21 (v.2.1 21)) 14 (v.2.1 14)) 22 (v.2.1 22)) 15 (v.2.1 15)) 23 (v.2.1 23)) 16 (v.2.1 16)) 24 (v.2.1 24)) 17 (v.2.1 17)) 25 (v.2.1 25)) 18 (v.2.1 18)) 26 (v.2.1 26)) 19 (v.2.1 19)) M9 ∧ Fr a 28 M M9) ⟨hR87.ar 19 (by decide) (by decide) _ rfl, Fr.tr hF88 (Fr.up (by decide))⟩ (fun M90 ⟨hR91, hF92⟩ => ?_)
  refine g_aload_n X dX1_copyFrom_193 rfl 2 rfl ?_
  refine g_get X dX1_copyFrom_194 (ci := 1) (k := 14) (v := .ref (b 11)) rfl k70 (by decide) rfl (HRep.obj (Rp.fr hb hF92 hd)) rfl ?_
  refine g_iload_n X dX1_copyFrom_197 rfl 0 rfl ?_
  refine g_aaload (t0 := 3) (v := .ref (b 27)) X dX1_copyFrom_198 (HRep.sup (Rp.fr hb hF92 hd)) rfl rfl (vin_lit (by decide +kernel)) rfl ?_
  refine g_iconst (v := 0) X dX1_copyFrom_199 (by decide) ?_
  refine g_aload_n X dX1_copyFrom_200 rfl 1 rfl ?_
  refine g_get X dX1_copyFrom_201 (ci := 1) (k := 14) (v := .ref (a 11)) rfl k70 (by decide) rfl hR91.obj rfl ?_
  refine g_iload_n X dX1_copyFrom_204 rfl 0 rfl ?_
  refine g_aaload (t0 := 3) (v := .ref (a 27)) X dX1_copyFrom_205 hR91.sup rfl rfl (vin_lit (by decide +kernel)) rfl ?_
  refine g_iconst (v := 0) X dX1_copyFrom_206 (by decide) ?_
  refine g_iconst (v := 4) X dX1_copyFrom_207 (by decide) ?_
  refine g_copyi (n := 4) X dX1_copyFrom_208 kAcL (HRep.row (Rp.fr hb hF92 hd) 27 (by decide) (by decide)) (hR91.row 27 (by decide) (by decide)) rfl (by decide) (by rw [hRm]; decide) (by rw [hRm]; decide +kernel) ?_
  refine g_gen (P := fun M9 => HRep κ.Γ a (har (har (har (har (har (har (har (har (har (har (har (har (har (har (har (har (har (har (har (har (hcl (har (har (hsc (hsc (hsc (har (har (hsc u 0 (v.1 0)) 1 (v.2.1 1)) 2 (v.2.1 2)) 1 (v.1 1)) 2 (v.1 2)) 3 (v.1 3)) 3 (v.2.1 3)) 4 (v.2.1 4)) v.2.2) 5 (v.2.1 5)) 6 (v.2.1 6)) 7 (v.2.1 7)) 8 (v.2.1 8)) 12 (v.2.1 12)) 20 (v.2.1 20)) 13 (v.2.1 13)) 21 (v.2.1 21)) 14 (v.2.1 14)) 22 (v.2.1 22)) 15 (v.2.1 15)) 23 (v.2.1 23)) 16 (v.2.1 16)) 24 (v.2.1 24)) 17 (v.2.1 17)) 25 (v.2.1 25)) 18 (v.2.1 18)) 26 (v.2.1 26)) 19 (v.2.1 19)) 27 (v.2.1 27)) M9 ∧ Fr a 28 M M9) ⟨hR91.ar 27 (by decide) (by decide) _ rfl, Fr.tr hF92 (Fr.up (by decide))⟩ (fun M93 ⟨hR94, hF95⟩ => ?_)
  refine g_iinc (k := 0) (v := 8) (L' := [(2, .int 8), (0, .ref (a 0)), (1, .ref (b 0))]) X dX1_copyFrom_211 rfl (by decide) (by rw [hnL]; decide) rfl ?_
  refine g_goto (tgt := 169) X dX1_copyFrom_214 (by decide) ?_
  refine g_iload_n X dX1_copyFrom_169 rfl 0 rfl ?_
  refine g_bipush (v := 8) X dX1_copyFrom_170 (by decide) ?_
  refine g_icmp_ge (tgt := 217) X dX1_copyFrom_172 (by decide) (fun c96 => ?_) (fun c96 => absurd c96 (by decide))
  refine g_aload_n X dX1_copyFrom_217 rfl 1 rfl ?_
  refine g_aload_n X dX1_copyFrom_218 rfl 2 rfl ?_
  refine g_get X dX1_copyFrom_219 (ci := 1) (k := 15) (v := .int (v.1 4)) rfl k72 (by decide) rfl (HRep.obj (Rp.fr hb hF95 hd)) rfl ?_
  refine g_put X dX1_copyFrom_222 (ci := 1) (k := 15) (ty := .int) rfl k72 (by decide) rfl rfl (by decide +kernel) rfl rfl (Nat.le_of_ble_eq_true rfl) hR94.obj ?_
  refine g_gen (P := fun M9 => HRep κ.Γ a (hsc (har (har (har (har (har (har (har (har (har (har (har (har (har (har (har (har (har (har (har (har (hcl (har (har (hsc (hsc (hsc (har (har (hsc u 0 (v.1 0)) 1 (v.2.1 1)) 2 (v.2.1 2)) 1 (v.1 1)) 2 (v.1 2)) 3 (v.1 3)) 3 (v.2.1 3)) 4 (v.2.1 4)) v.2.2) 5 (v.2.1 5)) 6 (v.2.1 6)) 7 (v.2.1 7)) 8 (v.2.1 8)) 12 (v.2.1 12)) 20 (v.2.1 20)) 13 (v.2.1 13)) 21 (v.2.1 21)) 14 (v.2.1 14)) 22 (v.2.1 22)) 15 (v.2.1 15)) 23 (v.2.1 23)) 16 (v.2.1 16)) 24 (v.2.1 24)) 17 (v.2.1 17)) 25 (v.2.1 25)) 18 (v.2.1 18)) 26 (v.2.1 26)) 19 (v.2.1 19)) 27 (v.2.1 27)) 4 (v.1 4)) M9 ∧ Fr a 28 M M9) ⟨hR94.sc 4 _ rfl, Fr.tr hF95 (Fr.up (by decide))⟩ (fun M97 ⟨hR98, hF99⟩ => ?_)
  exact g_vret X F dX1_copyFrom_225 (by omega) (by omega) ⟨rfl, HRep.cong hR98 (co_dec5 ⟨rfl, rfl, rfl, rfl, rfl⟩) (fun i hi hn => by rcases cf_rows hi hn with rfl | rfl | rfl | rfl | rfl | rfl | rfl | rfl | rfl | rfl | rfl | rfl | rfl | rfl | rfl | rfl | rfl | rfl | rfl | rfl | rfl | rfl | rfl | rfl <;> rfl) rfl, hF99⟩
