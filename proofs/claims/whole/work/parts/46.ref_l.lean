abbrev nM (v : HV) : Nat := cN (v.2.1 1 0)
def sAdd (v : HV) (x y : Int32) : HV := hset (hset (hset v 1 0 (v.2.1 1 0 + 1)) 1 (5 + 2 * nM v + 0) x) 1 (5 + 2 * nM v + 1) y
def sIn (v : HV) (x : Int32) : HV := hset v 1 2 (v.2.1 1 2 ||| shl 1 x)
def sOut (v : HV) (x : Int32) : HV := hset v 1 2 (v.2.1 1 2 &&& (shl 1 x ^^^ (-1)))
def sClr (v : HV) (b : Nat) : Nat → HV
  | 0 => v
  | n + 1 => rPut (sClr v b n) b n 0
def sTgs (v : HV) (b f : Nat) : Nat → HV
  | 0 => v
  | n + 1 => mTog (sTgs v b f n) b (nI (f + n))
def sBrg (v : HV) (f la : Int32) : HV := sTgs (sClr (hset v 1 1 (v.2.1 1 1 + 1)) (cN (v.2.1 1 1)) 16) (cN (v.2.1 1 1)) (cN f) (cN la + 1 - cN f)
def sVote (v : HV) (b : Nat) (x : Int32) (s o : Nat) : HV := rPut (rPut v b s (rB v b s ||| shl 1 x)) b o (rB (rPut v b s (rB v b s ||| shl 1 x)) b o &&& (shl 1 x ^^^ (-1)))
abbrev rSuc (v : HV) (b : Nat) : Prop := ¬ rWt v (rB v b 5) ≤ rWt v (rB v b 6)
def sCls1 (v : HV) (b : Nat) : HV := rPut v b 3 (rB v b 3 + 1)
def sCls0 (v : HV) (b : Nat) : HV := rPut v b 3 (rB v b 3 + 0)
def sCls (v : HV) (b : Nat) : HV := if rWt v (rB v b 5) ≤ rWt v (rB v b 6) then mFin (sCls0 v b) b 2 else if rB (sCls1 v b) b 3 = 3 then mFin (sCls1 v b) b 1 else mFin (sCls1 v b) b 0
def sMov (v : HV) (b : Nat) (x c : Int32) : HV := rPut (rPut (rPut v b 7 (rB v b 7 + 1)) b (8 + 2 * cN (rB v b 7)) c) b (8 + 2 * cN (rB v b 7) + 1) (shl 1 x)
def sSec (v : HV) (b p : Nat) (x : Int32) : HV := rPut v b (8 + 2 * p + 1) (rB v b (8 + 2 * p + 1) ||| shl 1 x)
abbrev rAcc (v : HV) (b : Nat) : Prop := ¬ 2 * rWt v (rB v b 9) ≤ rWt v (v.2.1 1 2)
def sDec0 (v : HV) (b : Nat) : HV := hset (mTog v b (rB v b 8)) 1 4 ((mTog v b (rB v b 8)).2.1 1 4 + 1)
def sDec1 (v : HV) (b : Nat) : HV := rPut v b 7 (rB v b 7 - 1)
def sShf (v : HV) (b : Nat) : Nat → HV
  | 0 => v
  | n + 1 => rPut (sShf v b n) b (8 + n) (rB (sShf v b n) b (8 + n + 2))
def sDec (v : HV) (b : Nat) : HV := if 2 * rWt v (rB v b 9) ≤ rWt v (v.2.1 1 2) then sShf (sDec1 v b) b (2 * cN (rB v b 7 - 1)) else sShf (sDec1 (sDec0 v b) b) b (2 * cN (rB v b 7 - 1))
def sHol0 (v : HV) (b : Nat) (n : Int32) : HV := rPut v b 4 (rB v b 4 + n)
def sHol (v : HV) (b : Nat) (n : Int32) : HV := if rB (sHol0 v b n) b 4 / 60 < 3 then sHol0 v b n else mFin (sHol0 v b n) b 2
theorem sShf_7 {v : HV} {b : Nat} : ∀ n, rB (sShf v b n) b 7 = rB v b 7
  | 0 => rfl
  | n + 1 => by
    show (rPut (sShf v b n) b (8 + n) (rB (sShf v b n) b (8 + n + 2))).2.1 1 (53 + 16 * b + 7) = _
    rw [hset_mn (by omega)]
    exact sShf_7 n
theorem sDec0_7 {v : HV} {b : Nat} (hb : b < 8) : rB (sDec0 v b) b 7 = rB v b 7 := by
  unfold sDec0 mTog
  show (hset _ 1 4 _).2.1 1 (53 + 16 * b + 7) = _
  rw [hset_mn (by omega)]
  show (hset v 1 _ _).2.1 1 (53 + 16 * b + 7) = _
  rw [hset_mn (by split <;> omega)]
theorem RInv.tog {u : HV} (h : RInv (u.2.1 1)) {b : Nat} {x : Int32} : RInv ((mTog u b x).2.1 1) := h.put (by split <;> omega) (by split <;> omega)
theorem btw_natC {x : Int32} (h : btw x 0 63) : ∃ m : Nat, m < 64 ∧ cN x = m ∧ x = nI m := btw_nat (B := 64) (by decide) h
theorem nI_ltS {a b : Nat} (ha : a < 2 ^ 31) (hb : b < 2 ^ 31) (h : ¬ nI a ≤ nI b) : b < a := by
  rw [nI_leJ ha hb] at h
  omega
theorem nI_leS {a b : Nat} (ha : a < 2 ^ 31) (hb : b < 2 ^ 31) (h : nI a ≤ nI b) : a ≤ b := (nI_leJ ha hb).mp h
theorem nI_eqS {a b : Nat} (ha : a < 2 ^ 31) (hb : b < 2 ^ 31) (h : ¬ nI a = nI b) : a ≠ b := fun e => h (by rw [e])
noncomputable def mAddMember (u : HV) (x : Int32) (y : Int32) : Res × HV := mG (¬ btw x 0 3) 1 zI u (mG (¬ btw y 1 7) 2 zI u (mG (u.2.1 1 0 = 24) 3 zI u ((rI ((uC u).2.1 1 0), sAdd (uC u) x y))))
set_option maxRecDepth 100000 in
set_option maxHeartbeats 4000000 in
theorem c_X4_addMember (l : Launch) (hl : l.stackTraces = false) (Γ : Gm) (M : Hp) (a : Nat → Nat) (u : HV) (hR : MRep Γ a u M) (x : Int32) (y : Int32) (hi : RInv (u.2.1 1)) (hk : KInv u) : Ct l Γ yX4_addMember cX4_addMember 4 (some .int) 3 0 0 [.ref (a 0), .int x, .int y] M (MMu Γ a (mAddMember u x y) M) := by
  refine Ct.of hl (by decide) (Nat.le_of_ble_eq_true rfl) rfl ?_
  intro κ e1 e2 hnL hRm X F hlt
  subst e1 e2
  refine g_aload_n X dX4_addMember_0 rfl 0 rfl ?_
  refine g_iconst (v := 1) X dX4_addMember_1 (by decide) ?_
  refine g_iload_n X dX4_addMember_2 rfl 1 rfl ?_
  refine g_callS_rd (As := [.int x]) (v := some (.int (bI (btw x 0 3)))) X dX4_addMember_3 (c_X4_isWard κ.l hl κ.Γ M x) k1158 k1159 k5 k1160 ⟨by decide, by decide, (show (parseMethodDescriptor yX4_isWard.desc).map (fun d => d.parameters.length) = some 1 by decide +kernel)⟩ rfl (Nat.le_of_ble_eq_true rfl) (by rw [hRm]; decide) (by rw [hRm]; exact ⟨Nat.le_of_ble_eq_true rfl, Nat.le_of_ble_eq_true rfl⟩) ?_
  refine g_ifb_ne (tgt := 13) X dX4_addMember_6 (by decide) (fun c1 => ?_) (fun c1 => ?_)
  · refine g_iconst (v := 0) X dX4_addMember_13 (by decide) ?_
    refine g_callV (As := [.int 1, .int 0]) (ci := 4) X dX4_addMember_14 (c_X4_fails0 κ.l hl κ.Γ M a u hR 1) k1164 k1166 kp15 k5 k1167 rfl (MRep.obj hR) ⟨rfl, by decide, by decide, (show (parseMethodDescriptor yX4_fails.desc).map (fun d => d.parameters.length) = some 2 by decide +kernel)⟩ rfl (Nat.le_of_ble_eq_true rfl) (by rw [hRm]; decide) (by rw [hRm]; exact ⟨Nat.le_of_ble_eq_true rfl, Nat.le_of_ble_eq_true rfl⟩) (fun v2 M2 h2 => ?_) (fun _ _ h9 => by cases h9.1)
    obtain ⟨e2, hR2, hF2⟩ := h2
    have e2 : (Sum.inl v2 : Res) = rI 0 := e2
    cases e2
    refine g_if_ne (tgt := 67) X dX4_addMember_17 (by decide) (fun c3 => absurd c3 (by decide)) (fun c3 => ?_)
    refine g_aload_n X dX4_addMember_20 rfl 0 rfl ?_
    refine g_iconst (v := 2) X dX4_addMember_21 (by decide) ?_
    refine g_iload_n X dX4_addMember_22 rfl 2 rfl ?_
    refine g_iconst (v := 1) X dX4_addMember_23 (by decide) ?_
    refine g_bipush (v := 7) X dX4_addMember_24 (by decide) ?_
    refine g_callS_rd (As := [.int y, .int 1, .int 7]) (v := some (.int (bI (btw y 1 7)))) X dX4_addMember_26 (c_X4_isBetween κ.l hl κ.Γ M2 y 1 7) k1161 k1162 k5 k1163 ⟨by decide, by decide, (show (parseMethodDescriptor yX4_isBetween.desc).map (fun d => d.parameters.length) = some 3 by decide +kernel)⟩ rfl (Nat.le_of_ble_eq_true rfl) (by rw [hRm]; decide) (by rw [hRm]; exact ⟨Nat.le_of_ble_eq_true rfl, Nat.le_of_ble_eq_true rfl⟩) ?_
    refine g_ifb_ne (tgt := 36) X dX4_addMember_29 (by decide) (fun c4 => ?_) (fun c4 => ?_)
    · refine g_iconst (v := 0) X dX4_addMember_36 (by decide) ?_
      refine g_callV (As := [.int 2, .int 0]) (ci := 4) X dX4_addMember_37 (c_X4_fails0 κ.l hl κ.Γ M2 a (hsc u 0 0) hR2 2) k1164 k1166 kp15 k5 k1167 rfl (MRep.obj hR2) ⟨rfl, by decide, by decide, (show (parseMethodDescriptor yX4_fails.desc).map (fun d => d.parameters.length) = some 2 by decide +kernel)⟩ rfl (Nat.le_of_ble_eq_true rfl) (by rw [hRm]; decide) (by rw [hRm]; exact ⟨Nat.le_of_ble_eq_true rfl, Nat.le_of_ble_eq_true rfl⟩) (fun v5 M5 h5 => ?_) (fun _ _ h9 => by cases h9.1)
      obtain ⟨e5, hR5, hF5⟩ := h5
      have e5 : (Sum.inl v5 : Res) = rI 0 := e5
      cases e5
      have hR5 : MRep κ.Γ a (hsc u 0 0) M5 := by rw [← hsc_hsc (x := 0)]; exact hR5
      have hF5 := Fr.tr hF2 hF5
      refine g_if_ne (tgt := 67) X dX4_addMember_40 (by decide) (fun c6 => absurd c6 (by decide)) (fun c6 => ?_)
      refine g_aload_n X dX4_addMember_43 rfl 0 rfl ?_
      refine g_iconst (v := 3) X dX4_addMember_44 (by decide) ?_
      refine g_aload_n X dX4_addMember_45 rfl 0 rfl ?_
      refine g_get X dX4_addMember_46 (ci := 4) (k := 1) (v := .ref (a 1)) rfl k1090 (by decide) rfl (MRep.obj hR5) rfl ?_
      refine g_iconst (v := 0) X dX4_addMember_49 (by decide) ?_
      refine g_iald (b := 0) X dX4_addMember_50 (MRep.row hR5 1 (by decide) (by decide)) (by omega) (by decide) ?_
      refine g_bipush (v := 24) X dX4_addMember_51 (by decide) ?_
      refine g_icmp_ne (tgt := 60) X dX4_addMember_53 (by decide) (fun c7 => ?_) (fun c7 => ?_)
      · refine g_iconst (v := 0) X dX4_addMember_60 (by decide) ?_
        refine g_callV (As := [.int 3, .int 0]) (ci := 4) X dX4_addMember_61 (c_X4_fails0 κ.l hl κ.Γ M5 a (hsc u 0 0) hR5 3) k1164 k1166 kp15 k5 k1167 rfl (MRep.obj hR5) ⟨rfl, by decide, by decide, (show (parseMethodDescriptor yX4_fails.desc).map (fun d => d.parameters.length) = some 2 by decide +kernel)⟩ rfl (Nat.le_of_ble_eq_true rfl) (by rw [hRm]; decide) (by rw [hRm]; exact ⟨Nat.le_of_ble_eq_true rfl, Nat.le_of_ble_eq_true rfl⟩) (fun v8 M8 h8 => ?_) (fun _ _ h9 => by cases h9.1)
        obtain ⟨e8, hR8, hF8⟩ := h8
        have e8 : (Sum.inl v8 : Res) = rI 0 := e8
        cases e8
        have hR8 : MRep κ.Γ a (hsc u 0 0) M8 := by rw [← hsc_hsc (x := 0)]; exact hR8
        have hF8 := Fr.tr hF5 hF8
        refine g_if_eq (tgt := 69) X dX4_addMember_64 (by decide) (fun c9 => ?_) (fun c9 => absurd c9 (by decide))
        obtain ⟨B, hB24, eB⟩ := hi.1
        have hB : B < 24 := by have h9 : ¬ B = 24 := fun z => c7 (by show u.2.1 1 0 = 24; rw [eB, z]; rfl); omega
        have eC : (uC u).2.1 1 0 = nI B := by rw [uC_now]; exact eB
        have hcB : cN (nI B) = B := cN_nI (by omega)
        refine g_aload_n X dX4_addMember_69 rfl 0 rfl ?_
        refine g_callV (As := []) (ci := 4) X dX4_addMember_70 (c_X4_change κ.l hl κ.Γ M8 a (hsc u 0 0) hR8 hk) k1168 k1170 kp16 k5 k1171 rfl (MRep.obj hR8) ⟨rfl, by decide, by decide, (show (parseMethodDescriptor yX4_change.desc).map (fun d => d.parameters.length) = some 0 by decide +kernel)⟩ rfl (Nat.le_of_ble_eq_true rfl) (by rw [hRm]; decide) (by rw [hRm]; exact ⟨Nat.le_of_ble_eq_true rfl, Nat.le_of_ble_eq_true rfl⟩) (fun v10 M10 h10 => ?_) (fun _ _ h9 => by cases h9.1)
        obtain ⟨e10, hR10, hF10⟩ := h10
        have e10 : (Sum.inl v10 : Res) = .inl none := e10
        cases e10
        have hR10 : MRep κ.Γ a (mChg (hsc u 0 0)) M10 := hR10
        have hF10 := Fr.tr hF8 hF10
        refine g_aload_n X dX4_addMember_73 rfl 0 rfl ?_
        refine g_get X dX4_addMember_74 (ci := 4) (k := 1) (v := .ref (a 1)) rfl k1090 (by decide) rfl (MRep.obj hR10) rfl ?_
        refine g_iconst (v := 0) X dX4_addMember_77 (by decide) ?_
        refine g_iald (b := 0) X dX4_addMember_78 (MRep.row hR10 1 (by decide) (by decide)) (by omega) (by decide) ?_
        refine g_lit (nI B) eC ?_
        refine g_istore_n (L' := [(3, .int (nI B)), (0, .ref (a 0)), (1, .int x), (2, .int y)]) X dX4_addMember_79 rfl (by rw [hnL]; decide) rfl ?_
        refine g_aload_n X dX4_addMember_80 rfl 1 rfl ?_
        refine g_get X dX4_addMember_81 (ci := 4) (k := 1) (v := .ref (a 1)) rfl k1090 (by decide) rfl (MRep.obj hR10) rfl ?_
        refine g_iconst (v := 0) X dX4_addMember_84 (by decide) ?_
        refine g_dup2 X dX4_addMember_85 rfl rfl ?_
        refine g_iald (b := 0) X dX4_addMember_86 (MRep.row hR10 1 (by decide) (by decide)) (by omega) (by decide) ?_
        refine g_lit (nI B) eC ?_
        refine g_iconst (v := 1) X dX4_addMember_87 (by decide) ?_
        refine g_iadd X dX4_addMember_88 ?_
        refine g_lit (nI (B + 1)) (nI_addJ B 1) ?_
        refine g_iast (b := 0) X dX4_addMember_89 (MRep.row hR10 1 (by decide) (by decide)) (by omega) (by decide) ?_
        refine g_gen (P := fun M9 => MRep κ.Γ a (hset (mChg (hsc u 0 0)) 1 0 (nI (B + 1))) M9 ∧ Fr a 15 M M9) ⟨MRep.ar hR10 1 (by decide) (by decide) _ rfl rfl, Fr.tr hF10 (Fr.up (by decide))⟩ (fun M11 ⟨hR12, hF13⟩ => ?_)
        refine g_aload_n X dX4_addMember_90 rfl 1 rfl ?_
        refine g_get X dX4_addMember_91 (ci := 4) (k := 1) (v := .ref (a 1)) rfl k1090 (by decide) rfl (MRep.obj hR12) rfl ?_
        refine g_iconst (v := 5) X dX4_addMember_94 (by decide) ?_
        refine g_iconst (v := 2) X dX4_addMember_95 (by decide) ?_
        refine g_iload_n X dX4_addMember_96 rfl 0 rfl ?_
        refine g_imul X dX4_addMember_97 ?_
        refine g_lit (nI (2 * B)) (nI_mulJ 2 B) ?_
        refine g_iadd X dX4_addMember_98 ?_
        refine g_lit (nI (5 + (2 * B))) (nI_addJ 5 (2 * B)) ?_
        refine g_iconst (v := 0) X dX4_addMember_99 (by decide) ?_
        refine g_iadd X dX4_addMember_100 ?_
        refine g_lit (nI ((5 + (2 * B)) + 0)) (nI_addJ (5 + (2 * B)) 0) ?_
        refine g_iload_n X dX4_addMember_101 rfl 2 rfl ?_
        refine g_iast (b := ((5 + (2 * B)) + 0)) X dX4_addMember_102 (MRep.row hR12 1 (by decide) (by decide)) (by omega) (by decide) ?_
        refine g_gen (P := fun M9 => MRep κ.Γ a (hset (hset (mChg (hsc u 0 0)) 1 0 (nI (B + 1))) 1 ((5 + (2 * B)) + 0) x) M9 ∧ Fr a 15 M M9) ⟨MRep.ar hR12 1 (by decide) (by decide) _ rfl rfl, Fr.tr hF13 (Fr.up (by decide))⟩ (fun M14 ⟨hR15, hF16⟩ => ?_)
        refine g_aload_n X dX4_addMember_103 rfl 1 rfl ?_
        refine g_get X dX4_addMember_104 (ci := 4) (k := 1) (v := .ref (a 1)) rfl k1090 (by decide) rfl (MRep.obj hR15) rfl ?_
        refine g_iconst (v := 5) X dX4_addMember_107 (by decide) ?_
        refine g_iconst (v := 2) X dX4_addMember_108 (by decide) ?_
        refine g_iload_n X dX4_addMember_109 rfl 0 rfl ?_
        refine g_imul X dX4_addMember_110 ?_
        refine g_lit (nI (2 * B)) (nI_mulJ 2 B) ?_
        refine g_iadd X dX4_addMember_111 ?_
        refine g_lit (nI (5 + (2 * B))) (nI_addJ 5 (2 * B)) ?_
        refine g_iconst (v := 1) X dX4_addMember_112 (by decide) ?_
        refine g_iadd X dX4_addMember_113 ?_
        refine g_lit (nI ((5 + (2 * B)) + 1)) (nI_addJ (5 + (2 * B)) 1) ?_
        refine g_iload_n X dX4_addMember_114 rfl 3 rfl ?_
        refine g_iast (b := ((5 + (2 * B)) + 1)) X dX4_addMember_115 (MRep.row hR15 1 (by decide) (by decide)) (by omega) (by decide) ?_
        refine g_gen (P := fun M9 => MRep κ.Γ a (hset (hset (hset (mChg (hsc u 0 0)) 1 0 (nI (B + 1))) 1 ((5 + (2 * B)) + 0) x) 1 ((5 + (2 * B)) + 1) y) M9 ∧ Fr a 15 M M9) ⟨MRep.ar hR15 1 (by decide) (by decide) _ rfl rfl, Fr.tr hF16 (Fr.up (by decide))⟩ (fun M17 ⟨hR18, hF19⟩ => ?_)
        refine g_iload_n X dX4_addMember_116 rfl 0 rfl ?_
        exact g_iret X F dX4_addMember_117 (by omega) (by omega) (by unfold mAddMember; exact (MMu.n (by first | exact c1 | exact fun q => q c1 | exact fun q => c1 q | exact Classical.not_not.mp c1) (MMu.n (by first | exact c4 | exact fun q => q c4 | exact fun q => c4 q | exact Classical.not_not.mp c4) (MMu.n (by first | exact c7 | exact fun q => q c7 | exact fun q => c7 q | exact Classical.not_not.mp c7) ⟨by rw [eC], by (try unfold sAdd nM); rw [eC, hcB, nI_1]; exact hR18, hF19⟩))))
      · refine g_iconst (v := 1) X dX4_addMember_56 (by decide) ?_
        refine g_goto (tgt := 61) X dX4_addMember_57 (by decide) ?_
        refine g_callV (As := [.int 3, .int 1]) (ci := 4) X dX4_addMember_61 (c_X4_fails1 κ.l hl κ.Γ M5 a (hsc u 0 0) hR5 3) k1164 k1166 kp15 k5 k1167 rfl (MRep.obj hR5) ⟨rfl, by decide, by decide, (show (parseMethodDescriptor yX4_fails.desc).map (fun d => d.parameters.length) = some 2 by decide +kernel)⟩ rfl (Nat.le_of_ble_eq_true rfl) (by rw [hRm]; decide) (by rw [hRm]; exact ⟨Nat.le_of_ble_eq_true rfl, Nat.le_of_ble_eq_true rfl⟩) (fun v20 M20 h20 => ?_) (fun _ _ h9 => by cases h9.1)
        obtain ⟨e20, hR20, hF20⟩ := h20
        have e20 : (Sum.inl v20 : Res) = rI 1 := e20
        cases e20
        have hR20 : MRep κ.Γ a (hsc u 0 3) M20 := by rw [← hsc_hsc (x := 0)]; exact hR20
        have hF20 := Fr.tr hF5 hF20
        refine g_if_eq (tgt := 69) X dX4_addMember_64 (by decide) (fun c21 => absurd c21 (by decide)) (fun c21 => ?_)
        refine g_iconst (v := 0) X dX4_addMember_67 (by decide) ?_
        exact g_iret X F dX4_addMember_68 (by omega) (by omega) (by unfold mAddMember; exact (MMu.n (by first | exact c1 | exact fun q => q c1 | exact fun q => c1 q | exact Classical.not_not.mp c1) (MMu.n (by first | exact c4 | exact fun q => q c4 | exact fun q => c4 q | exact Classical.not_not.mp c4) (MMu.y (by first | exact c7 | exact fun q => q c7 | exact fun q => c7 q | exact Classical.not_not.mp c7) ⟨rfl, hR20, hF20⟩))))
    · refine g_iconst (v := 1) X dX4_addMember_32 (by decide) ?_
      refine g_goto (tgt := 37) X dX4_addMember_33 (by decide) ?_
      refine g_callV (As := [.int 2, .int 1]) (ci := 4) X dX4_addMember_37 (c_X4_fails1 κ.l hl κ.Γ M2 a (hsc u 0 0) hR2 2) k1164 k1166 kp15 k5 k1167 rfl (MRep.obj hR2) ⟨rfl, by decide, by decide, (show (parseMethodDescriptor yX4_fails.desc).map (fun d => d.parameters.length) = some 2 by decide +kernel)⟩ rfl (Nat.le_of_ble_eq_true rfl) (by rw [hRm]; decide) (by rw [hRm]; exact ⟨Nat.le_of_ble_eq_true rfl, Nat.le_of_ble_eq_true rfl⟩) (fun v22 M22 h22 => ?_) (fun _ _ h9 => by cases h9.1)
      obtain ⟨e22, hR22, hF22⟩ := h22
      have e22 : (Sum.inl v22 : Res) = rI 1 := e22
      cases e22
      have hR22 : MRep κ.Γ a (hsc u 0 2) M22 := by rw [← hsc_hsc (x := 0)]; exact hR22
      have hF22 := Fr.tr hF2 hF22
      refine g_if_ne (tgt := 67) X dX4_addMember_40 (by decide) (fun c23 => ?_) (fun c23 => absurd c23 (by decide))
      refine g_iconst (v := 0) X dX4_addMember_67 (by decide) ?_
      exact g_iret X F dX4_addMember_68 (by omega) (by omega) (by unfold mAddMember; exact (MMu.n (by first | exact c1 | exact fun q => q c1 | exact fun q => c1 q | exact Classical.not_not.mp c1) (MMu.y (by first | exact c4 | exact fun q => q c4 | exact fun q => c4 q | exact Classical.not_not.mp c4) ⟨rfl, hR22, hF22⟩)))
  · refine g_iconst (v := 1) X dX4_addMember_9 (by decide) ?_
    refine g_goto (tgt := 14) X dX4_addMember_10 (by decide) ?_
    refine g_callV (As := [.int 1, .int 1]) (ci := 4) X dX4_addMember_14 (c_X4_fails1 κ.l hl κ.Γ M a u hR 1) k1164 k1166 kp15 k5 k1167 rfl (MRep.obj hR) ⟨rfl, by decide, by decide, (show (parseMethodDescriptor yX4_fails.desc).map (fun d => d.parameters.length) = some 2 by decide +kernel)⟩ rfl (Nat.le_of_ble_eq_true rfl) (by rw [hRm]; decide) (by rw [hRm]; exact ⟨Nat.le_of_ble_eq_true rfl, Nat.le_of_ble_eq_true rfl⟩) (fun v24 M24 h24 => ?_) (fun _ _ h9 => by cases h9.1)
    obtain ⟨e24, hR24, hF24⟩ := h24
    have e24 : (Sum.inl v24 : Res) = rI 1 := e24
    cases e24
    refine g_if_ne (tgt := 67) X dX4_addMember_17 (by decide) (fun c25 => ?_) (fun c25 => absurd c25 (by decide))
    refine g_iconst (v := 0) X dX4_addMember_67 (by decide) ?_
    exact g_iret X F dX4_addMember_68 (by omega) (by omega) (by unfold mAddMember; exact (MMu.y (by first | exact c1 | exact fun q => q c1 | exact fun q => c1 q | exact Classical.not_not.mp c1) ⟨rfl, hR24, hF24⟩))
noncomputable def mEnter (u : HV) (x : Int32) : Res × HV := mG (¬ isM u x) 1 zI u (mG (prs u x) 2 zI u ((rI (jbc ((sIn (uC u) x).2.1 1 2)), sIn (uC u) x)))
set_option maxRecDepth 100000 in
set_option maxHeartbeats 4000000 in
theorem c_X4_enter (l : Launch) (hl : l.stackTraces = false) (Γ : Gm) (M : Hp) (a : Nat → Nat) (u : HV) (hR : MRep Γ a u M) (x : Int32) (hi : RInv (u.2.1 1)) (hk : KInv u) : Ct l Γ yX4_enter cX4_enter 2 (some .int) 3 0 0 [.ref (a 0), .int x] M (MMu Γ a (mEnter u x) M) := by
  refine Ct.of hl (by decide) (Nat.le_of_ble_eq_true rfl) rfl ?_
  intro κ e1 e2 hnL hRm X F hlt
  subst e1 e2
  refine g_aload_n X dX4_enter_0 rfl 0 rfl ?_
  refine g_iconst (v := 1) X dX4_enter_1 (by decide) ?_
  refine g_aload_n X dX4_enter_2 rfl 0 rfl ?_
  refine g_iload_n X dX4_enter_3 rfl 1 rfl ?_
  refine g_callV_rd (As := [.int x]) (ci := 4) (v := some (.int (bI (btw x 0 (u.2.1 1 0 - 1))))) X dX4_enter_4 (c_X4_isMember κ.l hl κ.Γ M a u hR x) k1183 k1185 kp18 k5 k1186 rfl (MRep.obj hR) ⟨rfl, by decide, by decide, (show (parseMethodDescriptor yX4_isMember.desc).map (fun d => d.parameters.length) = some 1 by decide +kernel)⟩ rfl (Nat.le_of_ble_eq_true rfl) (by rw [hRm]; decide) (by rw [hRm]; exact ⟨Nat.le_of_ble_eq_true rfl, Nat.le_of_ble_eq_true rfl⟩) ?_
  refine g_ifb_ne (tgt := 14) X dX4_enter_7 (by decide) (fun c1 => ?_) (fun c1 => ?_)
  · refine g_iconst (v := 0) X dX4_enter_14 (by decide) ?_
    refine g_callV (As := [.int 1, .int 0]) (ci := 4) X dX4_enter_15 (c_X4_fails0 κ.l hl κ.Γ M a u hR 1) k1164 k1166 kp15 k5 k1167 rfl (MRep.obj hR) ⟨rfl, by decide, by decide, (show (parseMethodDescriptor yX4_fails.desc).map (fun d => d.parameters.length) = some 2 by decide +kernel)⟩ rfl (Nat.le_of_ble_eq_true rfl) (by rw [hRm]; decide) (by rw [hRm]; exact ⟨Nat.le_of_ble_eq_true rfl, Nat.le_of_ble_eq_true rfl⟩) (fun v2 M2 h2 => ?_) (fun _ _ h9 => by cases h9.1)
    obtain ⟨e2, hR2, hF2⟩ := h2
    have e2 : (Sum.inl v2 : Res) = rI 0 := e2
    cases e2
    refine g_if_ne (tgt := 34) X dX4_enter_18 (by decide) (fun c3 => absurd c3 (by decide)) (fun c3 => ?_)
    refine g_aload_n X dX4_enter_21 rfl 0 rfl ?_
    refine g_iconst (v := 2) X dX4_enter_22 (by decide) ?_
    refine g_aload_n X dX4_enter_23 rfl 0 rfl ?_
    refine g_iload_n X dX4_enter_24 rfl 1 rfl ?_
    refine g_callV_rd (As := [.int x]) (ci := 4) (v := some (.int (bI (shr (u.2.1 1 2) x &&& 1 = 1)))) X dX4_enter_25 (c_X4_present κ.l hl κ.Γ M2 a (hsc u 0 0) hR2 x) k1187 k1189 kp19 k5 k1190 rfl (MRep.obj hR2) ⟨rfl, by decide, by decide, (show (parseMethodDescriptor yX4_present.desc).map (fun d => d.parameters.length) = some 1 by decide +kernel)⟩ rfl (Nat.le_of_ble_eq_true rfl) (by rw [hRm]; decide) (by rw [hRm]; exact ⟨Nat.le_of_ble_eq_true rfl, Nat.le_of_ble_eq_true rfl⟩) ?_
    rcases Classical.em (shr (u.2.1 1 2) x &&& 1 = 1) with c4 | c4
    · refine g_lit 1 (bI_t c4) ?_
      refine g_callV (As := [.int 2, .int 1]) (ci := 4) X dX4_enter_28 (c_X4_fails1 κ.l hl κ.Γ M2 a (hsc u 0 0) hR2 2) k1164 k1166 kp15 k5 k1167 rfl (MRep.obj hR2) ⟨rfl, by decide, by decide, (show (parseMethodDescriptor yX4_fails.desc).map (fun d => d.parameters.length) = some 2 by decide +kernel)⟩ rfl (Nat.le_of_ble_eq_true rfl) (by rw [hRm]; decide) (by rw [hRm]; exact ⟨Nat.le_of_ble_eq_true rfl, Nat.le_of_ble_eq_true rfl⟩) (fun v5 M5 h5 => ?_) (fun _ _ h9 => by cases h9.1)
      obtain ⟨e5, hR5, hF5⟩ := h5
      have e5 : (Sum.inl v5 : Res) = rI 1 := e5
      cases e5
      have hR5 : MRep κ.Γ a (hsc u 0 2) M5 := by rw [← hsc_hsc (x := 0)]; exact hR5
      have hF5 := Fr.tr hF2 hF5
      refine g_if_eq (tgt := 36) X dX4_enter_31 (by decide) (fun c6 => absurd c6 (by decide)) (fun c6 => ?_)
      refine g_iconst (v := 0) X dX4_enter_34 (by decide) ?_
      exact g_iret X F dX4_enter_35 (by omega) (by omega) (by unfold mEnter; exact (MMu.n (by first | exact c1 | exact fun q => q c1 | exact fun q => c1 q | exact Classical.not_not.mp c1) (MMu.y (by first | exact c4 | exact fun q => q c4 | exact fun q => c4 q | exact Classical.not_not.mp c4) ⟨rfl, hR5, hF5⟩)))
    · refine g_lit 0 (bI_f c4) ?_
      refine g_callV (As := [.int 2, .int 0]) (ci := 4) X dX4_enter_28 (c_X4_fails0 κ.l hl κ.Γ M2 a (hsc u 0 0) hR2 2) k1164 k1166 kp15 k5 k1167 rfl (MRep.obj hR2) ⟨rfl, by decide, by decide, (show (parseMethodDescriptor yX4_fails.desc).map (fun d => d.parameters.length) = some 2 by decide +kernel)⟩ rfl (Nat.le_of_ble_eq_true rfl) (by rw [hRm]; decide) (by rw [hRm]; exact ⟨Nat.le_of_ble_eq_true rfl, Nat.le_of_ble_eq_true rfl⟩) (fun v7 M7 h7 => ?_) (fun _ _ h9 => by cases h9.1)
      obtain ⟨e7, hR7, hF7⟩ := h7
      have e7 : (Sum.inl v7 : Res) = rI 0 := e7
      cases e7
      have hR7 : MRep κ.Γ a (hsc u 0 0) M7 := by rw [← hsc_hsc (x := 0)]; exact hR7
      have hF7 := Fr.tr hF2 hF7
      refine g_if_eq (tgt := 36) X dX4_enter_31 (by decide) (fun c8 => ?_) (fun c8 => absurd c8 (by decide))
      refine g_aload_n X dX4_enter_36 rfl 0 rfl ?_
      refine g_callV (As := []) (ci := 4) X dX4_enter_37 (c_X4_change κ.l hl κ.Γ M7 a (hsc u 0 0) hR7 hk) k1168 k1170 kp16 k5 k1171 rfl (MRep.obj hR7) ⟨rfl, by decide, by decide, (show (parseMethodDescriptor yX4_change.desc).map (fun d => d.parameters.length) = some 0 by decide +kernel)⟩ rfl (Nat.le_of_ble_eq_true rfl) (by rw [hRm]; decide) (by rw [hRm]; exact ⟨Nat.le_of_ble_eq_true rfl, Nat.le_of_ble_eq_true rfl⟩) (fun v9 M9 h9 => ?_) (fun _ _ h9 => by cases h9.1)
      obtain ⟨e9, hR9, hF9⟩ := h9
      have e9 : (Sum.inl v9 : Res) = .inl none := e9
      cases e9
      have hR9 : MRep κ.Γ a (mChg (hsc u 0 0)) M9 := hR9
      have hF9 := Fr.tr hF7 hF9
      refine g_aload_n X dX4_enter_40 rfl 0 rfl ?_
      refine g_get X dX4_enter_41 (ci := 4) (k := 1) (v := .ref (a 1)) rfl k1090 (by decide) rfl (MRep.obj hR9) rfl ?_
      refine g_iconst (v := 2) X dX4_enter_44 (by decide) ?_
      refine g_dup2 X dX4_enter_45 rfl rfl ?_
      refine g_iald (b := 2) X dX4_enter_46 (MRep.row hR9 1 (by decide) (by decide)) (by omega) (by decide) ?_
      refine g_iconst (v := 1) X dX4_enter_47 (by decide) ?_
      refine g_iload_n X dX4_enter_48 rfl 1 rfl ?_
      refine g_ishl X dX4_enter_49 ?_
      refine g_ior X dX4_enter_50 ?_
      refine g_iast (b := 2) X dX4_enter_51 (MRep.row hR9 1 (by decide) (by decide)) (by omega) (by decide) ?_
      refine g_gen (P := fun M9 => MRep κ.Γ a (hset (mChg (hsc u 0 0)) 1 2 (((mChg (hsc u 0 0)).2.1 1 2) ||| (shl 1 x))) M9 ∧ Fr a 15 M M9) ⟨MRep.ar hR9 1 (by decide) (by decide) _ rfl rfl, Fr.tr hF9 (Fr.up (by decide))⟩ (fun M10 ⟨hR11, hF12⟩ => ?_)
      refine g_aload_n X dX4_enter_52 rfl 0 rfl ?_
      refine g_get X dX4_enter_53 (ci := 4) (k := 1) (v := .ref (a 1)) rfl k1090 (by decide) rfl (MRep.obj hR11) rfl ?_
      refine g_iconst (v := 2) X dX4_enter_56 (by decide) ?_
      refine g_iald (b := 2) X dX4_enter_57 (MRep.row hR11 1 (by decide) (by decide)) (by omega) (by decide) ?_
      refine g_callS_rd (As := [.int ((hset (mChg (hsc u 0 0)) 1 2 (((mChg (hsc u 0 0)).2.1 1 2) ||| (shl 1 x))).2.1 1 2)]) (v := some (.int (jbc ((hset (mChg (hsc u 0 0)) 1 2 (((mChg (hsc u 0 0)).2.1 1 2) ||| (shl 1 x))).2.1 1 2)))) X dX4_enter_58 (c_jbc κ.l hl κ.Γ M10 ((hset (mChg (hsc u 0 0)) 1 2 (((mChg (hsc u 0 0)).2.1 1 2) ||| (shl 1 x))).2.1 1 2)) k1191 k209 k19 k210 ⟨by decide, by decide, (show (parseMethodDescriptor yJ6_bitCount_0f7a4.desc).map (fun d => d.parameters.length) = some 1 by decide +kernel)⟩ rfl (Nat.le_of_ble_eq_true rfl) (by rw [hRm]; decide) (by rw [hRm]; exact ⟨Nat.le_of_ble_eq_true rfl, Nat.le_of_ble_eq_true rfl⟩) ?_
      exact g_iret X F dX4_enter_61 (by omega) (by omega) (by unfold mEnter; exact (MMu.n (by first | exact c1 | exact fun q => q c1 | exact fun q => c1 q | exact Classical.not_not.mp c1) (MMu.n (by first | exact c4 | exact fun q => q c4 | exact fun q => c4 q | exact Classical.not_not.mp c4) ⟨rfl, by (try unfold sIn); exact hR11, hF12⟩)))
  · refine g_iconst (v := 1) X dX4_enter_10 (by decide) ?_
    refine g_goto (tgt := 15) X dX4_enter_11 (by decide) ?_
    refine g_callV (As := [.int 1, .int 1]) (ci := 4) X dX4_enter_15 (c_X4_fails1 κ.l hl κ.Γ M a u hR 1) k1164 k1166 kp15 k5 k1167 rfl (MRep.obj hR) ⟨rfl, by decide, by decide, (show (parseMethodDescriptor yX4_fails.desc).map (fun d => d.parameters.length) = some 2 by decide +kernel)⟩ rfl (Nat.le_of_ble_eq_true rfl) (by rw [hRm]; decide) (by rw [hRm]; exact ⟨Nat.le_of_ble_eq_true rfl, Nat.le_of_ble_eq_true rfl⟩) (fun v13 M13 h13 => ?_) (fun _ _ h9 => by cases h9.1)
    obtain ⟨e13, hR13, hF13⟩ := h13
    have e13 : (Sum.inl v13 : Res) = rI 1 := e13
    cases e13
    refine g_if_ne (tgt := 34) X dX4_enter_18 (by decide) (fun c14 => ?_) (fun c14 => absurd c14 (by decide))
    refine g_iconst (v := 0) X dX4_enter_34 (by decide) ?_
    exact g_iret X F dX4_enter_35 (by omega) (by omega) (by unfold mEnter; exact (MMu.y (by first | exact c1 | exact fun q => q c1 | exact fun q => c1 q | exact Classical.not_not.mp c1) ⟨rfl, hR13, hF13⟩))
noncomputable def mLeave (u : HV) (x : Int32) : Res × HV := mG (¬ isM u x) 1 zI u (mG (¬ prs u x) 2 zI u ((rI (jbc ((sOut (uC u) x).2.1 1 2)), sOut (uC u) x)))
set_option maxRecDepth 100000 in
set_option maxHeartbeats 4000000 in
theorem c_X4_leave (l : Launch) (hl : l.stackTraces = false) (Γ : Gm) (M : Hp) (a : Nat → Nat) (u : HV) (hR : MRep Γ a u M) (x : Int32) (hi : RInv (u.2.1 1)) (hk : KInv u) : Ct l Γ yX4_leave cX4_leave 2 (some .int) 3 0 0 [.ref (a 0), .int x] M (MMu Γ a (mLeave u x) M) := by
  refine Ct.of hl (by decide) (Nat.le_of_ble_eq_true rfl) rfl ?_
  intro κ e1 e2 hnL hRm X F hlt
  subst e1 e2
  refine g_aload_n X dX4_leave_0 rfl 0 rfl ?_
  refine g_iconst (v := 1) X dX4_leave_1 (by decide) ?_
  refine g_aload_n X dX4_leave_2 rfl 0 rfl ?_
  refine g_iload_n X dX4_leave_3 rfl 1 rfl ?_
  refine g_callV_rd (As := [.int x]) (ci := 4) (v := some (.int (bI (btw x 0 (u.2.1 1 0 - 1))))) X dX4_leave_4 (c_X4_isMember κ.l hl κ.Γ M a u hR x) k1183 k1185 kp18 k5 k1186 rfl (MRep.obj hR) ⟨rfl, by decide, by decide, (show (parseMethodDescriptor yX4_isMember.desc).map (fun d => d.parameters.length) = some 1 by decide +kernel)⟩ rfl (Nat.le_of_ble_eq_true rfl) (by rw [hRm]; decide) (by rw [hRm]; exact ⟨Nat.le_of_ble_eq_true rfl, Nat.le_of_ble_eq_true rfl⟩) ?_
  refine g_ifb_ne (tgt := 14) X dX4_leave_7 (by decide) (fun c1 => ?_) (fun c1 => ?_)
  · refine g_iconst (v := 0) X dX4_leave_14 (by decide) ?_
    refine g_callV (As := [.int 1, .int 0]) (ci := 4) X dX4_leave_15 (c_X4_fails0 κ.l hl κ.Γ M a u hR 1) k1164 k1166 kp15 k5 k1167 rfl (MRep.obj hR) ⟨rfl, by decide, by decide, (show (parseMethodDescriptor yX4_fails.desc).map (fun d => d.parameters.length) = some 2 by decide +kernel)⟩ rfl (Nat.le_of_ble_eq_true rfl) (by rw [hRm]; decide) (by rw [hRm]; exact ⟨Nat.le_of_ble_eq_true rfl, Nat.le_of_ble_eq_true rfl⟩) (fun v2 M2 h2 => ?_) (fun _ _ h9 => by cases h9.1)
    obtain ⟨e2, hR2, hF2⟩ := h2
    have e2 : (Sum.inl v2 : Res) = rI 0 := e2
    cases e2
    refine g_if_ne (tgt := 42) X dX4_leave_18 (by decide) (fun c3 => absurd c3 (by decide)) (fun c3 => ?_)
    refine g_aload_n X dX4_leave_21 rfl 0 rfl ?_
    refine g_iconst (v := 2) X dX4_leave_22 (by decide) ?_
    refine g_aload_n X dX4_leave_23 rfl 0 rfl ?_
    refine g_iload_n X dX4_leave_24 rfl 1 rfl ?_
    refine g_callV_rd (As := [.int x]) (ci := 4) (v := some (.int (bI (shr (u.2.1 1 2) x &&& 1 = 1)))) X dX4_leave_25 (c_X4_present κ.l hl κ.Γ M2 a (hsc u 0 0) hR2 x) k1187 k1189 kp19 k5 k1190 rfl (MRep.obj hR2) ⟨rfl, by decide, by decide, (show (parseMethodDescriptor yX4_present.desc).map (fun d => d.parameters.length) = some 1 by decide +kernel)⟩ rfl (Nat.le_of_ble_eq_true rfl) (by rw [hRm]; decide) (by rw [hRm]; exact ⟨Nat.le_of_ble_eq_true rfl, Nat.le_of_ble_eq_true rfl⟩) ?_
    refine g_ifb_ne (tgt := 35) X dX4_leave_28 (by decide) (fun c4 => ?_) (fun c4 => ?_)
    · refine g_iconst (v := 0) X dX4_leave_35 (by decide) ?_
      refine g_callV (As := [.int 2, .int 0]) (ci := 4) X dX4_leave_36 (c_X4_fails0 κ.l hl κ.Γ M2 a (hsc u 0 0) hR2 2) k1164 k1166 kp15 k5 k1167 rfl (MRep.obj hR2) ⟨rfl, by decide, by decide, (show (parseMethodDescriptor yX4_fails.desc).map (fun d => d.parameters.length) = some 2 by decide +kernel)⟩ rfl (Nat.le_of_ble_eq_true rfl) (by rw [hRm]; decide) (by rw [hRm]; exact ⟨Nat.le_of_ble_eq_true rfl, Nat.le_of_ble_eq_true rfl⟩) (fun v5 M5 h5 => ?_) (fun _ _ h9 => by cases h9.1)
      obtain ⟨e5, hR5, hF5⟩ := h5
      have e5 : (Sum.inl v5 : Res) = rI 0 := e5
      cases e5
      have hR5 : MRep κ.Γ a (hsc u 0 0) M5 := by rw [← hsc_hsc (x := 0)]; exact hR5
      have hF5 := Fr.tr hF2 hF5
      refine g_if_eq (tgt := 44) X dX4_leave_39 (by decide) (fun c6 => ?_) (fun c6 => absurd c6 (by decide))
      refine g_aload_n X dX4_leave_44 rfl 0 rfl ?_
      refine g_callV (As := []) (ci := 4) X dX4_leave_45 (c_X4_change κ.l hl κ.Γ M5 a (hsc u 0 0) hR5 hk) k1168 k1170 kp16 k5 k1171 rfl (MRep.obj hR5) ⟨rfl, by decide, by decide, (show (parseMethodDescriptor yX4_change.desc).map (fun d => d.parameters.length) = some 0 by decide +kernel)⟩ rfl (Nat.le_of_ble_eq_true rfl) (by rw [hRm]; decide) (by rw [hRm]; exact ⟨Nat.le_of_ble_eq_true rfl, Nat.le_of_ble_eq_true rfl⟩) (fun v7 M7 h7 => ?_) (fun _ _ h9 => by cases h9.1)
      obtain ⟨e7, hR7, hF7⟩ := h7
      have e7 : (Sum.inl v7 : Res) = .inl none := e7
      cases e7
      have hR7 : MRep κ.Γ a (mChg (hsc u 0 0)) M7 := hR7
      have hF7 := Fr.tr hF5 hF7
      refine g_aload_n X dX4_leave_48 rfl 0 rfl ?_
      refine g_get X dX4_leave_49 (ci := 4) (k := 1) (v := .ref (a 1)) rfl k1090 (by decide) rfl (MRep.obj hR7) rfl ?_
      refine g_iconst (v := 2) X dX4_leave_52 (by decide) ?_
      refine g_dup2 X dX4_leave_53 rfl rfl ?_
      refine g_iald (b := 2) X dX4_leave_54 (MRep.row hR7 1 (by decide) (by decide)) (by omega) (by decide) ?_
      refine g_iconst (v := 1) X dX4_leave_55 (by decide) ?_
      refine g_iload_n X dX4_leave_56 rfl 1 rfl ?_
      refine g_ishl X dX4_leave_57 ?_
      refine g_iconst (v := (-1)) X dX4_leave_58 (by decide) ?_
      refine g_ixor X dX4_leave_59 ?_
      refine g_iand X dX4_leave_60 ?_
      refine g_iast (b := 2) X dX4_leave_61 (MRep.row hR7 1 (by decide) (by decide)) (by omega) (by decide) ?_
      refine g_gen (P := fun M9 => MRep κ.Γ a (hset (mChg (hsc u 0 0)) 1 2 (((mChg (hsc u 0 0)).2.1 1 2) &&& ((shl 1 x) ^^^ (-1)))) M9 ∧ Fr a 15 M M9) ⟨MRep.ar hR7 1 (by decide) (by decide) _ rfl rfl, Fr.tr hF7 (Fr.up (by decide))⟩ (fun M8 ⟨hR9, hF10⟩ => ?_)
      refine g_aload_n X dX4_leave_62 rfl 0 rfl ?_
      refine g_get X dX4_leave_63 (ci := 4) (k := 1) (v := .ref (a 1)) rfl k1090 (by decide) rfl (MRep.obj hR9) rfl ?_
      refine g_iconst (v := 2) X dX4_leave_66 (by decide) ?_
      refine g_iald (b := 2) X dX4_leave_67 (MRep.row hR9 1 (by decide) (by decide)) (by omega) (by decide) ?_
      refine g_callS_rd (As := [.int ((hset (mChg (hsc u 0 0)) 1 2 (((mChg (hsc u 0 0)).2.1 1 2) &&& ((shl 1 x) ^^^ (-1)))).2.1 1 2)]) (v := some (.int (jbc ((hset (mChg (hsc u 0 0)) 1 2 (((mChg (hsc u 0 0)).2.1 1 2) &&& ((shl 1 x) ^^^ (-1)))).2.1 1 2)))) X dX4_leave_68 (c_jbc κ.l hl κ.Γ M8 ((hset (mChg (hsc u 0 0)) 1 2 (((mChg (hsc u 0 0)).2.1 1 2) &&& ((shl 1 x) ^^^ (-1)))).2.1 1 2)) k1191 k209 k19 k210 ⟨by decide, by decide, (show (parseMethodDescriptor yJ6_bitCount_0f7a4.desc).map (fun d => d.parameters.length) = some 1 by decide +kernel)⟩ rfl (Nat.le_of_ble_eq_true rfl) (by rw [hRm]; decide) (by rw [hRm]; exact ⟨Nat.le_of_ble_eq_true rfl, Nat.le_of_ble_eq_true rfl⟩) ?_
      exact g_iret X F dX4_leave_71 (by omega) (by omega) (by unfold mLeave; exact (MMu.n (by first | exact c1 | exact fun q => q c1 | exact fun q => c1 q | exact Classical.not_not.mp c1) (MMu.n (by first | exact c4 | exact fun q => q c4 | exact fun q => c4 q | exact Classical.not_not.mp c4) ⟨rfl, by (try unfold sOut); exact hR9, hF10⟩)))
    · refine g_iconst (v := 1) X dX4_leave_31 (by decide) ?_
      refine g_goto (tgt := 36) X dX4_leave_32 (by decide) ?_
      refine g_callV (As := [.int 2, .int 1]) (ci := 4) X dX4_leave_36 (c_X4_fails1 κ.l hl κ.Γ M2 a (hsc u 0 0) hR2 2) k1164 k1166 kp15 k5 k1167 rfl (MRep.obj hR2) ⟨rfl, by decide, by decide, (show (parseMethodDescriptor yX4_fails.desc).map (fun d => d.parameters.length) = some 2 by decide +kernel)⟩ rfl (Nat.le_of_ble_eq_true rfl) (by rw [hRm]; decide) (by rw [hRm]; exact ⟨Nat.le_of_ble_eq_true rfl, Nat.le_of_ble_eq_true rfl⟩) (fun v11 M11 h11 => ?_) (fun _ _ h9 => by cases h9.1)
      obtain ⟨e11, hR11, hF11⟩ := h11
      have e11 : (Sum.inl v11 : Res) = rI 1 := e11
      cases e11
      have hR11 : MRep κ.Γ a (hsc u 0 2) M11 := by rw [← hsc_hsc (x := 0)]; exact hR11
      have hF11 := Fr.tr hF2 hF11
      refine g_if_eq (tgt := 44) X dX4_leave_39 (by decide) (fun c12 => absurd c12 (by decide)) (fun c12 => ?_)
      refine g_iconst (v := 0) X dX4_leave_42 (by decide) ?_
      exact g_iret X F dX4_leave_43 (by omega) (by omega) (by unfold mLeave; exact (MMu.n (by first | exact c1 | exact fun q => q c1 | exact fun q => c1 q | exact Classical.not_not.mp c1) (MMu.y (by first | exact c4 | exact fun q => q c4 | exact fun q => c4 q | exact Classical.not_not.mp c4) ⟨rfl, hR11, hF11⟩)))
  · refine g_iconst (v := 1) X dX4_leave_10 (by decide) ?_
    refine g_goto (tgt := 15) X dX4_leave_11 (by decide) ?_
    refine g_callV (As := [.int 1, .int 1]) (ci := 4) X dX4_leave_15 (c_X4_fails1 κ.l hl κ.Γ M a u hR 1) k1164 k1166 kp15 k5 k1167 rfl (MRep.obj hR) ⟨rfl, by decide, by decide, (show (parseMethodDescriptor yX4_fails.desc).map (fun d => d.parameters.length) = some 2 by decide +kernel)⟩ rfl (Nat.le_of_ble_eq_true rfl) (by rw [hRm]; decide) (by rw [hRm]; exact ⟨Nat.le_of_ble_eq_true rfl, Nat.le_of_ble_eq_true rfl⟩) (fun v13 M13 h13 => ?_) (fun _ _ h9 => by cases h9.1)
    obtain ⟨e13, hR13, hF13⟩ := h13
    have e13 : (Sum.inl v13 : Res) = rI 1 := e13
    cases e13
    refine g_if_ne (tgt := 42) X dX4_leave_18 (by decide) (fun c14 => ?_) (fun c14 => absurd c14 (by decide))
    refine g_iconst (v := 0) X dX4_leave_42 (by decide) ?_
    exact g_iret X F dX4_leave_43 (by omega) (by omega) (by unfold mLeave; exact (MMu.y (by first | exact c1 | exact fun q => q c1 | exact fun q => c1 q | exact Classical.not_not.mp c1) ⟨rfl, hR13, hF13⟩))
noncomputable def mSetQuorum (u : HV) (n : Int32) : Res × HV := mG (¬ btw n 1 24) 1 zI u ((rI ((uC u).2.1 1 3), hset (uC u) 1 3 n))
set_option maxRecDepth 100000 in
set_option maxHeartbeats 4000000 in
theorem c_X4_setQuorum (l : Launch) (hl : l.stackTraces = false) (Γ : Gm) (M : Hp) (a : Nat → Nat) (u : HV) (hR : MRep Γ a u M) (n : Int32) (hi : RInv (u.2.1 1)) (hk : KInv u) : Ct l Γ yX4_setQuorum cX4_setQuorum 3 (some .int) 3 0 0 [.ref (a 0), .int n] M (MMu Γ a (mSetQuorum u n) M) := by
  refine Ct.of hl (by decide) (Nat.le_of_ble_eq_true rfl) rfl ?_
  intro κ e1 e2 hnL hRm X F hlt
  subst e1 e2
  refine g_aload_n X dX4_setQuorum_0 rfl 0 rfl ?_
  refine g_iconst (v := 1) X dX4_setQuorum_1 (by decide) ?_
  refine g_iload_n X dX4_setQuorum_2 rfl 1 rfl ?_
  refine g_iconst (v := 1) X dX4_setQuorum_3 (by decide) ?_
  refine g_bipush (v := 24) X dX4_setQuorum_4 (by decide) ?_
  refine g_callS_rd (As := [.int n, .int 1, .int 24]) (v := some (.int (bI (btw n 1 24)))) X dX4_setQuorum_6 (c_X4_isBetween κ.l hl κ.Γ M n 1 24) k1161 k1162 k5 k1163 ⟨by decide, by decide, (show (parseMethodDescriptor yX4_isBetween.desc).map (fun d => d.parameters.length) = some 3 by decide +kernel)⟩ rfl (Nat.le_of_ble_eq_true rfl) (by rw [hRm]; decide) (by rw [hRm]; exact ⟨Nat.le_of_ble_eq_true rfl, Nat.le_of_ble_eq_true rfl⟩) ?_
  refine g_ifb_ne (tgt := 16) X dX4_setQuorum_9 (by decide) (fun c1 => ?_) (fun c1 => ?_)
  · refine g_iconst (v := 0) X dX4_setQuorum_16 (by decide) ?_
    refine g_callV (As := [.int 1, .int 0]) (ci := 4) X dX4_setQuorum_17 (c_X4_fails0 κ.l hl κ.Γ M a u hR 1) k1164 k1166 kp15 k5 k1167 rfl (MRep.obj hR) ⟨rfl, by decide, by decide, (show (parseMethodDescriptor yX4_fails.desc).map (fun d => d.parameters.length) = some 2 by decide +kernel)⟩ rfl (Nat.le_of_ble_eq_true rfl) (by rw [hRm]; decide) (by rw [hRm]; exact ⟨Nat.le_of_ble_eq_true rfl, Nat.le_of_ble_eq_true rfl⟩) (fun v2 M2 h2 => ?_) (fun _ _ h9 => by cases h9.1)
    obtain ⟨e2, hR2, hF2⟩ := h2
    have e2 : (Sum.inl v2 : Res) = rI 0 := e2
    cases e2
    refine g_if_eq (tgt := 25) X dX4_setQuorum_20 (by decide) (fun c3 => ?_) (fun c3 => absurd c3 (by decide))
    refine g_aload_n X dX4_setQuorum_25 rfl 0 rfl ?_
    refine g_callV (As := []) (ci := 4) X dX4_setQuorum_26 (c_X4_change κ.l hl κ.Γ M2 a (hsc u 0 0) hR2 hk) k1168 k1170 kp16 k5 k1171 rfl (MRep.obj hR2) ⟨rfl, by decide, by decide, (show (parseMethodDescriptor yX4_change.desc).map (fun d => d.parameters.length) = some 0 by decide +kernel)⟩ rfl (Nat.le_of_ble_eq_true rfl) (by rw [hRm]; decide) (by rw [hRm]; exact ⟨Nat.le_of_ble_eq_true rfl, Nat.le_of_ble_eq_true rfl⟩) (fun v4 M4 h4 => ?_) (fun _ _ h9 => by cases h9.1)
    obtain ⟨e4, hR4, hF4⟩ := h4
    have e4 : (Sum.inl v4 : Res) = .inl none := e4
    cases e4
    have hR4 : MRep κ.Γ a (mChg (hsc u 0 0)) M4 := hR4
    have hF4 := Fr.tr hF2 hF4
    refine g_aload_n X dX4_setQuorum_29 rfl 0 rfl ?_
    refine g_get X dX4_setQuorum_30 (ci := 4) (k := 1) (v := .ref (a 1)) rfl k1090 (by decide) rfl (MRep.obj hR4) rfl ?_
    refine g_iconst (v := 3) X dX4_setQuorum_33 (by decide) ?_
    refine g_iald (b := 3) X dX4_setQuorum_34 (MRep.row hR4 1 (by decide) (by decide)) (by omega) (by decide) ?_
    refine g_istore_n (L' := [(2, .int ((mChg (hsc u 0 0)).2.1 1 3)), (0, .ref (a 0)), (1, .int n)]) X dX4_setQuorum_35 rfl (by rw [hnL]; decide) rfl ?_
    refine g_aload_n X dX4_setQuorum_36 rfl 1 rfl ?_
    refine g_get X dX4_setQuorum_37 (ci := 4) (k := 1) (v := .ref (a 1)) rfl k1090 (by decide) rfl (MRep.obj hR4) rfl ?_
    refine g_iconst (v := 3) X dX4_setQuorum_40 (by decide) ?_
    refine g_iload_n X dX4_setQuorum_41 rfl 2 rfl ?_
    refine g_iast (b := 3) X dX4_setQuorum_42 (MRep.row hR4 1 (by decide) (by decide)) (by omega) (by decide) ?_
    refine g_gen (P := fun M9 => MRep κ.Γ a (hset (mChg (hsc u 0 0)) 1 3 n) M9 ∧ Fr a 15 M M9) ⟨MRep.ar hR4 1 (by decide) (by decide) _ rfl rfl, Fr.tr hF4 (Fr.up (by decide))⟩ (fun M5 ⟨hR6, hF7⟩ => ?_)
    refine g_iload_n X dX4_setQuorum_43 rfl 0 rfl ?_
    exact g_iret X F dX4_setQuorum_44 (by omega) (by omega) (by unfold mSetQuorum; exact (MMu.n (by first | exact c1 | exact fun q => q c1 | exact fun q => c1 q | exact Classical.not_not.mp c1) ⟨rfl, hR6, hF7⟩))
  · refine g_iconst (v := 1) X dX4_setQuorum_12 (by decide) ?_
    refine g_goto (tgt := 17) X dX4_setQuorum_13 (by decide) ?_
    refine g_callV (As := [.int 1, .int 1]) (ci := 4) X dX4_setQuorum_17 (c_X4_fails1 κ.l hl κ.Γ M a u hR 1) k1164 k1166 kp15 k5 k1167 rfl (MRep.obj hR) ⟨rfl, by decide, by decide, (show (parseMethodDescriptor yX4_fails.desc).map (fun d => d.parameters.length) = some 2 by decide +kernel)⟩ rfl (Nat.le_of_ble_eq_true rfl) (by rw [hRm]; decide) (by rw [hRm]; exact ⟨Nat.le_of_ble_eq_true rfl, Nat.le_of_ble_eq_true rfl⟩) (fun v8 M8 h8 => ?_) (fun _ _ h9 => by cases h9.1)
    obtain ⟨e8, hR8, hF8⟩ := h8
    have e8 : (Sum.inl v8 : Res) = rI 1 := e8
    cases e8
    refine g_if_eq (tgt := 25) X dX4_setQuorum_20 (by decide) (fun c9 => absurd c9 (by decide)) (fun c9 => ?_)
    refine g_iconst (v := 0) X dX4_setQuorum_23 (by decide) ?_
    exact g_iret X F dX4_setQuorum_24 (by omega) (by omega) (by unfold mSetQuorum; exact (MMu.y (by first | exact c1 | exact fun q => q c1 | exact fun q => c1 q | exact Classical.not_not.mp c1) ⟨rfl, hR8, hF8⟩))
noncomputable def mIntroduce (u : HV) (x : Int32) (f : Int32) (la : Int32) : Res × HV := mG (¬ isM u x ∨ ¬ btw f 0 63 ∨ ¬ btw la 0 63) 1 zI u (mG (¬ f ≤ la) 2 zI u (mG (u.2.1 1 1 = 8) 3 zI u (mG (¬ prs u x) 4 zI u ((rI ((uC u).2.1 1 1), sBrg (uC u) f la)))))
set_option maxRecDepth 100000 in
set_option maxHeartbeats 4000000 in
theorem c_X4_introduce (l : Launch) (hl : l.stackTraces = false) (Γ : Gm) (M : Hp) (a : Nat → Nat) (u : HV) (hR : MRep Γ a u M) (x : Int32) (f : Int32) (la : Int32) (hi : RInv (u.2.1 1)) (hk : KInv u) : Ct l Γ yX4_introduce cX4_introduce 6 (some .int) 3 0 0 [.ref (a 0), .int x, .int f, .int la] M (MMu Γ a (mIntroduce u x f la) M) := by
  refine Ct.of hl (by decide) (Nat.le_of_ble_eq_true rfl) rfl ?_
  intro κ e1 e2 hnL hRm X F hlt
  subst e1 e2
  refine g_aload_n X dX4_introduce_0 rfl 0 rfl ?_
  refine g_iconst (v := 1) X dX4_introduce_1 (by decide) ?_
  refine g_aload_n X dX4_introduce_2 rfl 0 rfl ?_
  refine g_iload_n X dX4_introduce_3 rfl 1 rfl ?_
  refine g_callV_rd (As := [.int x]) (ci := 4) (v := some (.int (bI (btw x 0 (u.2.1 1 0 - 1))))) X dX4_introduce_4 (c_X4_isMember κ.l hl κ.Γ M a u hR x) k1183 k1185 kp18 k5 k1186 rfl (MRep.obj hR) ⟨rfl, by decide, by decide, (show (parseMethodDescriptor yX4_isMember.desc).map (fun d => d.parameters.length) = some 1 by decide +kernel)⟩ rfl (Nat.le_of_ble_eq_true rfl) (by rw [hRm]; decide) (by rw [hRm]; exact ⟨Nat.le_of_ble_eq_true rfl, Nat.le_of_ble_eq_true rfl⟩) ?_
  refine g_ifb_eq (tgt := 24) X dX4_introduce_7 (by decide) (fun c1 => ?_) (fun c1 => ?_)
  · refine g_iconst (v := 1) X dX4_introduce_24 (by decide) ?_
    refine g_goto (tgt := 29) X dX4_introduce_25 (by decide) ?_
    refine g_callV (As := [.int 1, .int 1]) (ci := 4) X dX4_introduce_29 (c_X4_fails1 κ.l hl κ.Γ M a u hR 1) k1164 k1166 kp15 k5 k1167 rfl (MRep.obj hR) ⟨rfl, by decide, by decide, (show (parseMethodDescriptor yX4_fails.desc).map (fun d => d.parameters.length) = some 2 by decide +kernel)⟩ rfl (Nat.le_of_ble_eq_true rfl) (by rw [hRm]; decide) (by rw [hRm]; exact ⟨Nat.le_of_ble_eq_true rfl, Nat.le_of_ble_eq_true rfl⟩) (fun v2 M2 h2 => ?_) (fun _ _ h9 => by cases h9.1)
    obtain ⟨e2, hR2, hF2⟩ := h2
    have e2 : (Sum.inl v2 : Res) = rI 1 := e2
    cases e2
    refine g_if_ne (tgt := 98) X dX4_introduce_32 (by decide) (fun c3 => ?_) (fun c3 => absurd c3 (by decide))
    refine g_iconst (v := 0) X dX4_introduce_98 (by decide) ?_
    exact g_iret X F dX4_introduce_99 (by omega) (by omega) (by unfold mIntroduce; exact (MMu.y (Or.inl (by first | exact c1 | exact fun q => q c1 | exact fun q => c1 q | exact Classical.not_not.mp c1)) ⟨rfl, hR2, hF2⟩))
  · refine g_iload_n X dX4_introduce_10 rfl 2 rfl ?_
    refine g_callS_rd (As := [.int f]) (v := some (.int (bI (btw f 0 63)))) X dX4_introduce_11 (c_X4_isClause κ.l hl κ.Γ M f) k1252 k1253 k5 k1254 ⟨by decide, by decide, (show (parseMethodDescriptor yX4_isClause.desc).map (fun d => d.parameters.length) = some 1 by decide +kernel)⟩ rfl (Nat.le_of_ble_eq_true rfl) (by rw [hRm]; decide) (by rw [hRm]; exact ⟨Nat.le_of_ble_eq_true rfl, Nat.le_of_ble_eq_true rfl⟩) ?_
    refine g_ifb_eq (tgt := 24) X dX4_introduce_14 (by decide) (fun c4 => ?_) (fun c4 => ?_)
    · refine g_iconst (v := 1) X dX4_introduce_24 (by decide) ?_
      refine g_goto (tgt := 29) X dX4_introduce_25 (by decide) ?_
      refine g_callV (As := [.int 1, .int 1]) (ci := 4) X dX4_introduce_29 (c_X4_fails1 κ.l hl κ.Γ M a u hR 1) k1164 k1166 kp15 k5 k1167 rfl (MRep.obj hR) ⟨rfl, by decide, by decide, (show (parseMethodDescriptor yX4_fails.desc).map (fun d => d.parameters.length) = some 2 by decide +kernel)⟩ rfl (Nat.le_of_ble_eq_true rfl) (by rw [hRm]; decide) (by rw [hRm]; exact ⟨Nat.le_of_ble_eq_true rfl, Nat.le_of_ble_eq_true rfl⟩) (fun v5 M5 h5 => ?_) (fun _ _ h9 => by cases h9.1)
      obtain ⟨e5, hR5, hF5⟩ := h5
      have e5 : (Sum.inl v5 : Res) = rI 1 := e5
      cases e5
      refine g_if_ne (tgt := 98) X dX4_introduce_32 (by decide) (fun c6 => ?_) (fun c6 => absurd c6 (by decide))
      refine g_iconst (v := 0) X dX4_introduce_98 (by decide) ?_
      exact g_iret X F dX4_introduce_99 (by omega) (by omega) (by unfold mIntroduce; exact (MMu.y (Or.inr (Or.inl (by first | exact c4 | exact fun q => q c4 | exact fun q => c4 q | exact Classical.not_not.mp c4))) ⟨rfl, hR5, hF5⟩))
    · refine g_iload_n X dX4_introduce_17 rfl 3 rfl ?_
      refine g_callS_rd (As := [.int la]) (v := some (.int (bI (btw la 0 63)))) X dX4_introduce_18 (c_X4_isClause κ.l hl κ.Γ M la) k1252 k1253 k5 k1254 ⟨by decide, by decide, (show (parseMethodDescriptor yX4_isClause.desc).map (fun d => d.parameters.length) = some 1 by decide +kernel)⟩ rfl (Nat.le_of_ble_eq_true rfl) (by rw [hRm]; decide) (by rw [hRm]; exact ⟨Nat.le_of_ble_eq_true rfl, Nat.le_of_ble_eq_true rfl⟩) ?_
      refine g_ifb_ne (tgt := 28) X dX4_introduce_21 (by decide) (fun c7 => ?_) (fun c7 => ?_)
      · refine g_iconst (v := 0) X dX4_introduce_28 (by decide) ?_
        refine g_callV (As := [.int 1, .int 0]) (ci := 4) X dX4_introduce_29 (c_X4_fails0 κ.l hl κ.Γ M a u hR 1) k1164 k1166 kp15 k5 k1167 rfl (MRep.obj hR) ⟨rfl, by decide, by decide, (show (parseMethodDescriptor yX4_fails.desc).map (fun d => d.parameters.length) = some 2 by decide +kernel)⟩ rfl (Nat.le_of_ble_eq_true rfl) (by rw [hRm]; decide) (by rw [hRm]; exact ⟨Nat.le_of_ble_eq_true rfl, Nat.le_of_ble_eq_true rfl⟩) (fun v8 M8 h8 => ?_) (fun _ _ h9 => by cases h9.1)
        obtain ⟨e8, hR8, hF8⟩ := h8
        have e8 : (Sum.inl v8 : Res) = rI 0 := e8
        cases e8
        obtain ⟨f9, hf9, hcf9, rfl⟩ := btw_natC c4
        obtain ⟨la9, hla9, hcla9, rfl⟩ := btw_natC c7
        refine g_if_ne (tgt := 98) X dX4_introduce_32 (by decide) (fun c9 => absurd c9 (by decide)) (fun c9 => ?_)
        refine g_aload_n X dX4_introduce_35 rfl 0 rfl ?_
        refine g_iconst (v := 2) X dX4_introduce_36 (by decide) ?_
        refine g_iload_n X dX4_introduce_37 rfl 2 rfl ?_
        refine g_iload_n X dX4_introduce_38 rfl 3 rfl ?_
        refine g_icmp_le (tgt := 46) X dX4_introduce_39 (by decide) (fun c10 => ?_) (fun c10 => ?_)
        · refine g_iconst (v := 0) X dX4_introduce_46 (by decide) ?_
          refine g_callV (As := [.int 2, .int 0]) (ci := 4) X dX4_introduce_47 (c_X4_fails0 κ.l hl κ.Γ M8 a (hsc u 0 0) hR8 2) k1164 k1166 kp15 k5 k1167 rfl (MRep.obj hR8) ⟨rfl, by decide, by decide, (show (parseMethodDescriptor yX4_fails.desc).map (fun d => d.parameters.length) = some 2 by decide +kernel)⟩ rfl (Nat.le_of_ble_eq_true rfl) (by rw [hRm]; decide) (by rw [hRm]; exact ⟨Nat.le_of_ble_eq_true rfl, Nat.le_of_ble_eq_true rfl⟩) (fun v11 M11 h11 => ?_) (fun _ _ h9 => by cases h9.1)
          obtain ⟨e11, hR11, hF11⟩ := h11
          have e11 : (Sum.inl v11 : Res) = rI 0 := e11
          cases e11
          have hR11 : MRep κ.Γ a (hsc u 0 0) M11 := by rw [← hsc_hsc (x := 0)]; exact hR11
          have hF11 := Fr.tr hF8 hF11
          refine g_if_ne (tgt := 98) X dX4_introduce_50 (by decide) (fun c12 => absurd c12 (by decide)) (fun c12 => ?_)
          refine g_aload_n X dX4_introduce_53 rfl 0 rfl ?_
          refine g_iconst (v := 3) X dX4_introduce_54 (by decide) ?_
          refine g_aload_n X dX4_introduce_55 rfl 0 rfl ?_
          refine g_get X dX4_introduce_56 (ci := 4) (k := 1) (v := .ref (a 1)) rfl k1090 (by decide) rfl (MRep.obj hR11) rfl ?_
          refine g_iconst (v := 1) X dX4_introduce_59 (by decide) ?_
          refine g_iald (b := 1) X dX4_introduce_60 (MRep.row hR11 1 (by decide) (by decide)) (by omega) (by decide) ?_
          refine g_bipush (v := 8) X dX4_introduce_61 (by decide) ?_
          refine g_icmp_ne (tgt := 70) X dX4_introduce_63 (by decide) (fun c13 => ?_) (fun c13 => ?_)
          · refine g_iconst (v := 0) X dX4_introduce_70 (by decide) ?_
            refine g_callV (As := [.int 3, .int 0]) (ci := 4) X dX4_introduce_71 (c_X4_fails0 κ.l hl κ.Γ M11 a (hsc u 0 0) hR11 3) k1164 k1166 kp15 k5 k1167 rfl (MRep.obj hR11) ⟨rfl, by decide, by decide, (show (parseMethodDescriptor yX4_fails.desc).map (fun d => d.parameters.length) = some 2 by decide +kernel)⟩ rfl (Nat.le_of_ble_eq_true rfl) (by rw [hRm]; decide) (by rw [hRm]; exact ⟨Nat.le_of_ble_eq_true rfl, Nat.le_of_ble_eq_true rfl⟩) (fun v14 M14 h14 => ?_) (fun _ _ h9 => by cases h9.1)
            obtain ⟨e14, hR14, hF14⟩ := h14
            have e14 : (Sum.inl v14 : Res) = rI 0 := e14
            cases e14
            have hR14 : MRep κ.Γ a (hsc u 0 0) M14 := by rw [← hsc_hsc (x := 0)]; exact hR14
            have hF14 := Fr.tr hF11 hF14
            refine g_if_ne (tgt := 98) X dX4_introduce_74 (by decide) (fun c15 => absurd c15 (by decide)) (fun c15 => ?_)
            refine g_aload_n X dX4_introduce_77 rfl 0 rfl ?_
            refine g_iconst (v := 4) X dX4_introduce_78 (by decide) ?_
            refine g_aload_n X dX4_introduce_79 rfl 0 rfl ?_
            refine g_iload_n X dX4_introduce_80 rfl 1 rfl ?_
            refine g_callV_rd (As := [.int x]) (ci := 4) (v := some (.int (bI (shr (u.2.1 1 2) x &&& 1 = 1)))) X dX4_introduce_81 (c_X4_present κ.l hl κ.Γ M14 a (hsc u 0 0) hR14 x) k1187 k1189 kp19 k5 k1190 rfl (MRep.obj hR14) ⟨rfl, by decide, by decide, (show (parseMethodDescriptor yX4_present.desc).map (fun d => d.parameters.length) = some 1 by decide +kernel)⟩ rfl (Nat.le_of_ble_eq_true rfl) (by rw [hRm]; decide) (by rw [hRm]; exact ⟨Nat.le_of_ble_eq_true rfl, Nat.le_of_ble_eq_true rfl⟩) ?_
            refine g_ifb_ne (tgt := 91) X dX4_introduce_84 (by decide) (fun c16 => ?_) (fun c16 => ?_)
            · refine g_iconst (v := 0) X dX4_introduce_91 (by decide) ?_
              refine g_callV (As := [.int 4, .int 0]) (ci := 4) X dX4_introduce_92 (c_X4_fails0 κ.l hl κ.Γ M14 a (hsc u 0 0) hR14 4) k1164 k1166 kp15 k5 k1167 rfl (MRep.obj hR14) ⟨rfl, by decide, by decide, (show (parseMethodDescriptor yX4_fails.desc).map (fun d => d.parameters.length) = some 2 by decide +kernel)⟩ rfl (Nat.le_of_ble_eq_true rfl) (by rw [hRm]; decide) (by rw [hRm]; exact ⟨Nat.le_of_ble_eq_true rfl, Nat.le_of_ble_eq_true rfl⟩) (fun v17 M17 h17 => ?_) (fun _ _ h9 => by cases h9.1)
              obtain ⟨e17, hR17, hF17⟩ := h17
              have e17 : (Sum.inl v17 : Res) = rI 0 := e17
              cases e17
              have hR17 : MRep κ.Γ a (hsc u 0 0) M17 := by rw [← hsc_hsc (x := 0)]; exact hR17
              have hF17 := Fr.tr hF14 hF17
              refine g_if_eq (tgt := 100) X dX4_introduce_95 (by decide) (fun c18 => ?_) (fun c18 => absurd c18 (by decide))
              obtain ⟨B, hB24, eB⟩ := hi.2.1
              have hB : B < 8 := by have h9 : ¬ B = 8 := fun z => c13 (by show u.2.1 1 1 = 8; rw [eB, z]; rfl); omega
              have eC : (uC u).2.1 1 1 = nI B := by rw [uC_now]; exact eB
              have hcB : cN (nI B) = B := cN_nI (by omega)
              have hfl : f9 ≤ la9 := nI_leS (by omega) (by omega) c10
              refine g_aload_n X dX4_introduce_100 rfl 0 rfl ?_
              refine g_callV (As := []) (ci := 4) X dX4_introduce_101 (c_X4_change κ.l hl κ.Γ M17 a (hsc u 0 0) hR17 hk) k1168 k1170 kp16 k5 k1171 rfl (MRep.obj hR17) ⟨rfl, by decide, by decide, (show (parseMethodDescriptor yX4_change.desc).map (fun d => d.parameters.length) = some 0 by decide +kernel)⟩ rfl (Nat.le_of_ble_eq_true rfl) (by rw [hRm]; decide) (by rw [hRm]; exact ⟨Nat.le_of_ble_eq_true rfl, Nat.le_of_ble_eq_true rfl⟩) (fun v19 M19 h19 => ?_) (fun _ _ h9 => by cases h9.1)
              obtain ⟨e19, hR19, hF19⟩ := h19
              have e19 : (Sum.inl v19 : Res) = .inl none := e19
              cases e19
              have hR19 : MRep κ.Γ a (mChg (hsc u 0 0)) M19 := hR19
              have hF19 := Fr.tr hF17 hF19
              refine g_aload_n X dX4_introduce_104 rfl 0 rfl ?_
              refine g_get X dX4_introduce_105 (ci := 4) (k := 1) (v := .ref (a 1)) rfl k1090 (by decide) rfl (MRep.obj hR19) rfl ?_
              refine g_iconst (v := 1) X dX4_introduce_108 (by decide) ?_
              refine g_iald (b := 1) X dX4_introduce_109 (MRep.row hR19 1 (by decide) (by decide)) (by omega) (by decide) ?_
              refine g_lit (nI B) eC ?_
              refine g_istore (L' := [(4, .int (nI B)), (0, .ref (a 0)), (1, .int x), (2, .int (nI f9)), (3, .int (nI la9))]) X dX4_introduce_110 (by rw [hnL]; decide) rfl ?_
              refine g_aload_n X dX4_introduce_112 rfl 1 rfl ?_
              refine g_get X dX4_introduce_113 (ci := 4) (k := 1) (v := .ref (a 1)) rfl k1090 (by decide) rfl (MRep.obj hR19) rfl ?_
              refine g_iconst (v := 1) X dX4_introduce_116 (by decide) ?_
              refine g_dup2 X dX4_introduce_117 rfl rfl ?_
              refine g_iald (b := 1) X dX4_introduce_118 (MRep.row hR19 1 (by decide) (by decide)) (by omega) (by decide) ?_
              refine g_lit (nI B) eC ?_
              refine g_iconst (v := 1) X dX4_introduce_119 (by decide) ?_
              refine g_iadd X dX4_introduce_120 ?_
              refine g_lit (nI (B + 1)) (nI_addJ B 1) ?_
              refine g_iast (b := 1) X dX4_introduce_121 (MRep.row hR19 1 (by decide) (by decide)) (by omega) (by decide) ?_
              refine g_gen (P := fun M9 => MRep κ.Γ a (hset (mChg (hsc u 0 0)) 1 1 (nI (B + 1))) M9 ∧ Fr a 15 M M9) ⟨MRep.ar hR19 1 (by decide) (by decide) _ rfl rfl, Fr.tr hF19 (Fr.up (by decide))⟩ (fun M20 ⟨hR21, hF22⟩ => ?_)
              refine g_iconst (v := 0) X dX4_introduce_122 (by decide) ?_
              refine g_istore (L' := [(5, .int 0), (4, .int (nI B)), (0, .ref (a 0)), (1, .int x), (2, .int (nI f9)), (3, .int (nI la9))]) X dX4_introduce_123 (by rw [hnL]; decide) rfl ?_
              have hR23 : MRep κ.Γ a (sClr (hset (uC u) 1 1 (nI (B + 1))) B 0) M20 := hR21
              refine g_iload X dX4_introduce_125 0 rfl ?_
              refine g_bipush (v := 16) X dX4_introduce_127 (by decide) ?_
              refine g_icmp_ge (tgt := 147) X dX4_introduce_129 (by decide) (fun c24 => absurd c24 (by decide)) (fun c24 => ?_)
              refine g_aload_n X dX4_introduce_132 rfl 2 rfl ?_
              refine g_iload X dX4_introduce_133 1 rfl ?_
              refine g_iload X dX4_introduce_135 0 rfl ?_
              refine g_iconst (v := 0) X dX4_introduce_137 (by decide) ?_
              refine g_callV (As := [.int (nI B), .int 0, .int 0]) (ci := 4) X dX4_introduce_138 (c_X4_put κ.l hl κ.Γ M20 a (sClr (hset (uC u) 1 1 (nI (B + 1))) B 0) hR23 B 0 0 (by omega) (by omega)) k1255 k1257 kp23 k5 k1258 rfl (MRep.obj hR23) ⟨rfl, by decide, by decide, (show (parseMethodDescriptor yX4_put.desc).map (fun d => d.parameters.length) = some 3 by decide +kernel)⟩ rfl (Nat.le_of_ble_eq_true rfl) (by rw [hRm]; decide) (by rw [hRm]; exact ⟨Nat.le_of_ble_eq_true rfl, Nat.le_of_ble_eq_true rfl⟩) (fun v25 M25 h25 => ?_) (fun _ _ h9 => by cases h9.1)
              obtain ⟨e25, hR25, hF25⟩ := h25
              have e25 : (Sum.inl v25 : Res) = .inl none := e25
              cases e25
              have hR25 : MRep κ.Γ a (rPut (sClr (hset (uC u) 1 1 (nI (B + 1))) B 0) B 0 0) M25 := hR25
              have hF25 := Fr.tr hF22 hF25
              refine g_iinc (k := 0) (v := 1) (L' := [(5, .int 1), (4, .int (nI B)), (0, .ref (a 0)), (1, .int x), (2, .int (nI f9)), (3, .int (nI la9))]) X dX4_introduce_141 rfl (by decide) (by rw [hnL]; decide) rfl ?_
              refine g_goto (tgt := 125) X dX4_introduce_144 (by decide) ?_
              have hR26 : MRep κ.Γ a (sClr (hset (uC u) 1 1 (nI (B + 1))) B 1) M25 := hR25
              refine g_iload X dX4_introduce_125 0 rfl ?_
              refine g_bipush (v := 16) X dX4_introduce_127 (by decide) ?_
              refine g_icmp_ge (tgt := 147) X dX4_introduce_129 (by decide) (fun c27 => absurd c27 (by decide)) (fun c27 => ?_)
              refine g_aload_n X dX4_introduce_132 rfl 2 rfl ?_
              refine g_iload X dX4_introduce_133 1 rfl ?_
              refine g_iload X dX4_introduce_135 0 rfl ?_
              refine g_iconst (v := 0) X dX4_introduce_137 (by decide) ?_
              refine g_callV (As := [.int (nI B), .int 1, .int 0]) (ci := 4) X dX4_introduce_138 (c_X4_put κ.l hl κ.Γ M25 a (sClr (hset (uC u) 1 1 (nI (B + 1))) B 1) hR26 B 1 0 (by omega) (by omega)) k1255 k1257 kp23 k5 k1258 rfl (MRep.obj hR26) ⟨rfl, by decide, by decide, (show (parseMethodDescriptor yX4_put.desc).map (fun d => d.parameters.length) = some 3 by decide +kernel)⟩ rfl (Nat.le_of_ble_eq_true rfl) (by rw [hRm]; decide) (by rw [hRm]; exact ⟨Nat.le_of_ble_eq_true rfl, Nat.le_of_ble_eq_true rfl⟩) (fun v28 M28 h28 => ?_) (fun _ _ h9 => by cases h9.1)
              obtain ⟨e28, hR28, hF28⟩ := h28
              have e28 : (Sum.inl v28 : Res) = .inl none := e28
              cases e28
              have hR28 : MRep κ.Γ a (rPut (sClr (hset (uC u) 1 1 (nI (B + 1))) B 1) B 1 0) M28 := hR28
              have hF28 := Fr.tr hF25 hF28
              refine g_iinc (k := 0) (v := 2) (L' := [(5, .int 2), (4, .int (nI B)), (0, .ref (a 0)), (1, .int x), (2, .int (nI f9)), (3, .int (nI la9))]) X dX4_introduce_141 rfl (by decide) (by rw [hnL]; decide) rfl ?_
              refine g_goto (tgt := 125) X dX4_introduce_144 (by decide) ?_
              have hR29 : MRep κ.Γ a (sClr (hset (uC u) 1 1 (nI (B + 1))) B 2) M28 := hR28
              refine g_iload X dX4_introduce_125 0 rfl ?_
              refine g_bipush (v := 16) X dX4_introduce_127 (by decide) ?_
              refine g_icmp_ge (tgt := 147) X dX4_introduce_129 (by decide) (fun c30 => absurd c30 (by decide)) (fun c30 => ?_)
              refine g_aload_n X dX4_introduce_132 rfl 2 rfl ?_
              refine g_iload X dX4_introduce_133 1 rfl ?_
              refine g_iload X dX4_introduce_135 0 rfl ?_
              refine g_iconst (v := 0) X dX4_introduce_137 (by decide) ?_
              refine g_callV (As := [.int (nI B), .int 2, .int 0]) (ci := 4) X dX4_introduce_138 (c_X4_put κ.l hl κ.Γ M28 a (sClr (hset (uC u) 1 1 (nI (B + 1))) B 2) hR29 B 2 0 (by omega) (by omega)) k1255 k1257 kp23 k5 k1258 rfl (MRep.obj hR29) ⟨rfl, by decide, by decide, (show (parseMethodDescriptor yX4_put.desc).map (fun d => d.parameters.length) = some 3 by decide +kernel)⟩ rfl (Nat.le_of_ble_eq_true rfl) (by rw [hRm]; decide) (by rw [hRm]; exact ⟨Nat.le_of_ble_eq_true rfl, Nat.le_of_ble_eq_true rfl⟩) (fun v31 M31 h31 => ?_) (fun _ _ h9 => by cases h9.1)
              obtain ⟨e31, hR31, hF31⟩ := h31
              have e31 : (Sum.inl v31 : Res) = .inl none := e31
              cases e31
              have hR31 : MRep κ.Γ a (rPut (sClr (hset (uC u) 1 1 (nI (B + 1))) B 2) B 2 0) M31 := hR31
              have hF31 := Fr.tr hF28 hF31
              refine g_iinc (k := 0) (v := 3) (L' := [(5, .int 3), (4, .int (nI B)), (0, .ref (a 0)), (1, .int x), (2, .int (nI f9)), (3, .int (nI la9))]) X dX4_introduce_141 rfl (by decide) (by rw [hnL]; decide) rfl ?_
              refine g_goto (tgt := 125) X dX4_introduce_144 (by decide) ?_
              have hR32 : MRep κ.Γ a (sClr (hset (uC u) 1 1 (nI (B + 1))) B 3) M31 := hR31
              refine g_iload X dX4_introduce_125 0 rfl ?_
              refine g_bipush (v := 16) X dX4_introduce_127 (by decide) ?_
              refine g_icmp_ge (tgt := 147) X dX4_introduce_129 (by decide) (fun c33 => absurd c33 (by decide)) (fun c33 => ?_)
              refine g_aload_n X dX4_introduce_132 rfl 2 rfl ?_
              refine g_iload X dX4_introduce_133 1 rfl ?_
              refine g_iload X dX4_introduce_135 0 rfl ?_
              refine g_iconst (v := 0) X dX4_introduce_137 (by decide) ?_
              refine g_callV (As := [.int (nI B), .int 3, .int 0]) (ci := 4) X dX4_introduce_138 (c_X4_put κ.l hl κ.Γ M31 a (sClr (hset (uC u) 1 1 (nI (B + 1))) B 3) hR32 B 3 0 (by omega) (by omega)) k1255 k1257 kp23 k5 k1258 rfl (MRep.obj hR32) ⟨rfl, by decide, by decide, (show (parseMethodDescriptor yX4_put.desc).map (fun d => d.parameters.length) = some 3 by decide +kernel)⟩ rfl (Nat.le_of_ble_eq_true rfl) (by rw [hRm]; decide) (by rw [hRm]; exact ⟨Nat.le_of_ble_eq_true rfl, Nat.le_of_ble_eq_true rfl⟩) (fun v34 M34 h34 => ?_) (fun _ _ h9 => by cases h9.1)
              obtain ⟨e34, hR34, hF34⟩ := h34
              have e34 : (Sum.inl v34 : Res) = .inl none := e34
              cases e34
              have hR34 : MRep κ.Γ a (rPut (sClr (hset (uC u) 1 1 (nI (B + 1))) B 3) B 3 0) M34 := hR34
              have hF34 := Fr.tr hF31 hF34
              refine g_iinc (k := 0) (v := 4) (L' := [(5, .int 4), (4, .int (nI B)), (0, .ref (a 0)), (1, .int x), (2, .int (nI f9)), (3, .int (nI la9))]) X dX4_introduce_141 rfl (by decide) (by rw [hnL]; decide) rfl ?_
              refine g_goto (tgt := 125) X dX4_introduce_144 (by decide) ?_
              have hR35 : MRep κ.Γ a (sClr (hset (uC u) 1 1 (nI (B + 1))) B 4) M34 := hR34
              refine g_iload X dX4_introduce_125 0 rfl ?_
              refine g_bipush (v := 16) X dX4_introduce_127 (by decide) ?_
              refine g_icmp_ge (tgt := 147) X dX4_introduce_129 (by decide) (fun c36 => absurd c36 (by decide)) (fun c36 => ?_)
              refine g_aload_n X dX4_introduce_132 rfl 2 rfl ?_
              refine g_iload X dX4_introduce_133 1 rfl ?_
              refine g_iload X dX4_introduce_135 0 rfl ?_
              refine g_iconst (v := 0) X dX4_introduce_137 (by decide) ?_
              refine g_callV (As := [.int (nI B), .int 4, .int 0]) (ci := 4) X dX4_introduce_138 (c_X4_put κ.l hl κ.Γ M34 a (sClr (hset (uC u) 1 1 (nI (B + 1))) B 4) hR35 B 4 0 (by omega) (by omega)) k1255 k1257 kp23 k5 k1258 rfl (MRep.obj hR35) ⟨rfl, by decide, by decide, (show (parseMethodDescriptor yX4_put.desc).map (fun d => d.parameters.length) = some 3 by decide +kernel)⟩ rfl (Nat.le_of_ble_eq_true rfl) (by rw [hRm]; decide) (by rw [hRm]; exact ⟨Nat.le_of_ble_eq_true rfl, Nat.le_of_ble_eq_true rfl⟩) (fun v37 M37 h37 => ?_) (fun _ _ h9 => by cases h9.1)
              obtain ⟨e37, hR37, hF37⟩ := h37
              have e37 : (Sum.inl v37 : Res) = .inl none := e37
              cases e37
              have hR37 : MRep κ.Γ a (rPut (sClr (hset (uC u) 1 1 (nI (B + 1))) B 4) B 4 0) M37 := hR37
              have hF37 := Fr.tr hF34 hF37
              refine g_iinc (k := 0) (v := 5) (L' := [(5, .int 5), (4, .int (nI B)), (0, .ref (a 0)), (1, .int x), (2, .int (nI f9)), (3, .int (nI la9))]) X dX4_introduce_141 rfl (by decide) (by rw [hnL]; decide) rfl ?_
              refine g_goto (tgt := 125) X dX4_introduce_144 (by decide) ?_
              have hR38 : MRep κ.Γ a (sClr (hset (uC u) 1 1 (nI (B + 1))) B 5) M37 := hR37
              refine g_iload X dX4_introduce_125 0 rfl ?_
              refine g_bipush (v := 16) X dX4_introduce_127 (by decide) ?_
              refine g_icmp_ge (tgt := 147) X dX4_introduce_129 (by decide) (fun c39 => absurd c39 (by decide)) (fun c39 => ?_)
              refine g_aload_n X dX4_introduce_132 rfl 2 rfl ?_
              refine g_iload X dX4_introduce_133 1 rfl ?_
              refine g_iload X dX4_introduce_135 0 rfl ?_
              refine g_iconst (v := 0) X dX4_introduce_137 (by decide) ?_
              refine g_callV (As := [.int (nI B), .int 5, .int 0]) (ci := 4) X dX4_introduce_138 (c_X4_put κ.l hl κ.Γ M37 a (sClr (hset (uC u) 1 1 (nI (B + 1))) B 5) hR38 B 5 0 (by omega) (by omega)) k1255 k1257 kp23 k5 k1258 rfl (MRep.obj hR38) ⟨rfl, by decide, by decide, (show (parseMethodDescriptor yX4_put.desc).map (fun d => d.parameters.length) = some 3 by decide +kernel)⟩ rfl (Nat.le_of_ble_eq_true rfl) (by rw [hRm]; decide) (by rw [hRm]; exact ⟨Nat.le_of_ble_eq_true rfl, Nat.le_of_ble_eq_true rfl⟩) (fun v40 M40 h40 => ?_) (fun _ _ h9 => by cases h9.1)
              obtain ⟨e40, hR40, hF40⟩ := h40
              have e40 : (Sum.inl v40 : Res) = .inl none := e40
              cases e40
              have hR40 : MRep κ.Γ a (rPut (sClr (hset (uC u) 1 1 (nI (B + 1))) B 5) B 5 0) M40 := hR40
              have hF40 := Fr.tr hF37 hF40
              refine g_iinc (k := 0) (v := 6) (L' := [(5, .int 6), (4, .int (nI B)), (0, .ref (a 0)), (1, .int x), (2, .int (nI f9)), (3, .int (nI la9))]) X dX4_introduce_141 rfl (by decide) (by rw [hnL]; decide) rfl ?_
              refine g_goto (tgt := 125) X dX4_introduce_144 (by decide) ?_
              have hR41 : MRep κ.Γ a (sClr (hset (uC u) 1 1 (nI (B + 1))) B 6) M40 := hR40
              refine g_iload X dX4_introduce_125 0 rfl ?_
              refine g_bipush (v := 16) X dX4_introduce_127 (by decide) ?_
              refine g_icmp_ge (tgt := 147) X dX4_introduce_129 (by decide) (fun c42 => absurd c42 (by decide)) (fun c42 => ?_)
              refine g_aload_n X dX4_introduce_132 rfl 2 rfl ?_
              refine g_iload X dX4_introduce_133 1 rfl ?_
              refine g_iload X dX4_introduce_135 0 rfl ?_
              refine g_iconst (v := 0) X dX4_introduce_137 (by decide) ?_
              refine g_callV (As := [.int (nI B), .int 6, .int 0]) (ci := 4) X dX4_introduce_138 (c_X4_put κ.l hl κ.Γ M40 a (sClr (hset (uC u) 1 1 (nI (B + 1))) B 6) hR41 B 6 0 (by omega) (by omega)) k1255 k1257 kp23 k5 k1258 rfl (MRep.obj hR41) ⟨rfl, by decide, by decide, (show (parseMethodDescriptor yX4_put.desc).map (fun d => d.parameters.length) = some 3 by decide +kernel)⟩ rfl (Nat.le_of_ble_eq_true rfl) (by rw [hRm]; decide) (by rw [hRm]; exact ⟨Nat.le_of_ble_eq_true rfl, Nat.le_of_ble_eq_true rfl⟩) (fun v43 M43 h43 => ?_) (fun _ _ h9 => by cases h9.1)
              obtain ⟨e43, hR43, hF43⟩ := h43
              have e43 : (Sum.inl v43 : Res) = .inl none := e43
              cases e43
              have hR43 : MRep κ.Γ a (rPut (sClr (hset (uC u) 1 1 (nI (B + 1))) B 6) B 6 0) M43 := hR43
              have hF43 := Fr.tr hF40 hF43
              refine g_iinc (k := 0) (v := 7) (L' := [(5, .int 7), (4, .int (nI B)), (0, .ref (a 0)), (1, .int x), (2, .int (nI f9)), (3, .int (nI la9))]) X dX4_introduce_141 rfl (by decide) (by rw [hnL]; decide) rfl ?_
              refine g_goto (tgt := 125) X dX4_introduce_144 (by decide) ?_
              have hR44 : MRep κ.Γ a (sClr (hset (uC u) 1 1 (nI (B + 1))) B 7) M43 := hR43
              refine g_iload X dX4_introduce_125 0 rfl ?_
              refine g_bipush (v := 16) X dX4_introduce_127 (by decide) ?_
              refine g_icmp_ge (tgt := 147) X dX4_introduce_129 (by decide) (fun c45 => absurd c45 (by decide)) (fun c45 => ?_)
              refine g_aload_n X dX4_introduce_132 rfl 2 rfl ?_
              refine g_iload X dX4_introduce_133 1 rfl ?_
              refine g_iload X dX4_introduce_135 0 rfl ?_
              refine g_iconst (v := 0) X dX4_introduce_137 (by decide) ?_
              refine g_callV (As := [.int (nI B), .int 7, .int 0]) (ci := 4) X dX4_introduce_138 (c_X4_put κ.l hl κ.Γ M43 a (sClr (hset (uC u) 1 1 (nI (B + 1))) B 7) hR44 B 7 0 (by omega) (by omega)) k1255 k1257 kp23 k5 k1258 rfl (MRep.obj hR44) ⟨rfl, by decide, by decide, (show (parseMethodDescriptor yX4_put.desc).map (fun d => d.parameters.length) = some 3 by decide +kernel)⟩ rfl (Nat.le_of_ble_eq_true rfl) (by rw [hRm]; decide) (by rw [hRm]; exact ⟨Nat.le_of_ble_eq_true rfl, Nat.le_of_ble_eq_true rfl⟩) (fun v46 M46 h46 => ?_) (fun _ _ h9 => by cases h9.1)
              obtain ⟨e46, hR46, hF46⟩ := h46
              have e46 : (Sum.inl v46 : Res) = .inl none := e46
              cases e46
              have hR46 : MRep κ.Γ a (rPut (sClr (hset (uC u) 1 1 (nI (B + 1))) B 7) B 7 0) M46 := hR46
              have hF46 := Fr.tr hF43 hF46
              refine g_iinc (k := 0) (v := 8) (L' := [(5, .int 8), (4, .int (nI B)), (0, .ref (a 0)), (1, .int x), (2, .int (nI f9)), (3, .int (nI la9))]) X dX4_introduce_141 rfl (by decide) (by rw [hnL]; decide) rfl ?_
              refine g_goto (tgt := 125) X dX4_introduce_144 (by decide) ?_
              have hR47 : MRep κ.Γ a (sClr (hset (uC u) 1 1 (nI (B + 1))) B 8) M46 := hR46
              refine g_iload X dX4_introduce_125 0 rfl ?_
              refine g_bipush (v := 16) X dX4_introduce_127 (by decide) ?_
              refine g_icmp_ge (tgt := 147) X dX4_introduce_129 (by decide) (fun c48 => absurd c48 (by decide)) (fun c48 => ?_)
              refine g_aload_n X dX4_introduce_132 rfl 2 rfl ?_
              refine g_iload X dX4_introduce_133 1 rfl ?_
              refine g_iload X dX4_introduce_135 0 rfl ?_
              refine g_iconst (v := 0) X dX4_introduce_137 (by decide) ?_
              refine g_callV (As := [.int (nI B), .int 8, .int 0]) (ci := 4) X dX4_introduce_138 (c_X4_put κ.l hl κ.Γ M46 a (sClr (hset (uC u) 1 1 (nI (B + 1))) B 8) hR47 B 8 0 (by omega) (by omega)) k1255 k1257 kp23 k5 k1258 rfl (MRep.obj hR47) ⟨rfl, by decide, by decide, (show (parseMethodDescriptor yX4_put.desc).map (fun d => d.parameters.length) = some 3 by decide +kernel)⟩ rfl (Nat.le_of_ble_eq_true rfl) (by rw [hRm]; decide) (by rw [hRm]; exact ⟨Nat.le_of_ble_eq_true rfl, Nat.le_of_ble_eq_true rfl⟩) (fun v49 M49 h49 => ?_) (fun _ _ h9 => by cases h9.1)
              obtain ⟨e49, hR49, hF49⟩ := h49
              have e49 : (Sum.inl v49 : Res) = .inl none := e49
              cases e49
              have hR49 : MRep κ.Γ a (rPut (sClr (hset (uC u) 1 1 (nI (B + 1))) B 8) B 8 0) M49 := hR49
              have hF49 := Fr.tr hF46 hF49
              refine g_iinc (k := 0) (v := 9) (L' := [(5, .int 9), (4, .int (nI B)), (0, .ref (a 0)), (1, .int x), (2, .int (nI f9)), (3, .int (nI la9))]) X dX4_introduce_141 rfl (by decide) (by rw [hnL]; decide) rfl ?_
              refine g_goto (tgt := 125) X dX4_introduce_144 (by decide) ?_
              have hR50 : MRep κ.Γ a (sClr (hset (uC u) 1 1 (nI (B + 1))) B 9) M49 := hR49
              refine g_iload X dX4_introduce_125 0 rfl ?_
              refine g_bipush (v := 16) X dX4_introduce_127 (by decide) ?_
              refine g_icmp_ge (tgt := 147) X dX4_introduce_129 (by decide) (fun c51 => absurd c51 (by decide)) (fun c51 => ?_)
              refine g_aload_n X dX4_introduce_132 rfl 2 rfl ?_
              refine g_iload X dX4_introduce_133 1 rfl ?_
              refine g_iload X dX4_introduce_135 0 rfl ?_
              refine g_iconst (v := 0) X dX4_introduce_137 (by decide) ?_
              refine g_callV (As := [.int (nI B), .int 9, .int 0]) (ci := 4) X dX4_introduce_138 (c_X4_put κ.l hl κ.Γ M49 a (sClr (hset (uC u) 1 1 (nI (B + 1))) B 9) hR50 B 9 0 (by omega) (by omega)) k1255 k1257 kp23 k5 k1258 rfl (MRep.obj hR50) ⟨rfl, by decide, by decide, (show (parseMethodDescriptor yX4_put.desc).map (fun d => d.parameters.length) = some 3 by decide +kernel)⟩ rfl (Nat.le_of_ble_eq_true rfl) (by rw [hRm]; decide) (by rw [hRm]; exact ⟨Nat.le_of_ble_eq_true rfl, Nat.le_of_ble_eq_true rfl⟩) (fun v52 M52 h52 => ?_) (fun _ _ h9 => by cases h9.1)
              obtain ⟨e52, hR52, hF52⟩ := h52
              have e52 : (Sum.inl v52 : Res) = .inl none := e52
              cases e52
              have hR52 : MRep κ.Γ a (rPut (sClr (hset (uC u) 1 1 (nI (B + 1))) B 9) B 9 0) M52 := hR52
              have hF52 := Fr.tr hF49 hF52
              refine g_iinc (k := 0) (v := 10) (L' := [(5, .int 10), (4, .int (nI B)), (0, .ref (a 0)), (1, .int x), (2, .int (nI f9)), (3, .int (nI la9))]) X dX4_introduce_141 rfl (by decide) (by rw [hnL]; decide) rfl ?_
              refine g_goto (tgt := 125) X dX4_introduce_144 (by decide) ?_
              have hR53 : MRep κ.Γ a (sClr (hset (uC u) 1 1 (nI (B + 1))) B 10) M52 := hR52
              refine g_iload X dX4_introduce_125 0 rfl ?_
              refine g_bipush (v := 16) X dX4_introduce_127 (by decide) ?_
              refine g_icmp_ge (tgt := 147) X dX4_introduce_129 (by decide) (fun c54 => absurd c54 (by decide)) (fun c54 => ?_)
              refine g_aload_n X dX4_introduce_132 rfl 2 rfl ?_
              refine g_iload X dX4_introduce_133 1 rfl ?_
              refine g_iload X dX4_introduce_135 0 rfl ?_
              refine g_iconst (v := 0) X dX4_introduce_137 (by decide) ?_
              refine g_callV (As := [.int (nI B), .int 10, .int 0]) (ci := 4) X dX4_introduce_138 (c_X4_put κ.l hl κ.Γ M52 a (sClr (hset (uC u) 1 1 (nI (B + 1))) B 10) hR53 B 10 0 (by omega) (by omega)) k1255 k1257 kp23 k5 k1258 rfl (MRep.obj hR53) ⟨rfl, by decide, by decide, (show (parseMethodDescriptor yX4_put.desc).map (fun d => d.parameters.length) = some 3 by decide +kernel)⟩ rfl (Nat.le_of_ble_eq_true rfl) (by rw [hRm]; decide) (by rw [hRm]; exact ⟨Nat.le_of_ble_eq_true rfl, Nat.le_of_ble_eq_true rfl⟩) (fun v55 M55 h55 => ?_) (fun _ _ h9 => by cases h9.1)
              obtain ⟨e55, hR55, hF55⟩ := h55
              have e55 : (Sum.inl v55 : Res) = .inl none := e55
              cases e55
              have hR55 : MRep κ.Γ a (rPut (sClr (hset (uC u) 1 1 (nI (B + 1))) B 10) B 10 0) M55 := hR55
              have hF55 := Fr.tr hF52 hF55
              refine g_iinc (k := 0) (v := 11) (L' := [(5, .int 11), (4, .int (nI B)), (0, .ref (a 0)), (1, .int x), (2, .int (nI f9)), (3, .int (nI la9))]) X dX4_introduce_141 rfl (by decide) (by rw [hnL]; decide) rfl ?_
              refine g_goto (tgt := 125) X dX4_introduce_144 (by decide) ?_
              have hR56 : MRep κ.Γ a (sClr (hset (uC u) 1 1 (nI (B + 1))) B 11) M55 := hR55
              refine g_iload X dX4_introduce_125 0 rfl ?_
              refine g_bipush (v := 16) X dX4_introduce_127 (by decide) ?_
              refine g_icmp_ge (tgt := 147) X dX4_introduce_129 (by decide) (fun c57 => absurd c57 (by decide)) (fun c57 => ?_)
              refine g_aload_n X dX4_introduce_132 rfl 2 rfl ?_
              refine g_iload X dX4_introduce_133 1 rfl ?_
              refine g_iload X dX4_introduce_135 0 rfl ?_
              refine g_iconst (v := 0) X dX4_introduce_137 (by decide) ?_
              refine g_callV (As := [.int (nI B), .int 11, .int 0]) (ci := 4) X dX4_introduce_138 (c_X4_put κ.l hl κ.Γ M55 a (sClr (hset (uC u) 1 1 (nI (B + 1))) B 11) hR56 B 11 0 (by omega) (by omega)) k1255 k1257 kp23 k5 k1258 rfl (MRep.obj hR56) ⟨rfl, by decide, by decide, (show (parseMethodDescriptor yX4_put.desc).map (fun d => d.parameters.length) = some 3 by decide +kernel)⟩ rfl (Nat.le_of_ble_eq_true rfl) (by rw [hRm]; decide) (by rw [hRm]; exact ⟨Nat.le_of_ble_eq_true rfl, Nat.le_of_ble_eq_true rfl⟩) (fun v58 M58 h58 => ?_) (fun _ _ h9 => by cases h9.1)
              obtain ⟨e58, hR58, hF58⟩ := h58
              have e58 : (Sum.inl v58 : Res) = .inl none := e58
              cases e58
              have hR58 : MRep κ.Γ a (rPut (sClr (hset (uC u) 1 1 (nI (B + 1))) B 11) B 11 0) M58 := hR58
              have hF58 := Fr.tr hF55 hF58
              refine g_iinc (k := 0) (v := 12) (L' := [(5, .int 12), (4, .int (nI B)), (0, .ref (a 0)), (1, .int x), (2, .int (nI f9)), (3, .int (nI la9))]) X dX4_introduce_141 rfl (by decide) (by rw [hnL]; decide) rfl ?_
              refine g_goto (tgt := 125) X dX4_introduce_144 (by decide) ?_
              have hR59 : MRep κ.Γ a (sClr (hset (uC u) 1 1 (nI (B + 1))) B 12) M58 := hR58
              refine g_iload X dX4_introduce_125 0 rfl ?_
              refine g_bipush (v := 16) X dX4_introduce_127 (by decide) ?_
              refine g_icmp_ge (tgt := 147) X dX4_introduce_129 (by decide) (fun c60 => absurd c60 (by decide)) (fun c60 => ?_)
              refine g_aload_n X dX4_introduce_132 rfl 2 rfl ?_
              refine g_iload X dX4_introduce_133 1 rfl ?_
              refine g_iload X dX4_introduce_135 0 rfl ?_
              refine g_iconst (v := 0) X dX4_introduce_137 (by decide) ?_
              refine g_callV (As := [.int (nI B), .int 12, .int 0]) (ci := 4) X dX4_introduce_138 (c_X4_put κ.l hl κ.Γ M58 a (sClr (hset (uC u) 1 1 (nI (B + 1))) B 12) hR59 B 12 0 (by omega) (by omega)) k1255 k1257 kp23 k5 k1258 rfl (MRep.obj hR59) ⟨rfl, by decide, by decide, (show (parseMethodDescriptor yX4_put.desc).map (fun d => d.parameters.length) = some 3 by decide +kernel)⟩ rfl (Nat.le_of_ble_eq_true rfl) (by rw [hRm]; decide) (by rw [hRm]; exact ⟨Nat.le_of_ble_eq_true rfl, Nat.le_of_ble_eq_true rfl⟩) (fun v61 M61 h61 => ?_) (fun _ _ h9 => by cases h9.1)
              obtain ⟨e61, hR61, hF61⟩ := h61
              have e61 : (Sum.inl v61 : Res) = .inl none := e61
              cases e61
              have hR61 : MRep κ.Γ a (rPut (sClr (hset (uC u) 1 1 (nI (B + 1))) B 12) B 12 0) M61 := hR61
              have hF61 := Fr.tr hF58 hF61
              refine g_iinc (k := 0) (v := 13) (L' := [(5, .int 13), (4, .int (nI B)), (0, .ref (a 0)), (1, .int x), (2, .int (nI f9)), (3, .int (nI la9))]) X dX4_introduce_141 rfl (by decide) (by rw [hnL]; decide) rfl ?_
              refine g_goto (tgt := 125) X dX4_introduce_144 (by decide) ?_
              have hR62 : MRep κ.Γ a (sClr (hset (uC u) 1 1 (nI (B + 1))) B 13) M61 := hR61
              refine g_iload X dX4_introduce_125 0 rfl ?_
              refine g_bipush (v := 16) X dX4_introduce_127 (by decide) ?_
              refine g_icmp_ge (tgt := 147) X dX4_introduce_129 (by decide) (fun c63 => absurd c63 (by decide)) (fun c63 => ?_)
              refine g_aload_n X dX4_introduce_132 rfl 2 rfl ?_
              refine g_iload X dX4_introduce_133 1 rfl ?_
              refine g_iload X dX4_introduce_135 0 rfl ?_
              refine g_iconst (v := 0) X dX4_introduce_137 (by decide) ?_
              refine g_callV (As := [.int (nI B), .int 13, .int 0]) (ci := 4) X dX4_introduce_138 (c_X4_put κ.l hl κ.Γ M61 a (sClr (hset (uC u) 1 1 (nI (B + 1))) B 13) hR62 B 13 0 (by omega) (by omega)) k1255 k1257 kp23 k5 k1258 rfl (MRep.obj hR62) ⟨rfl, by decide, by decide, (show (parseMethodDescriptor yX4_put.desc).map (fun d => d.parameters.length) = some 3 by decide +kernel)⟩ rfl (Nat.le_of_ble_eq_true rfl) (by rw [hRm]; decide) (by rw [hRm]; exact ⟨Nat.le_of_ble_eq_true rfl, Nat.le_of_ble_eq_true rfl⟩) (fun v64 M64 h64 => ?_) (fun _ _ h9 => by cases h9.1)
              obtain ⟨e64, hR64, hF64⟩ := h64
              have e64 : (Sum.inl v64 : Res) = .inl none := e64
              cases e64
              have hR64 : MRep κ.Γ a (rPut (sClr (hset (uC u) 1 1 (nI (B + 1))) B 13) B 13 0) M64 := hR64
              have hF64 := Fr.tr hF61 hF64
              refine g_iinc (k := 0) (v := 14) (L' := [(5, .int 14), (4, .int (nI B)), (0, .ref (a 0)), (1, .int x), (2, .int (nI f9)), (3, .int (nI la9))]) X dX4_introduce_141 rfl (by decide) (by rw [hnL]; decide) rfl ?_
              refine g_goto (tgt := 125) X dX4_introduce_144 (by decide) ?_
              have hR65 : MRep κ.Γ a (sClr (hset (uC u) 1 1 (nI (B + 1))) B 14) M64 := hR64
              refine g_iload X dX4_introduce_125 0 rfl ?_
              refine g_bipush (v := 16) X dX4_introduce_127 (by decide) ?_
              refine g_icmp_ge (tgt := 147) X dX4_introduce_129 (by decide) (fun c66 => absurd c66 (by decide)) (fun c66 => ?_)
              refine g_aload_n X dX4_introduce_132 rfl 2 rfl ?_
              refine g_iload X dX4_introduce_133 1 rfl ?_
              refine g_iload X dX4_introduce_135 0 rfl ?_
              refine g_iconst (v := 0) X dX4_introduce_137 (by decide) ?_
              refine g_callV (As := [.int (nI B), .int 14, .int 0]) (ci := 4) X dX4_introduce_138 (c_X4_put κ.l hl κ.Γ M64 a (sClr (hset (uC u) 1 1 (nI (B + 1))) B 14) hR65 B 14 0 (by omega) (by omega)) k1255 k1257 kp23 k5 k1258 rfl (MRep.obj hR65) ⟨rfl, by decide, by decide, (show (parseMethodDescriptor yX4_put.desc).map (fun d => d.parameters.length) = some 3 by decide +kernel)⟩ rfl (Nat.le_of_ble_eq_true rfl) (by rw [hRm]; decide) (by rw [hRm]; exact ⟨Nat.le_of_ble_eq_true rfl, Nat.le_of_ble_eq_true rfl⟩) (fun v67 M67 h67 => ?_) (fun _ _ h9 => by cases h9.1)
              obtain ⟨e67, hR67, hF67⟩ := h67
              have e67 : (Sum.inl v67 : Res) = .inl none := e67
              cases e67
              have hR67 : MRep κ.Γ a (rPut (sClr (hset (uC u) 1 1 (nI (B + 1))) B 14) B 14 0) M67 := hR67
              have hF67 := Fr.tr hF64 hF67
              refine g_iinc (k := 0) (v := 15) (L' := [(5, .int 15), (4, .int (nI B)), (0, .ref (a 0)), (1, .int x), (2, .int (nI f9)), (3, .int (nI la9))]) X dX4_introduce_141 rfl (by decide) (by rw [hnL]; decide) rfl ?_
              refine g_goto (tgt := 125) X dX4_introduce_144 (by decide) ?_
              have hR68 : MRep κ.Γ a (sClr (hset (uC u) 1 1 (nI (B + 1))) B 15) M67 := hR67
              refine g_iload X dX4_introduce_125 0 rfl ?_
              refine g_bipush (v := 16) X dX4_introduce_127 (by decide) ?_
              refine g_icmp_ge (tgt := 147) X dX4_introduce_129 (by decide) (fun c69 => absurd c69 (by decide)) (fun c69 => ?_)
              refine g_aload_n X dX4_introduce_132 rfl 2 rfl ?_
              refine g_iload X dX4_introduce_133 1 rfl ?_
              refine g_iload X dX4_introduce_135 0 rfl ?_
              refine g_iconst (v := 0) X dX4_introduce_137 (by decide) ?_
              refine g_callV (As := [.int (nI B), .int 15, .int 0]) (ci := 4) X dX4_introduce_138 (c_X4_put κ.l hl κ.Γ M67 a (sClr (hset (uC u) 1 1 (nI (B + 1))) B 15) hR68 B 15 0 (by omega) (by omega)) k1255 k1257 kp23 k5 k1258 rfl (MRep.obj hR68) ⟨rfl, by decide, by decide, (show (parseMethodDescriptor yX4_put.desc).map (fun d => d.parameters.length) = some 3 by decide +kernel)⟩ rfl (Nat.le_of_ble_eq_true rfl) (by rw [hRm]; decide) (by rw [hRm]; exact ⟨Nat.le_of_ble_eq_true rfl, Nat.le_of_ble_eq_true rfl⟩) (fun v70 M70 h70 => ?_) (fun _ _ h9 => by cases h9.1)
              obtain ⟨e70, hR70, hF70⟩ := h70
              have e70 : (Sum.inl v70 : Res) = .inl none := e70
              cases e70
              have hR70 : MRep κ.Γ a (rPut (sClr (hset (uC u) 1 1 (nI (B + 1))) B 15) B 15 0) M70 := hR70
              have hF70 := Fr.tr hF67 hF70
              refine g_iinc (k := 0) (v := 16) (L' := [(5, .int 16), (4, .int (nI B)), (0, .ref (a 0)), (1, .int x), (2, .int (nI f9)), (3, .int (nI la9))]) X dX4_introduce_141 rfl (by decide) (by rw [hnL]; decide) rfl ?_
              refine g_goto (tgt := 125) X dX4_introduce_144 (by decide) ?_
              have hR71 : MRep κ.Γ a (sClr (hset (uC u) 1 1 (nI (B + 1))) B 16) M70 := hR70
              refine g_iload X dX4_introduce_125 0 rfl ?_
              refine g_bipush (v := 16) X dX4_introduce_127 (by decide) ?_
              refine g_icmp_ge (tgt := 147) X dX4_introduce_129 (by decide) (fun c72 => ?_) (fun c72 => absurd c72 (by decide))
              refine g_iload_n X dX4_introduce_147 rfl 4 rfl ?_
              refine g_istore (L' := [(5, .int (nI f9)), (4, .int (nI B)), (0, .ref (a 0)), (1, .int x), (2, .int (nI f9)), (3, .int (nI la9))]) X dX4_introduce_148 (by rw [hnL]; decide) rfl ?_
              have lp : ∀ (q n : Nat) (M9 : Hp), la9 + 1 - f9 - n < q → n ≤ la9 + 1 - f9 → MRep κ.Γ a (sTgs (sClr (hset (uC u) 1 1 (nI (B + 1))) B 16) B f9 n) M9 → Fr a 15 M M9 → G κ M9 0 0 [(5, .int (nI (f9 + n))), (4, .int (nI B)), (3, .int (nI la9)), (2, .int (nI f9)), (1, .int x), (0, .ref (a 0))] 150 [] := by
                intro q
                induction q with
                | zero => intro n _ h1; exact absurd h1 (Nat.not_lt_zero _)
                | succ q ih =>
                  intro n M9 hn1 hn2 hR9 hF9
                  refine g_iload X dX4_introduce_150 0 rfl ?_
                  refine g_iload_n X dX4_introduce_152 rfl 2 rfl ?_
                  refine g_icmp_gt (tgt := 170) X dX4_introduce_153 (by decide) (fun c73 => ?_) (fun c73 => ?_)
                  · have hgt9 : n = la9 + 1 - f9 := by have h9 := nI_ltS (by omega) (by omega) (Int32.not_le.mpr c73); omega
                    subst hgt9
                    refine g_iload X dX4_introduce_170 1 rfl ?_
                    exact g_iret X F dX4_introduce_172 (by omega) (by omega) (by unfold mIntroduce; (try rw [hcf9]); (try rw [hcla9]); exact (MMu.n (fun z => z.elim (by first | exact c1 | exact fun q => q c1 | exact fun q => c1 q | exact Classical.not_not.mp c1) (fun z => z.elim (by first | exact c4 | exact fun q => q c4 | exact fun q => c4 q | exact Classical.not_not.mp c4) (by first | exact c7 | exact fun q => q c7 | exact fun q => c7 q | exact Classical.not_not.mp c7))) (MMu.n (by first | exact c10 | exact fun q => q c10 | exact fun q => c10 q | exact Classical.not_not.mp c10) (MMu.n (by first | exact c13 | exact fun q => q c13 | exact fun q => c13 q | exact Classical.not_not.mp c13) (MMu.n (by first | exact c16 | exact fun q => q c16 | exact fun q => c16 q | exact Classical.not_not.mp c16) ⟨by rw [eC], by (try unfold sBrg); rw [eC, hcB, hcf9, hcla9, nI_1]; exact hR9, hF9⟩)))))
                  · have hlt9 : f9 + n ≤ la9 := nI_leS (by omega) (by omega) (Int32.not_lt.mp c73)
                    refine g_aload_n X dX4_introduce_156 rfl 5 rfl ?_
                    refine g_iload X dX4_introduce_157 1 rfl ?_
                    refine g_iload X dX4_introduce_159 0 rfl ?_
                    refine g_callV (As := [.int (nI B), .int (nI (f9 + n))]) (ci := 4) X dX4_introduce_161 (c_X4_toggleClause κ.l hl κ.Γ M9 a (sTgs (sClr (hset (uC u) 1 1 (nI (B + 1))) B 16) B f9 n) hR9 B (nI (f9 + n)) (by omega)) k1259 k1261 kp24 k5 k1262 rfl (MRep.obj hR9) ⟨rfl, by decide, by decide, (show (parseMethodDescriptor yX4_toggleClause.desc).map (fun d => d.parameters.length) = some 2 by decide +kernel)⟩ rfl (Nat.le_of_ble_eq_true rfl) (by rw [hRm]; decide) (by rw [hRm]; exact ⟨Nat.le_of_ble_eq_true rfl, Nat.le_of_ble_eq_true rfl⟩) (fun v74 M74 h74 => ?_) (fun _ _ h9 => by cases h9.1)
                    obtain ⟨e74, hR74, hF74⟩ := h74
                    have e74 : (Sum.inl v74 : Res) = .inl none := e74
                    cases e74
                    have hR74 : MRep κ.Γ a (mTog (sTgs (sClr (hset (uC u) 1 1 (nI (B + 1))) B 16) B f9 n) B (nI (f9 + n))) M74 := hR74
                    have hF74 := Fr.tr hF9 hF74
                    refine g_iinc (k := 0) (v := (nI ((f9 + n) + 1))) (L' := [(5, .int (nI ((f9 + n) + 1))), (4, .int (nI B)), (3, .int (nI la9)), (2, .int (nI f9)), (1, .int x), (0, .ref (a 0))]) X dX4_introduce_164 rfl (nI_1 _) (by rw [hnL]; decide) rfl ?_
                    refine g_goto (tgt := 150) X dX4_introduce_167 (by decide) ?_
                    refine g_locs [0, 1, 2, 3, 4, 5] (L' := [(5, .int (nI (f9 + (n + 1)))), (4, .int (nI B)), (3, .int (nI la9)), (2, .int (nI f9)), (1, .int x), (0, .ref (a 0))]) rfl ?_
                    exact ih (n + 1) M74 (by omega) (by omega) hR74 hF74
              refine g_locs [0, 1, 5, 4, 3, 2] (L' := [(5, .int (nI (f9 + 0))), (4, .int (nI B)), (3, .int (nI la9)), (2, .int (nI f9)), (1, .int x), (0, .ref (a 0))]) rfl ?_
              exact lp (la9 + 1 - f9 + 1) 0 M70 (by omega) (by omega) hR71 hF70
            · refine g_iconst (v := 1) X dX4_introduce_87 (by decide) ?_
              refine g_goto (tgt := 92) X dX4_introduce_88 (by decide) ?_
              refine g_callV (As := [.int 4, .int 1]) (ci := 4) X dX4_introduce_92 (c_X4_fails1 κ.l hl κ.Γ M14 a (hsc u 0 0) hR14 4) k1164 k1166 kp15 k5 k1167 rfl (MRep.obj hR14) ⟨rfl, by decide, by decide, (show (parseMethodDescriptor yX4_fails.desc).map (fun d => d.parameters.length) = some 2 by decide +kernel)⟩ rfl (Nat.le_of_ble_eq_true rfl) (by rw [hRm]; decide) (by rw [hRm]; exact ⟨Nat.le_of_ble_eq_true rfl, Nat.le_of_ble_eq_true rfl⟩) (fun v75 M75 h75 => ?_) (fun _ _ h9 => by cases h9.1)
              obtain ⟨e75, hR75, hF75⟩ := h75
              have e75 : (Sum.inl v75 : Res) = rI 1 := e75
              cases e75
              have hR75 : MRep κ.Γ a (hsc u 0 4) M75 := by rw [← hsc_hsc (x := 0)]; exact hR75
              have hF75 := Fr.tr hF14 hF75
              refine g_if_eq (tgt := 100) X dX4_introduce_95 (by decide) (fun c76 => absurd c76 (by decide)) (fun c76 => ?_)
              refine g_iconst (v := 0) X dX4_introduce_98 (by decide) ?_
              exact g_iret X F dX4_introduce_99 (by omega) (by omega) (by unfold mIntroduce; (try rw [hcf9]); (try rw [hcla9]); exact (MMu.n (fun z => z.elim (by first | exact c1 | exact fun q => q c1 | exact fun q => c1 q | exact Classical.not_not.mp c1) (fun z => z.elim (by first | exact c4 | exact fun q => q c4 | exact fun q => c4 q | exact Classical.not_not.mp c4) (by first | exact c7 | exact fun q => q c7 | exact fun q => c7 q | exact Classical.not_not.mp c7))) (MMu.n (by first | exact c10 | exact fun q => q c10 | exact fun q => c10 q | exact Classical.not_not.mp c10) (MMu.n (by first | exact c13 | exact fun q => q c13 | exact fun q => c13 q | exact Classical.not_not.mp c13) (MMu.y (by first | exact c16 | exact fun q => q c16 | exact fun q => c16 q | exact Classical.not_not.mp c16) ⟨rfl, hR75, hF75⟩)))))
          · refine g_iconst (v := 1) X dX4_introduce_66 (by decide) ?_
            refine g_goto (tgt := 71) X dX4_introduce_67 (by decide) ?_
            refine g_callV (As := [.int 3, .int 1]) (ci := 4) X dX4_introduce_71 (c_X4_fails1 κ.l hl κ.Γ M11 a (hsc u 0 0) hR11 3) k1164 k1166 kp15 k5 k1167 rfl (MRep.obj hR11) ⟨rfl, by decide, by decide, (show (parseMethodDescriptor yX4_fails.desc).map (fun d => d.parameters.length) = some 2 by decide +kernel)⟩ rfl (Nat.le_of_ble_eq_true rfl) (by rw [hRm]; decide) (by rw [hRm]; exact ⟨Nat.le_of_ble_eq_true rfl, Nat.le_of_ble_eq_true rfl⟩) (fun v77 M77 h77 => ?_) (fun _ _ h9 => by cases h9.1)
            obtain ⟨e77, hR77, hF77⟩ := h77
            have e77 : (Sum.inl v77 : Res) = rI 1 := e77
            cases e77
            have hR77 : MRep κ.Γ a (hsc u 0 3) M77 := by rw [← hsc_hsc (x := 0)]; exact hR77
            have hF77 := Fr.tr hF11 hF77
            refine g_if_ne (tgt := 98) X dX4_introduce_74 (by decide) (fun c78 => ?_) (fun c78 => absurd c78 (by decide))
            refine g_iconst (v := 0) X dX4_introduce_98 (by decide) ?_
            exact g_iret X F dX4_introduce_99 (by omega) (by omega) (by unfold mIntroduce; (try rw [hcf9]); (try rw [hcla9]); exact (MMu.n (fun z => z.elim (by first | exact c1 | exact fun q => q c1 | exact fun q => c1 q | exact Classical.not_not.mp c1) (fun z => z.elim (by first | exact c4 | exact fun q => q c4 | exact fun q => c4 q | exact Classical.not_not.mp c4) (by first | exact c7 | exact fun q => q c7 | exact fun q => c7 q | exact Classical.not_not.mp c7))) (MMu.n (by first | exact c10 | exact fun q => q c10 | exact fun q => c10 q | exact Classical.not_not.mp c10) (MMu.y (by first | exact c13 | exact fun q => q c13 | exact fun q => c13 q | exact Classical.not_not.mp c13) ⟨rfl, hR77, hF77⟩))))
        · refine g_iconst (v := 1) X dX4_introduce_42 (by decide) ?_
          refine g_goto (tgt := 47) X dX4_introduce_43 (by decide) ?_
          refine g_callV (As := [.int 2, .int 1]) (ci := 4) X dX4_introduce_47 (c_X4_fails1 κ.l hl κ.Γ M8 a (hsc u 0 0) hR8 2) k1164 k1166 kp15 k5 k1167 rfl (MRep.obj hR8) ⟨rfl, by decide, by decide, (show (parseMethodDescriptor yX4_fails.desc).map (fun d => d.parameters.length) = some 2 by decide +kernel)⟩ rfl (Nat.le_of_ble_eq_true rfl) (by rw [hRm]; decide) (by rw [hRm]; exact ⟨Nat.le_of_ble_eq_true rfl, Nat.le_of_ble_eq_true rfl⟩) (fun v79 M79 h79 => ?_) (fun _ _ h9 => by cases h9.1)
          obtain ⟨e79, hR79, hF79⟩ := h79
          have e79 : (Sum.inl v79 : Res) = rI 1 := e79
          cases e79
          have hR79 : MRep κ.Γ a (hsc u 0 2) M79 := by rw [← hsc_hsc (x := 0)]; exact hR79
          have hF79 := Fr.tr hF8 hF79
          refine g_if_ne (tgt := 98) X dX4_introduce_50 (by decide) (fun c80 => ?_) (fun c80 => absurd c80 (by decide))
          refine g_iconst (v := 0) X dX4_introduce_98 (by decide) ?_
          exact g_iret X F dX4_introduce_99 (by omega) (by omega) (by unfold mIntroduce; (try rw [hcf9]); (try rw [hcla9]); exact (MMu.n (fun z => z.elim (by first | exact c1 | exact fun q => q c1 | exact fun q => c1 q | exact Classical.not_not.mp c1) (fun z => z.elim (by first | exact c4 | exact fun q => q c4 | exact fun q => c4 q | exact Classical.not_not.mp c4) (by first | exact c7 | exact fun q => q c7 | exact fun q => c7 q | exact Classical.not_not.mp c7))) (MMu.y (by first | exact c10 | exact fun q => q c10 | exact fun q => c10 q | exact Classical.not_not.mp c10) ⟨rfl, hR79, hF79⟩)))
      · refine g_iconst (v := 1) X dX4_introduce_24 (by decide) ?_
        refine g_goto (tgt := 29) X dX4_introduce_25 (by decide) ?_
        refine g_callV (As := [.int 1, .int 1]) (ci := 4) X dX4_introduce_29 (c_X4_fails1 κ.l hl κ.Γ M a u hR 1) k1164 k1166 kp15 k5 k1167 rfl (MRep.obj hR) ⟨rfl, by decide, by decide, (show (parseMethodDescriptor yX4_fails.desc).map (fun d => d.parameters.length) = some 2 by decide +kernel)⟩ rfl (Nat.le_of_ble_eq_true rfl) (by rw [hRm]; decide) (by rw [hRm]; exact ⟨Nat.le_of_ble_eq_true rfl, Nat.le_of_ble_eq_true rfl⟩) (fun v81 M81 h81 => ?_) (fun _ _ h9 => by cases h9.1)
        obtain ⟨e81, hR81, hF81⟩ := h81
        have e81 : (Sum.inl v81 : Res) = rI 1 := e81
        cases e81
        refine g_if_ne (tgt := 98) X dX4_introduce_32 (by decide) (fun c82 => ?_) (fun c82 => absurd c82 (by decide))
        refine g_iconst (v := 0) X dX4_introduce_98 (by decide) ?_
        exact g_iret X F dX4_introduce_99 (by omega) (by omega) (by unfold mIntroduce; exact (MMu.y (Or.inr (Or.inr (by first | exact c7 | exact fun q => q c7 | exact fun q => c7 q | exact Classical.not_not.mp c7))) ⟨rfl, hR81, hF81⟩))
noncomputable def mVote (u : HV) (b x : Int32) (s o : Nat) : Res × HV := mG (¬ isBl u b ∨ ¬ isM u x) 1 zI u (mG (¬ rB u (cN b) 0 = 0) 2 zI u (mG (¬ prs u x) 3 zI u ((rI (rWt (sVote (uC u) (cN b) x s o) (rB (sVote (uC u) (cN b) x s o) (cN b) s)), sVote (uC u) (cN b) x s o))))
set_option maxRecDepth 100000 in
set_option maxHeartbeats 4000000 in
theorem c_X4_vote (l : Launch) (hl : l.stackTraces = false) (Γ : Gm) (M : Hp) (a : Nat → Nat) (u : HV) (hR : MRep Γ a u M) (b x : Int32) (s9 o9 : Nat) (hi : RInv (u.2.1 1)) (hk : KInv u) (hs : s9 < 7) (ho : o9 < 7) : Ct l Γ yX4_vote cX4_vote 5 (some .int) 3 0 0 [.ref (a 0), .int b, .int x, .int (nI s9), .int (nI o9)] M (MMu Γ a (mVote u b x s9 o9) M) := by
  refine Ct.of hl (by decide) (Nat.le_of_ble_eq_true rfl) rfl ?_
  intro κ e1 e2 hnL hRm X F hlt
  subst e1 e2
  refine g_aload_n X dX4_vote_0 rfl 0 rfl ?_
  refine g_iconst (v := 1) X dX4_vote_1 (by decide) ?_
  refine g_aload_n X dX4_vote_2 rfl 0 rfl ?_
  refine g_iload_n X dX4_vote_3 rfl 1 rfl ?_
  refine g_callV_rd (As := [.int b]) (ci := 4) (v := some (.int (bI (btw b 0 (u.2.1 1 1 - 1))))) X dX4_vote_4 (c_X4_isBill κ.l hl κ.Γ M a u hR b) k1275 k1277 kp26 k5 k1278 rfl (MRep.obj hR) ⟨rfl, by decide, by decide, (show (parseMethodDescriptor yX4_isBill.desc).map (fun d => d.parameters.length) = some 1 by decide +kernel)⟩ rfl (Nat.le_of_ble_eq_true rfl) (by rw [hRm]; decide) (by rw [hRm]; exact ⟨Nat.le_of_ble_eq_true rfl, Nat.le_of_ble_eq_true rfl⟩) ?_
  refine g_ifb_eq (tgt := 18) X dX4_vote_7 (by decide) (fun c1 => ?_) (fun c1 => ?_)
  · refine g_iconst (v := 1) X dX4_vote_18 (by decide) ?_
    refine g_goto (tgt := 23) X dX4_vote_19 (by decide) ?_
    refine g_callV (As := [.int 1, .int 1]) (ci := 4) X dX4_vote_23 (c_X4_fails1 κ.l hl κ.Γ M a u hR 1) k1164 k1166 kp15 k5 k1167 rfl (MRep.obj hR) ⟨rfl, by decide, by decide, (show (parseMethodDescriptor yX4_fails.desc).map (fun d => d.parameters.length) = some 2 by decide +kernel)⟩ rfl (Nat.le_of_ble_eq_true rfl) (by rw [hRm]; decide) (by rw [hRm]; exact ⟨Nat.le_of_ble_eq_true rfl, Nat.le_of_ble_eq_true rfl⟩) (fun v2 M2 h2 => ?_) (fun _ _ h9 => by cases h9.1)
    obtain ⟨e2, hR2, hF2⟩ := h2
    have e2 : (Sum.inl v2 : Res) = rI 1 := e2
    cases e2
    refine g_if_ne (tgt := 72) X dX4_vote_26 (by decide) (fun c3 => ?_) (fun c3 => absurd c3 (by decide))
    refine g_iconst (v := 0) X dX4_vote_72 (by decide) ?_
    exact g_iret X F dX4_vote_73 (by omega) (by omega) (by unfold mVote; exact (MMu.y (Or.inl (by first | exact c1 | exact fun q => q c1 | exact fun q => c1 q | exact Classical.not_not.mp c1)) ⟨rfl, hR2, hF2⟩))
  · refine g_aload_n X dX4_vote_10 rfl 0 rfl ?_
    refine g_iload_n X dX4_vote_11 rfl 2 rfl ?_
    refine g_callV_rd (As := [.int x]) (ci := 4) (v := some (.int (bI (btw x 0 (u.2.1 1 0 - 1))))) X dX4_vote_12 (c_X4_isMember κ.l hl κ.Γ M a u hR x) k1183 k1185 kp18 k5 k1186 rfl (MRep.obj hR) ⟨rfl, by decide, by decide, (show (parseMethodDescriptor yX4_isMember.desc).map (fun d => d.parameters.length) = some 1 by decide +kernel)⟩ rfl (Nat.le_of_ble_eq_true rfl) (by rw [hRm]; decide) (by rw [hRm]; exact ⟨Nat.le_of_ble_eq_true rfl, Nat.le_of_ble_eq_true rfl⟩) ?_
    refine g_ifb_ne (tgt := 22) X dX4_vote_15 (by decide) (fun c4 => ?_) (fun c4 => ?_)
    · refine g_iconst (v := 0) X dX4_vote_22 (by decide) ?_
      refine g_callV (As := [.int 1, .int 0]) (ci := 4) X dX4_vote_23 (c_X4_fails0 κ.l hl κ.Γ M a u hR 1) k1164 k1166 kp15 k5 k1167 rfl (MRep.obj hR) ⟨rfl, by decide, by decide, (show (parseMethodDescriptor yX4_fails.desc).map (fun d => d.parameters.length) = some 2 by decide +kernel)⟩ rfl (Nat.le_of_ble_eq_true rfl) (by rw [hRm]; decide) (by rw [hRm]; exact ⟨Nat.le_of_ble_eq_true rfl, Nat.le_of_ble_eq_true rfl⟩) (fun v5 M5 h5 => ?_) (fun _ _ h9 => by cases h9.1)
      obtain ⟨e5, hR5, hF5⟩ := h5
      have e5 : (Sum.inl v5 : Res) = rI 0 := e5
      cases e5
      obtain ⟨b9, hb9, hcb9, rfl⟩ := RInv.bil hi c1
      refine g_if_ne (tgt := 72) X dX4_vote_26 (by decide) (fun c6 => absurd c6 (by decide)) (fun c6 => ?_)
      refine g_aload_n X dX4_vote_29 rfl 0 rfl ?_
      refine g_iconst (v := 2) X dX4_vote_30 (by decide) ?_
      refine g_aload_n X dX4_vote_31 rfl 0 rfl ?_
      refine g_iload_n X dX4_vote_32 rfl 1 rfl ?_
      refine g_iconst (v := 0) X dX4_vote_33 (by decide) ?_
      refine g_callV_rd (As := [.int (nI b9), .int 0]) (ci := 4) (v := some (.int (u.2.1 1 (53 + 16 * b9 + 0)))) X dX4_vote_34 (c_X4_of κ.l hl κ.Γ M5 a (hsc u 0 0) hR5 b9 0 (by omega) (by omega)) k1263 k1265 kp25 k5 k1266 rfl (MRep.obj hR5) ⟨rfl, by decide, by decide, (show (parseMethodDescriptor yX4_of.desc).map (fun d => d.parameters.length) = some 2 by decide +kernel)⟩ rfl (Nat.le_of_ble_eq_true rfl) (by rw [hRm]; decide) (by rw [hRm]; exact ⟨Nat.le_of_ble_eq_true rfl, Nat.le_of_ble_eq_true rfl⟩) ?_
      refine g_if_eq (tgt := 44) X dX4_vote_37 (by decide) (fun c7 => ?_) (fun c7 => ?_)
      · refine g_iconst (v := 0) X dX4_vote_44 (by decide) ?_
        refine g_callV (As := [.int 2, .int 0]) (ci := 4) X dX4_vote_45 (c_X4_fails0 κ.l hl κ.Γ M5 a (hsc u 0 0) hR5 2) k1164 k1166 kp15 k5 k1167 rfl (MRep.obj hR5) ⟨rfl, by decide, by decide, (show (parseMethodDescriptor yX4_fails.desc).map (fun d => d.parameters.length) = some 2 by decide +kernel)⟩ rfl (Nat.le_of_ble_eq_true rfl) (by rw [hRm]; decide) (by rw [hRm]; exact ⟨Nat.le_of_ble_eq_true rfl, Nat.le_of_ble_eq_true rfl⟩) (fun v8 M8 h8 => ?_) (fun _ _ h9 => by cases h9.1)
        obtain ⟨e8, hR8, hF8⟩ := h8
        have e8 : (Sum.inl v8 : Res) = rI 0 := e8
        cases e8
        have hR8 : MRep κ.Γ a (hsc u 0 0) M8 := by rw [← hsc_hsc (x := 0)]; exact hR8
        have hF8 := Fr.tr hF5 hF8
        refine g_if_ne (tgt := 72) X dX4_vote_48 (by decide) (fun c9 => absurd c9 (by decide)) (fun c9 => ?_)
        refine g_aload_n X dX4_vote_51 rfl 0 rfl ?_
        refine g_iconst (v := 3) X dX4_vote_52 (by decide) ?_
        refine g_aload_n X dX4_vote_53 rfl 0 rfl ?_
        refine g_iload_n X dX4_vote_54 rfl 2 rfl ?_
        refine g_callV_rd (As := [.int x]) (ci := 4) (v := some (.int (bI (shr (u.2.1 1 2) x &&& 1 = 1)))) X dX4_vote_55 (c_X4_present κ.l hl κ.Γ M8 a (hsc u 0 0) hR8 x) k1187 k1189 kp19 k5 k1190 rfl (MRep.obj hR8) ⟨rfl, by decide, by decide, (show (parseMethodDescriptor yX4_present.desc).map (fun d => d.parameters.length) = some 1 by decide +kernel)⟩ rfl (Nat.le_of_ble_eq_true rfl) (by rw [hRm]; decide) (by rw [hRm]; exact ⟨Nat.le_of_ble_eq_true rfl, Nat.le_of_ble_eq_true rfl⟩) ?_
        refine g_ifb_ne (tgt := 65) X dX4_vote_58 (by decide) (fun c10 => ?_) (fun c10 => ?_)
        · refine g_iconst (v := 0) X dX4_vote_65 (by decide) ?_
          refine g_callV (As := [.int 3, .int 0]) (ci := 4) X dX4_vote_66 (c_X4_fails0 κ.l hl κ.Γ M8 a (hsc u 0 0) hR8 3) k1164 k1166 kp15 k5 k1167 rfl (MRep.obj hR8) ⟨rfl, by decide, by decide, (show (parseMethodDescriptor yX4_fails.desc).map (fun d => d.parameters.length) = some 2 by decide +kernel)⟩ rfl (Nat.le_of_ble_eq_true rfl) (by rw [hRm]; decide) (by rw [hRm]; exact ⟨Nat.le_of_ble_eq_true rfl, Nat.le_of_ble_eq_true rfl⟩) (fun v11 M11 h11 => ?_) (fun _ _ h9 => by cases h9.1)
          obtain ⟨e11, hR11, hF11⟩ := h11
          have e11 : (Sum.inl v11 : Res) = rI 0 := e11
          cases e11
          have hR11 : MRep κ.Γ a (hsc u 0 0) M11 := by rw [← hsc_hsc (x := 0)]; exact hR11
          have hF11 := Fr.tr hF8 hF11
          refine g_if_eq (tgt := 74) X dX4_vote_69 (by decide) (fun c12 => ?_) (fun c12 => absurd c12 (by decide))
          refine g_aload_n X dX4_vote_74 rfl 0 rfl ?_
          refine g_callV (As := []) (ci := 4) X dX4_vote_75 (c_X4_change κ.l hl κ.Γ M11 a (hsc u 0 0) hR11 hk) k1168 k1170 kp16 k5 k1171 rfl (MRep.obj hR11) ⟨rfl, by decide, by decide, (show (parseMethodDescriptor yX4_change.desc).map (fun d => d.parameters.length) = some 0 by decide +kernel)⟩ rfl (Nat.le_of_ble_eq_true rfl) (by rw [hRm]; decide) (by rw [hRm]; exact ⟨Nat.le_of_ble_eq_true rfl, Nat.le_of_ble_eq_true rfl⟩) (fun v13 M13 h13 => ?_) (fun _ _ h9 => by cases h9.1)
          obtain ⟨e13, hR13, hF13⟩ := h13
          have e13 : (Sum.inl v13 : Res) = .inl none := e13
          cases e13
          have hR13 : MRep κ.Γ a (mChg (hsc u 0 0)) M13 := hR13
          have hF13 := Fr.tr hF11 hF13
          refine g_aload_n X dX4_vote_78 rfl 0 rfl ?_
          refine g_iload_n X dX4_vote_79 rfl 1 rfl ?_
          refine g_iload_n X dX4_vote_80 rfl 3 rfl ?_
          refine g_aload_n X dX4_vote_81 rfl 0 rfl ?_
          refine g_iload_n X dX4_vote_82 rfl 1 rfl ?_
          refine g_iload_n X dX4_vote_83 rfl 3 rfl ?_
          refine g_callV_rd (As := [.int (nI b9), .int (nI s9)]) (ci := 4) (v := some (.int ((mChg (hsc u 0 0)).2.1 1 (53 + 16 * b9 + s9)))) X dX4_vote_84 (c_X4_of κ.l hl κ.Γ M13 a (mChg (hsc u 0 0)) hR13 b9 s9 (by omega) (by omega)) k1263 k1265 kp25 k5 k1266 rfl (MRep.obj hR13) ⟨rfl, by decide, by decide, (show (parseMethodDescriptor yX4_of.desc).map (fun d => d.parameters.length) = some 2 by decide +kernel)⟩ rfl (Nat.le_of_ble_eq_true rfl) (by rw [hRm]; decide) (by rw [hRm]; exact ⟨Nat.le_of_ble_eq_true rfl, Nat.le_of_ble_eq_true rfl⟩) ?_
          refine g_iconst (v := 1) X dX4_vote_87 (by decide) ?_
          refine g_iload_n X dX4_vote_88 rfl 2 rfl ?_
          refine g_ishl X dX4_vote_89 ?_
          refine g_ior X dX4_vote_90 ?_
          refine g_callV (As := [.int (nI b9), .int (nI s9), .int (((mChg (hsc u 0 0)).2.1 1 (53 + 16 * b9 + s9)) ||| (shl 1 x))]) (ci := 4) X dX4_vote_91 (c_X4_put κ.l hl κ.Γ M13 a (mChg (hsc u 0 0)) hR13 b9 s9 (((mChg (hsc u 0 0)).2.1 1 (53 + 16 * b9 + s9)) ||| (shl 1 x)) (by omega) (by omega)) k1255 k1257 kp23 k5 k1258 rfl (MRep.obj hR13) ⟨rfl, by decide, by decide, (show (parseMethodDescriptor yX4_put.desc).map (fun d => d.parameters.length) = some 3 by decide +kernel)⟩ rfl (Nat.le_of_ble_eq_true rfl) (by rw [hRm]; decide) (by rw [hRm]; exact ⟨Nat.le_of_ble_eq_true rfl, Nat.le_of_ble_eq_true rfl⟩) (fun v14 M14 h14 => ?_) (fun _ _ h9 => by cases h9.1)
          obtain ⟨e14, hR14, hF14⟩ := h14
          have e14 : (Sum.inl v14 : Res) = .inl none := e14
          cases e14
          have hR14 : MRep κ.Γ a (rPut (mChg (hsc u 0 0)) b9 s9 (((mChg (hsc u 0 0)).2.1 1 (53 + 16 * b9 + s9)) ||| (shl 1 x))) M14 := hR14
          have hF14 := Fr.tr hF13 hF14
          refine g_aload_n X dX4_vote_94 rfl 0 rfl ?_
          refine g_iload_n X dX4_vote_95 rfl 1 rfl ?_
          refine g_iload X dX4_vote_96 4 rfl ?_
          refine g_aload_n X dX4_vote_98 rfl 0 rfl ?_
          refine g_iload_n X dX4_vote_99 rfl 1 rfl ?_
          refine g_iload X dX4_vote_100 4 rfl ?_
          refine g_callV_rd (As := [.int (nI b9), .int (nI o9)]) (ci := 4) (v := some (.int ((rPut (mChg (hsc u 0 0)) b9 s9 (((mChg (hsc u 0 0)).2.1 1 (53 + 16 * b9 + s9)) ||| (shl 1 x))).2.1 1 (53 + 16 * b9 + o9)))) X dX4_vote_102 (c_X4_of κ.l hl κ.Γ M14 a (rPut (mChg (hsc u 0 0)) b9 s9 (((mChg (hsc u 0 0)).2.1 1 (53 + 16 * b9 + s9)) ||| (shl 1 x))) hR14 b9 o9 (by omega) (by omega)) k1263 k1265 kp25 k5 k1266 rfl (MRep.obj hR14) ⟨rfl, by decide, by decide, (show (parseMethodDescriptor yX4_of.desc).map (fun d => d.parameters.length) = some 2 by decide +kernel)⟩ rfl (Nat.le_of_ble_eq_true rfl) (by rw [hRm]; decide) (by rw [hRm]; exact ⟨Nat.le_of_ble_eq_true rfl, Nat.le_of_ble_eq_true rfl⟩) ?_
          refine g_iconst (v := 1) X dX4_vote_105 (by decide) ?_
          refine g_iload_n X dX4_vote_106 rfl 2 rfl ?_
          refine g_ishl X dX4_vote_107 ?_
          refine g_iconst (v := (-1)) X dX4_vote_108 (by decide) ?_
          refine g_ixor X dX4_vote_109 ?_
          refine g_iand X dX4_vote_110 ?_
          refine g_callV (As := [.int (nI b9), .int (nI o9), .int (((rPut (mChg (hsc u 0 0)) b9 s9 (((mChg (hsc u 0 0)).2.1 1 (53 + 16 * b9 + s9)) ||| (shl 1 x))).2.1 1 (53 + 16 * b9 + o9)) &&& ((shl 1 x) ^^^ (-1)))]) (ci := 4) X dX4_vote_111 (c_X4_put κ.l hl κ.Γ M14 a (rPut (mChg (hsc u 0 0)) b9 s9 (((mChg (hsc u 0 0)).2.1 1 (53 + 16 * b9 + s9)) ||| (shl 1 x))) hR14 b9 o9 (((rPut (mChg (hsc u 0 0)) b9 s9 (((mChg (hsc u 0 0)).2.1 1 (53 + 16 * b9 + s9)) ||| (shl 1 x))).2.1 1 (53 + 16 * b9 + o9)) &&& ((shl 1 x) ^^^ (-1))) (by omega) (by omega)) k1255 k1257 kp23 k5 k1258 rfl (MRep.obj hR14) ⟨rfl, by decide, by decide, (show (parseMethodDescriptor yX4_put.desc).map (fun d => d.parameters.length) = some 3 by decide +kernel)⟩ rfl (Nat.le_of_ble_eq_true rfl) (by rw [hRm]; decide) (by rw [hRm]; exact ⟨Nat.le_of_ble_eq_true rfl, Nat.le_of_ble_eq_true rfl⟩) (fun v15 M15 h15 => ?_) (fun _ _ h9 => by cases h9.1)
          obtain ⟨e15, hR15, hF15⟩ := h15
          have e15 : (Sum.inl v15 : Res) = .inl none := e15
          cases e15
          have hR15 : MRep κ.Γ a (rPut (rPut (mChg (hsc u 0 0)) b9 s9 (((mChg (hsc u 0 0)).2.1 1 (53 + 16 * b9 + s9)) ||| (shl 1 x))) b9 o9 (((rPut (mChg (hsc u 0 0)) b9 s9 (((mChg (hsc u 0 0)).2.1 1 (53 + 16 * b9 + s9)) ||| (shl 1 x))).2.1 1 (53 + 16 * b9 + o9)) &&& ((shl 1 x) ^^^ (-1)))) M15 := hR15
          have hF15 := Fr.tr hF14 hF15
          refine g_aload_n X dX4_vote_114 rfl 0 rfl ?_
          refine g_aload_n X dX4_vote_115 rfl 0 rfl ?_
          refine g_iload_n X dX4_vote_116 rfl 1 rfl ?_
          refine g_iload_n X dX4_vote_117 rfl 3 rfl ?_
          refine g_callV_rd (As := [.int (nI b9), .int (nI s9)]) (ci := 4) (v := some (.int ((rPut (rPut (mChg (hsc u 0 0)) b9 s9 (((mChg (hsc u 0 0)).2.1 1 (53 + 16 * b9 + s9)) ||| (shl 1 x))) b9 o9 (((rPut (mChg (hsc u 0 0)) b9 s9 (((mChg (hsc u 0 0)).2.1 1 (53 + 16 * b9 + s9)) ||| (shl 1 x))).2.1 1 (53 + 16 * b9 + o9)) &&& ((shl 1 x) ^^^ (-1)))).2.1 1 (53 + 16 * b9 + s9)))) X dX4_vote_118 (c_X4_of κ.l hl κ.Γ M15 a (rPut (rPut (mChg (hsc u 0 0)) b9 s9 (((mChg (hsc u 0 0)).2.1 1 (53 + 16 * b9 + s9)) ||| (shl 1 x))) b9 o9 (((rPut (mChg (hsc u 0 0)) b9 s9 (((mChg (hsc u 0 0)).2.1 1 (53 + 16 * b9 + s9)) ||| (shl 1 x))).2.1 1 (53 + 16 * b9 + o9)) &&& ((shl 1 x) ^^^ (-1)))) hR15 b9 s9 (by omega) (by omega)) k1263 k1265 kp25 k5 k1266 rfl (MRep.obj hR15) ⟨rfl, by decide, by decide, (show (parseMethodDescriptor yX4_of.desc).map (fun d => d.parameters.length) = some 2 by decide +kernel)⟩ rfl (Nat.le_of_ble_eq_true rfl) (by rw [hRm]; decide) (by rw [hRm]; exact ⟨Nat.le_of_ble_eq_true rfl, Nat.le_of_ble_eq_true rfl⟩) ?_
          refine g_callV_rd (As := [.int ((rPut (rPut (mChg (hsc u 0 0)) b9 s9 (((mChg (hsc u 0 0)).2.1 1 (53 + 16 * b9 + s9)) ||| (shl 1 x))) b9 o9 (((rPut (mChg (hsc u 0 0)) b9 s9 (((mChg (hsc u 0 0)).2.1 1 (53 + 16 * b9 + s9)) ||| (shl 1 x))).2.1 1 (53 + 16 * b9 + o9)) &&& ((shl 1 x) ^^^ (-1)))).2.1 1 (53 + 16 * b9 + s9))]) (ci := 4) (v := some (.int (rSum (rPut (rPut (mChg (hsc u 0 0)) b9 s9 (((mChg (hsc u 0 0)).2.1 1 (53 + 16 * b9 + s9)) ||| (shl 1 x))) b9 o9 (((rPut (mChg (hsc u 0 0)) b9 s9 (((mChg (hsc u 0 0)).2.1 1 (53 + 16 * b9 + s9)) ||| (shl 1 x))).2.1 1 (53 + 16 * b9 + o9)) &&& ((shl 1 x) ^^^ (-1)))) ((rPut (rPut (mChg (hsc u 0 0)) b9 s9 (((mChg (hsc u 0 0)).2.1 1 (53 + 16 * b9 + s9)) ||| (shl 1 x))) b9 o9 (((rPut (mChg (hsc u 0 0)) b9 s9 (((mChg (hsc u 0 0)).2.1 1 (53 + 16 * b9 + s9)) ||| (shl 1 x))).2.1 1 (53 + 16 * b9 + o9)) &&& ((shl 1 x) ^^^ (-1)))).2.1 1 (53 + 16 * b9 + s9)) (cN ((rPut (rPut (mChg (hsc u 0 0)) b9 s9 (((mChg (hsc u 0 0)).2.1 1 (53 + 16 * b9 + s9)) ||| (shl 1 x))) b9 o9 (((rPut (mChg (hsc u 0 0)) b9 s9 (((mChg (hsc u 0 0)).2.1 1 (53 + 16 * b9 + s9)) ||| (shl 1 x))).2.1 1 (53 + 16 * b9 + o9)) &&& ((shl 1 x) ^^^ (-1)))).2.1 1 0))))) X dX4_vote_121 (c_X4_weigh κ.l hl κ.Γ M15 a (rPut (rPut (mChg (hsc u 0 0)) b9 s9 (((mChg (hsc u 0 0)).2.1 1 (53 + 16 * b9 + s9)) ||| (shl 1 x))) b9 o9 (((rPut (mChg (hsc u 0 0)) b9 s9 (((mChg (hsc u 0 0)).2.1 1 (53 + 16 * b9 + s9)) ||| (shl 1 x))).2.1 1 (53 + 16 * b9 + o9)) &&& ((shl 1 x) ^^^ (-1)))) hR15 ((rPut (rPut (mChg (hsc u 0 0)) b9 s9 (((mChg (hsc u 0 0)).2.1 1 (53 + 16 * b9 + s9)) ||| (shl 1 x))) b9 o9 (((rPut (mChg (hsc u 0 0)) b9 s9 (((mChg (hsc u 0 0)).2.1 1 (53 + 16 * b9 + s9)) ||| (shl 1 x))).2.1 1 (53 + 16 * b9 + o9)) &&& ((shl 1 x) ^^^ (-1)))).2.1 1 (53 + 16 * b9 + s9)) (RInv.putU (u := rPut (mChg (hsc u 0 0)) b9 s9 (((mChg (hsc u 0 0)).2.1 1 (53 + 16 * b9 + s9)) ||| (shl 1 x))) (b := b9) (k := o9) (v := ((rPut (mChg (hsc u 0 0)) b9 s9 (((mChg (hsc u 0 0)).2.1 1 (53 + 16 * b9 + s9)) ||| (shl 1 x))).2.1 1 (53 + 16 * b9 + o9)) &&& ((shl 1 x) ^^^ (-1))) (RInv.putU (u := mChg (hsc u 0 0)) (b := b9) (k := s9) (v := ((mChg (hsc u 0 0)).2.1 1 (53 + 16 * b9 + s9)) ||| (shl 1 x)) (RInv.chg hi) (by omega) (by omega)) (by omega) (by omega))) k1333 k1335 kp32 k5 k1336 rfl (MRep.obj hR15) ⟨rfl, by decide, by decide, (show (parseMethodDescriptor yX4_weigh.desc).map (fun d => d.parameters.length) = some 1 by decide +kernel)⟩ rfl (Nat.le_of_ble_eq_true rfl) (by rw [hRm]; decide) (by rw [hRm]; exact ⟨Nat.le_of_ble_eq_true rfl, Nat.le_of_ble_eq_true rfl⟩) ?_
          exact g_iret X F dX4_vote_124 (by omega) (by omega) (by unfold mVote; (try rw [hcb9]); exact (MMu.n (fun z => z.elim (by first | exact c1 | exact fun q => q c1 | exact fun q => c1 q | exact Classical.not_not.mp c1) (by first | exact c4 | exact fun q => q c4 | exact fun q => c4 q | exact Classical.not_not.mp c4)) (MMu.n (by first | exact c7 | exact fun q => q c7 | exact fun q => c7 q | exact Classical.not_not.mp c7) (MMu.n (by first | exact c10 | exact fun q => q c10 | exact fun q => c10 q | exact Classical.not_not.mp c10) ⟨rfl, by (try unfold sVote); exact hR15, hF15⟩))))
        · refine g_iconst (v := 1) X dX4_vote_61 (by decide) ?_
          refine g_goto (tgt := 66) X dX4_vote_62 (by decide) ?_
          refine g_callV (As := [.int 3, .int 1]) (ci := 4) X dX4_vote_66 (c_X4_fails1 κ.l hl κ.Γ M8 a (hsc u 0 0) hR8 3) k1164 k1166 kp15 k5 k1167 rfl (MRep.obj hR8) ⟨rfl, by decide, by decide, (show (parseMethodDescriptor yX4_fails.desc).map (fun d => d.parameters.length) = some 2 by decide +kernel)⟩ rfl (Nat.le_of_ble_eq_true rfl) (by rw [hRm]; decide) (by rw [hRm]; exact ⟨Nat.le_of_ble_eq_true rfl, Nat.le_of_ble_eq_true rfl⟩) (fun v16 M16 h16 => ?_) (fun _ _ h9 => by cases h9.1)
          obtain ⟨e16, hR16, hF16⟩ := h16
          have e16 : (Sum.inl v16 : Res) = rI 1 := e16
          cases e16
          have hR16 : MRep κ.Γ a (hsc u 0 3) M16 := by rw [← hsc_hsc (x := 0)]; exact hR16
          have hF16 := Fr.tr hF8 hF16
          refine g_if_eq (tgt := 74) X dX4_vote_69 (by decide) (fun c17 => absurd c17 (by decide)) (fun c17 => ?_)
          refine g_iconst (v := 0) X dX4_vote_72 (by decide) ?_
          exact g_iret X F dX4_vote_73 (by omega) (by omega) (by unfold mVote; (try rw [hcb9]); exact (MMu.n (fun z => z.elim (by first | exact c1 | exact fun q => q c1 | exact fun q => c1 q | exact Classical.not_not.mp c1) (by first | exact c4 | exact fun q => q c4 | exact fun q => c4 q | exact Classical.not_not.mp c4)) (MMu.n (by first | exact c7 | exact fun q => q c7 | exact fun q => c7 q | exact Classical.not_not.mp c7) (MMu.y (by first | exact c10 | exact fun q => q c10 | exact fun q => c10 q | exact Classical.not_not.mp c10) ⟨rfl, hR16, hF16⟩))))
      · refine g_iconst (v := 1) X dX4_vote_40 (by decide) ?_
        refine g_goto (tgt := 45) X dX4_vote_41 (by decide) ?_
        refine g_callV (As := [.int 2, .int 1]) (ci := 4) X dX4_vote_45 (c_X4_fails1 κ.l hl κ.Γ M5 a (hsc u 0 0) hR5 2) k1164 k1166 kp15 k5 k1167 rfl (MRep.obj hR5) ⟨rfl, by decide, by decide, (show (parseMethodDescriptor yX4_fails.desc).map (fun d => d.parameters.length) = some 2 by decide +kernel)⟩ rfl (Nat.le_of_ble_eq_true rfl) (by rw [hRm]; decide) (by rw [hRm]; exact ⟨Nat.le_of_ble_eq_true rfl, Nat.le_of_ble_eq_true rfl⟩) (fun v18 M18 h18 => ?_) (fun _ _ h9 => by cases h9.1)
        obtain ⟨e18, hR18, hF18⟩ := h18
        have e18 : (Sum.inl v18 : Res) = rI 1 := e18
        cases e18
        have hR18 : MRep κ.Γ a (hsc u 0 2) M18 := by rw [← hsc_hsc (x := 0)]; exact hR18
        have hF18 := Fr.tr hF5 hF18
        refine g_if_ne (tgt := 72) X dX4_vote_48 (by decide) (fun c19 => ?_) (fun c19 => absurd c19 (by decide))
        refine g_iconst (v := 0) X dX4_vote_72 (by decide) ?_
        exact g_iret X F dX4_vote_73 (by omega) (by omega) (by unfold mVote; (try rw [hcb9]); exact (MMu.n (fun z => z.elim (by first | exact c1 | exact fun q => q c1 | exact fun q => c1 q | exact Classical.not_not.mp c1) (by first | exact c4 | exact fun q => q c4 | exact fun q => c4 q | exact Classical.not_not.mp c4)) (MMu.y (by first | exact c7 | exact fun q => q c7 | exact fun q => c7 q | exact Classical.not_not.mp c7) ⟨rfl, hR18, hF18⟩)))
    · refine g_iconst (v := 1) X dX4_vote_18 (by decide) ?_
      refine g_goto (tgt := 23) X dX4_vote_19 (by decide) ?_
      refine g_callV (As := [.int 1, .int 1]) (ci := 4) X dX4_vote_23 (c_X4_fails1 κ.l hl κ.Γ M a u hR 1) k1164 k1166 kp15 k5 k1167 rfl (MRep.obj hR) ⟨rfl, by decide, by decide, (show (parseMethodDescriptor yX4_fails.desc).map (fun d => d.parameters.length) = some 2 by decide +kernel)⟩ rfl (Nat.le_of_ble_eq_true rfl) (by rw [hRm]; decide) (by rw [hRm]; exact ⟨Nat.le_of_ble_eq_true rfl, Nat.le_of_ble_eq_true rfl⟩) (fun v20 M20 h20 => ?_) (fun _ _ h9 => by cases h9.1)
      obtain ⟨e20, hR20, hF20⟩ := h20
      have e20 : (Sum.inl v20 : Res) = rI 1 := e20
      cases e20
      refine g_if_ne (tgt := 72) X dX4_vote_26 (by decide) (fun c21 => ?_) (fun c21 => absurd c21 (by decide))
      refine g_iconst (v := 0) X dX4_vote_72 (by decide) ?_
      exact g_iret X F dX4_vote_73 (by omega) (by omega) (by unfold mVote; exact (MMu.y (Or.inr (by first | exact c4 | exact fun q => q c4 | exact fun q => c4 q | exact Classical.not_not.mp c4)) ⟨rfl, hR20, hF20⟩))
noncomputable def mVoteFor (u : HV) (b : Int32) (x : Int32) : Res × HV := mVote u b x 5 6
set_option maxRecDepth 100000 in
set_option maxHeartbeats 4000000 in
theorem c_X4_voteFor (l : Launch) (hl : l.stackTraces = false) (Γ : Gm) (M : Hp) (a : Nat → Nat) (u : HV) (hR : MRep Γ a u M) (b : Int32) (x : Int32) (hi : RInv (u.2.1 1)) (hk : KInv u) : Ct l Γ yX4_voteFor cX4_voteFor 3 (some .int) 4 0 0 [.ref (a 0), .int b, .int x] M (MMu Γ a (mVoteFor u b x) M) := by
  refine Ct.of hl (by decide) (Nat.le_of_ble_eq_true rfl) rfl ?_
  intro κ e1 e2 hnL hRm X F hlt
  subst e1 e2
  refine g_aload_n X dX4_voteFor_0 rfl 0 rfl ?_
  refine g_iload_n X dX4_voteFor_1 rfl 1 rfl ?_
  refine g_iload_n X dX4_voteFor_2 rfl 2 rfl ?_
  refine g_iconst (v := 5) X dX4_voteFor_3 (by decide) ?_
  refine g_bipush (v := 6) X dX4_voteFor_4 (by decide) ?_
  refine g_callV (As := [.int b, .int x, .int 5, .int 6]) (ci := 4) X dX4_voteFor_6 (c_X4_vote κ.l hl κ.Γ M a u hR b x 5 6 hi hk (by omega) (by omega)) k1329 k1331 kp31 k5 k1332 rfl (MRep.obj hR) ⟨rfl, by decide, by decide, (show (parseMethodDescriptor yX4_vote.desc).map (fun d => d.parameters.length) = some 4 by decide +kernel)⟩ rfl (Nat.le_of_ble_eq_true rfl) (by rw [hRm]; decide) (by rw [hRm]; exact ⟨Nat.le_of_ble_eq_true rfl, Nat.le_of_ble_eq_true rfl⟩) (fun v0 M0 h0 => ?_) (fun E0 M0 h0 => absurd h0.1 (by exact ansI.nx (by unfold mVote; exact ansI.g (ansI.g (ansI.g ⟨_, rfl⟩)))))
  obtain ⟨e0, hR0, hF0⟩ := h0
  obtain ⟨y0, e1⟩ : ∃ y : Int32, (mVote u b x 5 6).1 = rI y := (by unfold mVote; exact ansI.g (ansI.g (ansI.g ⟨_, rfl⟩)))
  rw [e1] at e0
  cases e0
  exact g_iret X F dX4_voteFor_9 (by omega) (by omega) (by unfold mVoteFor; exact ⟨e1.symm, hR0, hF0⟩)
noncomputable def mVoteAgainst (u : HV) (b : Int32) (x : Int32) : Res × HV := mVote u b x 6 5
set_option maxRecDepth 100000 in
set_option maxHeartbeats 4000000 in
theorem c_X4_voteAgainst (l : Launch) (hl : l.stackTraces = false) (Γ : Gm) (M : Hp) (a : Nat → Nat) (u : HV) (hR : MRep Γ a u M) (b : Int32) (x : Int32) (hi : RInv (u.2.1 1)) (hk : KInv u) : Ct l Γ yX4_voteAgainst cX4_voteAgainst 3 (some .int) 4 0 0 [.ref (a 0), .int b, .int x] M (MMu Γ a (mVoteAgainst u b x) M) := by
  refine Ct.of hl (by decide) (Nat.le_of_ble_eq_true rfl) rfl ?_
  intro κ e1 e2 hnL hRm X F hlt
  subst e1 e2
  refine g_aload_n X dX4_voteAgainst_0 rfl 0 rfl ?_
  refine g_iload_n X dX4_voteAgainst_1 rfl 1 rfl ?_
  refine g_iload_n X dX4_voteAgainst_2 rfl 2 rfl ?_
  refine g_bipush (v := 6) X dX4_voteAgainst_3 (by decide) ?_
  refine g_iconst (v := 5) X dX4_voteAgainst_5 (by decide) ?_
  refine g_callV (As := [.int b, .int x, .int 6, .int 5]) (ci := 4) X dX4_voteAgainst_6 (c_X4_vote κ.l hl κ.Γ M a u hR b x 6 5 hi hk (by omega) (by omega)) k1329 k1331 kp31 k5 k1332 rfl (MRep.obj hR) ⟨rfl, by decide, by decide, (show (parseMethodDescriptor yX4_vote.desc).map (fun d => d.parameters.length) = some 4 by decide +kernel)⟩ rfl (Nat.le_of_ble_eq_true rfl) (by rw [hRm]; decide) (by rw [hRm]; exact ⟨Nat.le_of_ble_eq_true rfl, Nat.le_of_ble_eq_true rfl⟩) (fun v0 M0 h0 => ?_) (fun E0 M0 h0 => absurd h0.1 (by exact ansI.nx (by unfold mVote; exact ansI.g (ansI.g (ansI.g ⟨_, rfl⟩)))))
  obtain ⟨e0, hR0, hF0⟩ := h0
  obtain ⟨y0, e1⟩ : ∃ y : Int32, (mVote u b x 6 5).1 = rI y := (by unfold mVote; exact ansI.g (ansI.g (ansI.g ⟨_, rfl⟩)))
  rw [e1] at e0
  cases e0
  exact g_iret X F dX4_voteAgainst_9 (by omega) (by omega) (by unfold mVoteAgainst; exact ⟨e1.symm, hR0, hF0⟩)
noncomputable def mCloseReading (u : HV) (b : Int32) : Res × HV := mG (¬ isBl u b) 1 zI u (mG (¬ rB u (cN b) 0 = 0) 2 zI u (mG (¬ quo u ∨ ¬ rB u (cN b) 7 ≤ 0) 3 zI u ((rI (bI (rSuc (uC u) (cN b))), sCls (uC u) (cN b)))))
set_option maxRecDepth 100000 in
set_option maxHeartbeats 4000000 in
theorem c_X4_closeReading (l : Launch) (hl : l.stackTraces = false) (Γ : Gm) (M : Hp) (a : Nat → Nat) (u : HV) (hR : MRep Γ a u M) (b : Int32) (hi : RInv (u.2.1 1)) (hk : KInv u) : Ct l Γ yX4_closeReading cX4_closeReading 3 (some .boolean) 3 0 0 [.ref (a 0), .int b] M (MMu Γ a (mCloseReading u b) M) := by
  refine Ct.of hl (by decide) (Nat.le_of_ble_eq_true rfl) rfl ?_
  intro κ e1 e2 hnL hRm X F hlt
  subst e1 e2
  refine g_aload_n X dX4_closeReading_0 rfl 0 rfl ?_
  refine g_iconst (v := 1) X dX4_closeReading_1 (by decide) ?_
  refine g_aload_n X dX4_closeReading_2 rfl 0 rfl ?_
  refine g_iload_n X dX4_closeReading_3 rfl 1 rfl ?_
  refine g_callV_rd (As := [.int b]) (ci := 4) (v := some (.int (bI (btw b 0 (u.2.1 1 1 - 1))))) X dX4_closeReading_4 (c_X4_isBill κ.l hl κ.Γ M a u hR b) k1275 k1277 kp26 k5 k1278 rfl (MRep.obj hR) ⟨rfl, by decide, by decide, (show (parseMethodDescriptor yX4_isBill.desc).map (fun d => d.parameters.length) = some 1 by decide +kernel)⟩ rfl (Nat.le_of_ble_eq_true rfl) (by rw [hRm]; decide) (by rw [hRm]; exact ⟨Nat.le_of_ble_eq_true rfl, Nat.le_of_ble_eq_true rfl⟩) ?_
  refine g_ifb_ne (tgt := 14) X dX4_closeReading_7 (by decide) (fun c1 => ?_) (fun c1 => ?_)
  · refine g_iconst (v := 0) X dX4_closeReading_14 (by decide) ?_
    refine g_callV (As := [.int 1, .int 0]) (ci := 4) X dX4_closeReading_15 (c_X4_fails0 κ.l hl κ.Γ M a u hR 1) k1164 k1166 kp15 k5 k1167 rfl (MRep.obj hR) ⟨rfl, by decide, by decide, (show (parseMethodDescriptor yX4_fails.desc).map (fun d => d.parameters.length) = some 2 by decide +kernel)⟩ rfl (Nat.le_of_ble_eq_true rfl) (by rw [hRm]; decide) (by rw [hRm]; exact ⟨Nat.le_of_ble_eq_true rfl, Nat.le_of_ble_eq_true rfl⟩) (fun v2 M2 h2 => ?_) (fun _ _ h9 => by cases h9.1)
    obtain ⟨e2, hR2, hF2⟩ := h2
    have e2 : (Sum.inl v2 : Res) = rI 0 := e2
    cases e2
    obtain ⟨b9, hb9, hcb9, rfl⟩ := RInv.bil hi c1
    refine g_if_ne (tgt := 73) X dX4_closeReading_18 (by decide) (fun c3 => absurd c3 (by decide)) (fun c3 => ?_)
    refine g_aload_n X dX4_closeReading_21 rfl 0 rfl ?_
    refine g_iconst (v := 2) X dX4_closeReading_22 (by decide) ?_
    refine g_aload_n X dX4_closeReading_23 rfl 0 rfl ?_
    refine g_iload_n X dX4_closeReading_24 rfl 1 rfl ?_
    refine g_iconst (v := 0) X dX4_closeReading_25 (by decide) ?_
    refine g_callV_rd (As := [.int (nI b9), .int 0]) (ci := 4) (v := some (.int (u.2.1 1 (53 + 16 * b9 + 0)))) X dX4_closeReading_26 (c_X4_of κ.l hl κ.Γ M2 a (hsc u 0 0) hR2 b9 0 (by omega) (by omega)) k1263 k1265 kp25 k5 k1266 rfl (MRep.obj hR2) ⟨rfl, by decide, by decide, (show (parseMethodDescriptor yX4_of.desc).map (fun d => d.parameters.length) = some 2 by decide +kernel)⟩ rfl (Nat.le_of_ble_eq_true rfl) (by rw [hRm]; decide) (by rw [hRm]; exact ⟨Nat.le_of_ble_eq_true rfl, Nat.le_of_ble_eq_true rfl⟩) ?_
    refine g_if_eq (tgt := 36) X dX4_closeReading_29 (by decide) (fun c4 => ?_) (fun c4 => ?_)
    · refine g_iconst (v := 0) X dX4_closeReading_36 (by decide) ?_
      refine g_callV (As := [.int 2, .int 0]) (ci := 4) X dX4_closeReading_37 (c_X4_fails0 κ.l hl κ.Γ M2 a (hsc u 0 0) hR2 2) k1164 k1166 kp15 k5 k1167 rfl (MRep.obj hR2) ⟨rfl, by decide, by decide, (show (parseMethodDescriptor yX4_fails.desc).map (fun d => d.parameters.length) = some 2 by decide +kernel)⟩ rfl (Nat.le_of_ble_eq_true rfl) (by rw [hRm]; decide) (by rw [hRm]; exact ⟨Nat.le_of_ble_eq_true rfl, Nat.le_of_ble_eq_true rfl⟩) (fun v5 M5 h5 => ?_) (fun _ _ h9 => by cases h9.1)
      obtain ⟨e5, hR5, hF5⟩ := h5
      have e5 : (Sum.inl v5 : Res) = rI 0 := e5
      cases e5
      have hR5 : MRep κ.Γ a (hsc u 0 0) M5 := by rw [← hsc_hsc (x := 0)]; exact hR5
      have hF5 := Fr.tr hF2 hF5
      refine g_if_ne (tgt := 73) X dX4_closeReading_40 (by decide) (fun c6 => absurd c6 (by decide)) (fun c6 => ?_)
      refine g_aload_n X dX4_closeReading_43 rfl 0 rfl ?_
      refine g_iconst (v := 3) X dX4_closeReading_44 (by decide) ?_
      refine g_aload_n X dX4_closeReading_45 rfl 0 rfl ?_
      refine g_callV_rd (As := []) (ci := 4) (v := some (.int (bI (u.2.1 1 3 ≤ jbc (u.2.1 1 2))))) X dX4_closeReading_46 (c_X4_quorate κ.l hl κ.Γ M5 a (hsc u 0 0) hR5) k1232 k1234 kp21 k5 k1235 rfl (MRep.obj hR5) ⟨rfl, by decide, by decide, (show (parseMethodDescriptor yX4_quorate.desc).map (fun d => d.parameters.length) = some 0 by decide +kernel)⟩ rfl (Nat.le_of_ble_eq_true rfl) (by rw [hRm]; decide) (by rw [hRm]; exact ⟨Nat.le_of_ble_eq_true rfl, Nat.le_of_ble_eq_true rfl⟩) ?_
      refine g_ifb_eq (tgt := 62) X dX4_closeReading_49 (by decide) (fun c7 => ?_) (fun c7 => ?_)
      · refine g_iconst (v := 1) X dX4_closeReading_62 (by decide) ?_
        refine g_goto (tgt := 67) X dX4_closeReading_63 (by decide) ?_
        refine g_callV (As := [.int 3, .int 1]) (ci := 4) X dX4_closeReading_67 (c_X4_fails1 κ.l hl κ.Γ M5 a (hsc u 0 0) hR5 3) k1164 k1166 kp15 k5 k1167 rfl (MRep.obj hR5) ⟨rfl, by decide, by decide, (show (parseMethodDescriptor yX4_fails.desc).map (fun d => d.parameters.length) = some 2 by decide +kernel)⟩ rfl (Nat.le_of_ble_eq_true rfl) (by rw [hRm]; decide) (by rw [hRm]; exact ⟨Nat.le_of_ble_eq_true rfl, Nat.le_of_ble_eq_true rfl⟩) (fun v8 M8 h8 => ?_) (fun _ _ h9 => by cases h9.1)
        obtain ⟨e8, hR8, hF8⟩ := h8
        have e8 : (Sum.inl v8 : Res) = rI 1 := e8
        cases e8
        have hR8 : MRep κ.Γ a (hsc u 0 3) M8 := by rw [← hsc_hsc (x := 0)]; exact hR8
        have hF8 := Fr.tr hF5 hF8
        refine g_if_eq (tgt := 75) X dX4_closeReading_70 (by decide) (fun c9 => absurd c9 (by decide)) (fun c9 => ?_)
        refine g_iconst (v := 0) X dX4_closeReading_73 (by decide) ?_
        exact g_zret X F dX4_closeReading_74 (by omega) (by omega) rfl (by unfold mCloseReading; (try rw [hcb9]); exact (MMu.n (by first | exact c1 | exact fun q => q c1 | exact fun q => c1 q | exact Classical.not_not.mp c1) (MMu.n (by first | exact c4 | exact fun q => q c4 | exact fun q => c4 q | exact Classical.not_not.mp c4) (MMu.y (Or.inl (by first | exact c7 | exact fun q => q c7 | exact fun q => c7 q | exact Classical.not_not.mp c7)) ⟨rfl, hR8, hF8⟩))))
      · refine g_aload_n X dX4_closeReading_52 rfl 0 rfl ?_
        refine g_iload_n X dX4_closeReading_53 rfl 1 rfl ?_
        refine g_bipush (v := 7) X dX4_closeReading_54 (by decide) ?_
        refine g_callV_rd (As := [.int (nI b9), .int 7]) (ci := 4) (v := some (.int (u.2.1 1 (53 + 16 * b9 + 7)))) X dX4_closeReading_56 (c_X4_of κ.l hl κ.Γ M5 a (hsc u 0 0) hR5 b9 7 (by omega) (by omega)) k1263 k1265 kp25 k5 k1266 rfl (MRep.obj hR5) ⟨rfl, by decide, by decide, (show (parseMethodDescriptor yX4_of.desc).map (fun d => d.parameters.length) = some 2 by decide +kernel)⟩ rfl (Nat.le_of_ble_eq_true rfl) (by rw [hRm]; decide) (by rw [hRm]; exact ⟨Nat.le_of_ble_eq_true rfl, Nat.le_of_ble_eq_true rfl⟩) ?_
        refine g_if_le (tgt := 66) X dX4_closeReading_59 (by decide) (fun c10 => ?_) (fun c10 => ?_)
        · refine g_iconst (v := 0) X dX4_closeReading_66 (by decide) ?_
          refine g_callV (As := [.int 3, .int 0]) (ci := 4) X dX4_closeReading_67 (c_X4_fails0 κ.l hl κ.Γ M5 a (hsc u 0 0) hR5 3) k1164 k1166 kp15 k5 k1167 rfl (MRep.obj hR5) ⟨rfl, by decide, by decide, (show (parseMethodDescriptor yX4_fails.desc).map (fun d => d.parameters.length) = some 2 by decide +kernel)⟩ rfl (Nat.le_of_ble_eq_true rfl) (by rw [hRm]; decide) (by rw [hRm]; exact ⟨Nat.le_of_ble_eq_true rfl, Nat.le_of_ble_eq_true rfl⟩) (fun v11 M11 h11 => ?_) (fun _ _ h9 => by cases h9.1)
          obtain ⟨e11, hR11, hF11⟩ := h11
          have e11 : (Sum.inl v11 : Res) = rI 0 := e11
          cases e11
          have hR11 : MRep κ.Γ a (hsc u 0 0) M11 := by rw [← hsc_hsc (x := 0)]; exact hR11
          have hF11 := Fr.tr hF5 hF11
          refine g_if_eq (tgt := 75) X dX4_closeReading_70 (by decide) (fun c12 => ?_) (fun c12 => absurd c12 (by decide))
          refine g_aload_n X dX4_closeReading_75 rfl 0 rfl ?_
          refine g_callV (As := []) (ci := 4) X dX4_closeReading_76 (c_X4_change κ.l hl κ.Γ M11 a (hsc u 0 0) hR11 hk) k1168 k1170 kp16 k5 k1171 rfl (MRep.obj hR11) ⟨rfl, by decide, by decide, (show (parseMethodDescriptor yX4_change.desc).map (fun d => d.parameters.length) = some 0 by decide +kernel)⟩ rfl (Nat.le_of_ble_eq_true rfl) (by rw [hRm]; decide) (by rw [hRm]; exact ⟨Nat.le_of_ble_eq_true rfl, Nat.le_of_ble_eq_true rfl⟩) (fun v13 M13 h13 => ?_) (fun _ _ h9 => by cases h9.1)
          obtain ⟨e13, hR13, hF13⟩ := h13
          have e13 : (Sum.inl v13 : Res) = .inl none := e13
          cases e13
          have hR13 : MRep κ.Γ a (mChg (hsc u 0 0)) M13 := hR13
          have hF13 := Fr.tr hF11 hF13
          refine g_aload_n X dX4_closeReading_79 rfl 0 rfl ?_
          refine g_aload_n X dX4_closeReading_80 rfl 0 rfl ?_
          refine g_iload_n X dX4_closeReading_81 rfl 1 rfl ?_
          refine g_iconst (v := 5) X dX4_closeReading_82 (by decide) ?_
          refine g_callV_rd (As := [.int (nI b9), .int 5]) (ci := 4) (v := some (.int ((mChg (hsc u 0 0)).2.1 1 (53 + 16 * b9 + 5)))) X dX4_closeReading_83 (c_X4_of κ.l hl κ.Γ M13 a (mChg (hsc u 0 0)) hR13 b9 5 (by omega) (by omega)) k1263 k1265 kp25 k5 k1266 rfl (MRep.obj hR13) ⟨rfl, by decide, by decide, (show (parseMethodDescriptor yX4_of.desc).map (fun d => d.parameters.length) = some 2 by decide +kernel)⟩ rfl (Nat.le_of_ble_eq_true rfl) (by rw [hRm]; decide) (by rw [hRm]; exact ⟨Nat.le_of_ble_eq_true rfl, Nat.le_of_ble_eq_true rfl⟩) ?_
          refine g_callV_rd (As := [.int ((mChg (hsc u 0 0)).2.1 1 (53 + 16 * b9 + 5))]) (ci := 4) (v := some (.int (rSum (mChg (hsc u 0 0)) ((mChg (hsc u 0 0)).2.1 1 (53 + 16 * b9 + 5)) (cN ((mChg (hsc u 0 0)).2.1 1 0))))) X dX4_closeReading_86 (c_X4_weigh κ.l hl κ.Γ M13 a (mChg (hsc u 0 0)) hR13 ((mChg (hsc u 0 0)).2.1 1 (53 + 16 * b9 + 5)) (RInv.chg hi)) k1333 k1335 kp32 k5 k1336 rfl (MRep.obj hR13) ⟨rfl, by decide, by decide, (show (parseMethodDescriptor yX4_weigh.desc).map (fun d => d.parameters.length) = some 1 by decide +kernel)⟩ rfl (Nat.le_of_ble_eq_true rfl) (by rw [hRm]; decide) (by rw [hRm]; exact ⟨Nat.le_of_ble_eq_true rfl, Nat.le_of_ble_eq_true rfl⟩) ?_
          refine g_aload_n X dX4_closeReading_89 rfl 0 rfl ?_
          refine g_aload_n X dX4_closeReading_90 rfl 0 rfl ?_
          refine g_iload_n X dX4_closeReading_91 rfl 1 rfl ?_
          refine g_bipush (v := 6) X dX4_closeReading_92 (by decide) ?_
          refine g_callV_rd (As := [.int (nI b9), .int 6]) (ci := 4) (v := some (.int ((mChg (hsc u 0 0)).2.1 1 (53 + 16 * b9 + 6)))) X dX4_closeReading_94 (c_X4_of κ.l hl κ.Γ M13 a (mChg (hsc u 0 0)) hR13 b9 6 (by omega) (by omega)) k1263 k1265 kp25 k5 k1266 rfl (MRep.obj hR13) ⟨rfl, by decide, by decide, (show (parseMethodDescriptor yX4_of.desc).map (fun d => d.parameters.length) = some 2 by decide +kernel)⟩ rfl (Nat.le_of_ble_eq_true rfl) (by rw [hRm]; decide) (by rw [hRm]; exact ⟨Nat.le_of_ble_eq_true rfl, Nat.le_of_ble_eq_true rfl⟩) ?_
          refine g_callV_rd (As := [.int ((mChg (hsc u 0 0)).2.1 1 (53 + 16 * b9 + 6))]) (ci := 4) (v := some (.int (rSum (mChg (hsc u 0 0)) ((mChg (hsc u 0 0)).2.1 1 (53 + 16 * b9 + 6)) (cN ((mChg (hsc u 0 0)).2.1 1 0))))) X dX4_closeReading_97 (c_X4_weigh κ.l hl κ.Γ M13 a (mChg (hsc u 0 0)) hR13 ((mChg (hsc u 0 0)).2.1 1 (53 + 16 * b9 + 6)) (RInv.chg hi)) k1333 k1335 kp32 k5 k1336 rfl (MRep.obj hR13) ⟨rfl, by decide, by decide, (show (parseMethodDescriptor yX4_weigh.desc).map (fun d => d.parameters.length) = some 1 by decide +kernel)⟩ rfl (Nat.le_of_ble_eq_true rfl) (by rw [hRm]; decide) (by rw [hRm]; exact ⟨Nat.le_of_ble_eq_true rfl, Nat.le_of_ble_eq_true rfl⟩) ?_
          refine g_icmp_le (tgt := 107) X dX4_closeReading_100 (by decide) (fun c14 => ?_) (fun c14 => ?_)
          · refine g_iconst (v := 0) X dX4_closeReading_107 (by decide) ?_
            refine g_istore_n (L' := [(2, .int 0), (0, .ref (a 0)), (1, .int (nI b9))]) X dX4_closeReading_108 rfl (by rw [hnL]; decide) rfl ?_
            refine g_aload_n X dX4_closeReading_109 rfl 1 rfl ?_
            refine g_iload_n X dX4_closeReading_110 rfl 2 rfl ?_
            refine g_iconst (v := 3) X dX4_closeReading_111 (by decide) ?_
            refine g_aload_n X dX4_closeReading_112 rfl 1 rfl ?_
            refine g_iload_n X dX4_closeReading_113 rfl 2 rfl ?_
            refine g_iconst (v := 3) X dX4_closeReading_114 (by decide) ?_
            refine g_callV_rd (As := [.int (nI b9), .int 3]) (ci := 4) (v := some (.int ((mChg (hsc u 0 0)).2.1 1 (53 + 16 * b9 + 3)))) X dX4_closeReading_115 (c_X4_of κ.l hl κ.Γ M13 a (mChg (hsc u 0 0)) hR13 b9 3 (by omega) (by omega)) k1263 k1265 kp25 k5 k1266 rfl (MRep.obj hR13) ⟨rfl, by decide, by decide, (show (parseMethodDescriptor yX4_of.desc).map (fun d => d.parameters.length) = some 2 by decide +kernel)⟩ rfl (Nat.le_of_ble_eq_true rfl) (by rw [hRm]; decide) (by rw [hRm]; exact ⟨Nat.le_of_ble_eq_true rfl, Nat.le_of_ble_eq_true rfl⟩) ?_
            refine g_iload_n X dX4_closeReading_118 rfl 0 rfl ?_
            refine g_if_eq (tgt := 126) X dX4_closeReading_119 (by decide) (fun c15 => ?_) (fun c15 => absurd c15 (by decide))
            refine g_iconst (v := 0) X dX4_closeReading_126 (by decide) ?_
            refine g_iadd X dX4_closeReading_127 ?_
            refine g_callV (As := [.int (nI b9), .int 3, .int (((mChg (hsc u 0 0)).2.1 1 (53 + 16 * b9 + 3)) + 0)]) (ci := 4) X dX4_closeReading_128 (c_X4_put κ.l hl κ.Γ M13 a (mChg (hsc u 0 0)) hR13 b9 3 (((mChg (hsc u 0 0)).2.1 1 (53 + 16 * b9 + 3)) + 0) (by omega) (by omega)) k1255 k1257 kp23 k5 k1258 rfl (MRep.obj hR13) ⟨rfl, by decide, by decide, (show (parseMethodDescriptor yX4_put.desc).map (fun d => d.parameters.length) = some 3 by decide +kernel)⟩ rfl (Nat.le_of_ble_eq_true rfl) (by rw [hRm]; decide) (by rw [hRm]; exact ⟨Nat.le_of_ble_eq_true rfl, Nat.le_of_ble_eq_true rfl⟩) (fun v16 M16 h16 => ?_) (fun _ _ h9 => by cases h9.1)
            obtain ⟨e16, hR16, hF16⟩ := h16
            have e16 : (Sum.inl v16 : Res) = .inl none := e16
            cases e16
            have hR16 : MRep κ.Γ a (rPut (mChg (hsc u 0 0)) b9 3 (((mChg (hsc u 0 0)).2.1 1 (53 + 16 * b9 + 3)) + 0)) M16 := hR16
            have hF16 := Fr.tr hF13 hF16
            refine g_aload_n X dX4_closeReading_131 rfl 1 rfl ?_
            refine g_iload_n X dX4_closeReading_132 rfl 2 rfl ?_
            refine g_iload_n X dX4_closeReading_133 rfl 0 rfl ?_
            refine g_if_ne (tgt := 141) X dX4_closeReading_134 (by decide) (fun c17 => absurd c17 (by decide)) (fun c17 => ?_)
            refine g_iconst (v := 2) X dX4_closeReading_137 (by decide) ?_
            refine g_goto (tgt := 156) X dX4_closeReading_138 (by decide) ?_
            refine g_callV (As := [.int (nI b9), .int 2]) (ci := 4) X dX4_closeReading_156 (c_X4_finish κ.l hl κ.Γ M16 a (rPut (mChg (hsc u 0 0)) b9 3 (((mChg (hsc u 0 0)).2.1 1 (53 + 16 * b9 + 3)) + 0)) hR16 b9 2 (by omega)) k1358 k1360 kp33 k5 k1361 rfl (MRep.obj hR16) ⟨rfl, by decide, by decide, (show (parseMethodDescriptor yX4_finish.desc).map (fun d => d.parameters.length) = some 2 by decide +kernel)⟩ rfl (Nat.le_of_ble_eq_true rfl) (by rw [hRm]; decide) (by rw [hRm]; exact ⟨Nat.le_of_ble_eq_true rfl, Nat.le_of_ble_eq_true rfl⟩) (fun v18 M18 h18 => ?_) (fun _ _ h9 => by cases h9.1)
            obtain ⟨e18, hR18, hF18⟩ := h18
            have e18 : (Sum.inl v18 : Res) = .inl none := e18
            cases e18
            have hR18 : MRep κ.Γ a (mFin (rPut (mChg (hsc u 0 0)) b9 3 (((mChg (hsc u 0 0)).2.1 1 (53 + 16 * b9 + 3)) + 0)) b9 2) M18 := hR18
            have hF18 := Fr.tr hF16 hF18
            refine g_iload_n X dX4_closeReading_159 rfl 0 rfl ?_
            exact g_zret X F dX4_closeReading_160 (by omega) (by omega) rfl (by unfold mCloseReading; (try rw [hcb9]); exact (MMu.n (by first | exact c1 | exact fun q => q c1 | exact fun q => c1 q | exact Classical.not_not.mp c1) (MMu.n (by first | exact c4 | exact fun q => q c4 | exact fun q => c4 q | exact Classical.not_not.mp c4) (MMu.n (fun z => z.elim (by first | exact c7 | exact fun q => q c7 | exact fun q => c7 q | exact Classical.not_not.mp c7) (by first | exact c10 | exact fun q => q c10 | exact fun q => c10 q | exact Classical.not_not.mp c10)) ⟨by rw [bI_f (fun q => q c14)], by (unfold sCls; rw [if_pos c14]); exact hR18, hF18⟩))))
          · refine g_iconst (v := 1) X dX4_closeReading_103 (by decide) ?_
            refine g_goto (tgt := 108) X dX4_closeReading_104 (by decide) ?_
            refine g_istore_n (L' := [(2, .int 1), (0, .ref (a 0)), (1, .int (nI b9))]) X dX4_closeReading_108 rfl (by rw [hnL]; decide) rfl ?_
            refine g_aload_n X dX4_closeReading_109 rfl 1 rfl ?_
            refine g_iload_n X dX4_closeReading_110 rfl 2 rfl ?_
            refine g_iconst (v := 3) X dX4_closeReading_111 (by decide) ?_
            refine g_aload_n X dX4_closeReading_112 rfl 1 rfl ?_
            refine g_iload_n X dX4_closeReading_113 rfl 2 rfl ?_
            refine g_iconst (v := 3) X dX4_closeReading_114 (by decide) ?_
            refine g_callV_rd (As := [.int (nI b9), .int 3]) (ci := 4) (v := some (.int ((mChg (hsc u 0 0)).2.1 1 (53 + 16 * b9 + 3)))) X dX4_closeReading_115 (c_X4_of κ.l hl κ.Γ M13 a (mChg (hsc u 0 0)) hR13 b9 3 (by omega) (by omega)) k1263 k1265 kp25 k5 k1266 rfl (MRep.obj hR13) ⟨rfl, by decide, by decide, (show (parseMethodDescriptor yX4_of.desc).map (fun d => d.parameters.length) = some 2 by decide +kernel)⟩ rfl (Nat.le_of_ble_eq_true rfl) (by rw [hRm]; decide) (by rw [hRm]; exact ⟨Nat.le_of_ble_eq_true rfl, Nat.le_of_ble_eq_true rfl⟩) ?_
            refine g_iload_n X dX4_closeReading_118 rfl 0 rfl ?_
            refine g_if_eq (tgt := 126) X dX4_closeReading_119 (by decide) (fun c19 => absurd c19 (by decide)) (fun c19 => ?_)
            refine g_iconst (v := 1) X dX4_closeReading_122 (by decide) ?_
            refine g_goto (tgt := 127) X dX4_closeReading_123 (by decide) ?_
            refine g_iadd X dX4_closeReading_127 ?_
            refine g_callV (As := [.int (nI b9), .int 3, .int (((mChg (hsc u 0 0)).2.1 1 (53 + 16 * b9 + 3)) + 1)]) (ci := 4) X dX4_closeReading_128 (c_X4_put κ.l hl κ.Γ M13 a (mChg (hsc u 0 0)) hR13 b9 3 (((mChg (hsc u 0 0)).2.1 1 (53 + 16 * b9 + 3)) + 1) (by omega) (by omega)) k1255 k1257 kp23 k5 k1258 rfl (MRep.obj hR13) ⟨rfl, by decide, by decide, (show (parseMethodDescriptor yX4_put.desc).map (fun d => d.parameters.length) = some 3 by decide +kernel)⟩ rfl (Nat.le_of_ble_eq_true rfl) (by rw [hRm]; decide) (by rw [hRm]; exact ⟨Nat.le_of_ble_eq_true rfl, Nat.le_of_ble_eq_true rfl⟩) (fun v20 M20 h20 => ?_) (fun _ _ h9 => by cases h9.1)
            obtain ⟨e20, hR20, hF20⟩ := h20
            have e20 : (Sum.inl v20 : Res) = .inl none := e20
            cases e20
            have hR20 : MRep κ.Γ a (rPut (mChg (hsc u 0 0)) b9 3 (((mChg (hsc u 0 0)).2.1 1 (53 + 16 * b9 + 3)) + 1)) M20 := hR20
            have hF20 := Fr.tr hF13 hF20
            refine g_aload_n X dX4_closeReading_131 rfl 1 rfl ?_
            refine g_iload_n X dX4_closeReading_132 rfl 2 rfl ?_
            refine g_iload_n X dX4_closeReading_133 rfl 0 rfl ?_
            refine g_if_ne (tgt := 141) X dX4_closeReading_134 (by decide) (fun c21 => ?_) (fun c21 => absurd c21 (by decide))
            refine g_aload_n X dX4_closeReading_141 rfl 1 rfl ?_
            refine g_iload_n X dX4_closeReading_142 rfl 2 rfl ?_
            refine g_iconst (v := 3) X dX4_closeReading_143 (by decide) ?_
            refine g_callV_rd (As := [.int (nI b9), .int 3]) (ci := 4) (v := some (.int ((rPut (mChg (hsc u 0 0)) b9 3 (((mChg (hsc u 0 0)).2.1 1 (53 + 16 * b9 + 3)) + 1)).2.1 1 (53 + 16 * b9 + 3)))) X dX4_closeReading_144 (c_X4_of κ.l hl κ.Γ M20 a (rPut (mChg (hsc u 0 0)) b9 3 (((mChg (hsc u 0 0)).2.1 1 (53 + 16 * b9 + 3)) + 1)) hR20 b9 3 (by omega) (by omega)) k1263 k1265 kp25 k5 k1266 rfl (MRep.obj hR20) ⟨rfl, by decide, by decide, (show (parseMethodDescriptor yX4_of.desc).map (fun d => d.parameters.length) = some 2 by decide +kernel)⟩ rfl (Nat.le_of_ble_eq_true rfl) (by rw [hRm]; decide) (by rw [hRm]; exact ⟨Nat.le_of_ble_eq_true rfl, Nat.le_of_ble_eq_true rfl⟩) ?_
            refine g_iconst (v := 3) X dX4_closeReading_147 (by decide) ?_
            refine g_icmp_ne (tgt := 155) X dX4_closeReading_148 (by decide) (fun c22 => ?_) (fun c22 => ?_)
            · refine g_iconst (v := 0) X dX4_closeReading_155 (by decide) ?_
              refine g_callV (As := [.int (nI b9), .int 0]) (ci := 4) X dX4_closeReading_156 (c_X4_finish κ.l hl κ.Γ M20 a (rPut (mChg (hsc u 0 0)) b9 3 (((mChg (hsc u 0 0)).2.1 1 (53 + 16 * b9 + 3)) + 1)) hR20 b9 0 (by omega)) k1358 k1360 kp33 k5 k1361 rfl (MRep.obj hR20) ⟨rfl, by decide, by decide, (show (parseMethodDescriptor yX4_finish.desc).map (fun d => d.parameters.length) = some 2 by decide +kernel)⟩ rfl (Nat.le_of_ble_eq_true rfl) (by rw [hRm]; decide) (by rw [hRm]; exact ⟨Nat.le_of_ble_eq_true rfl, Nat.le_of_ble_eq_true rfl⟩) (fun v23 M23 h23 => ?_) (fun _ _ h9 => by cases h9.1)
              obtain ⟨e23, hR23, hF23⟩ := h23
              have e23 : (Sum.inl v23 : Res) = .inl none := e23
              cases e23
              have hR23 : MRep κ.Γ a (mFin (rPut (mChg (hsc u 0 0)) b9 3 (((mChg (hsc u 0 0)).2.1 1 (53 + 16 * b9 + 3)) + 1)) b9 0) M23 := hR23
              have hF23 := Fr.tr hF20 hF23
              refine g_iload_n X dX4_closeReading_159 rfl 0 rfl ?_
              exact g_zret X F dX4_closeReading_160 (by omega) (by omega) rfl (by unfold mCloseReading; (try rw [hcb9]); exact (MMu.n (by first | exact c1 | exact fun q => q c1 | exact fun q => c1 q | exact Classical.not_not.mp c1) (MMu.n (by first | exact c4 | exact fun q => q c4 | exact fun q => c4 q | exact Classical.not_not.mp c4) (MMu.n (fun z => z.elim (by first | exact c7 | exact fun q => q c7 | exact fun q => c7 q | exact Classical.not_not.mp c7) (by first | exact c10 | exact fun q => q c10 | exact fun q => c10 q | exact Classical.not_not.mp c10)) ⟨by rw [bI_t c14], by (unfold sCls; rw [if_neg c14, if_neg (show ¬ rB (sCls1 (uC u) b9) b9 3 = 3 from c22)]); exact hR23, hF23⟩))))
            · refine g_iconst (v := 1) X dX4_closeReading_151 (by decide) ?_
              refine g_goto (tgt := 156) X dX4_closeReading_152 (by decide) ?_
              refine g_callV (As := [.int (nI b9), .int 1]) (ci := 4) X dX4_closeReading_156 (c_X4_finish κ.l hl κ.Γ M20 a (rPut (mChg (hsc u 0 0)) b9 3 (((mChg (hsc u 0 0)).2.1 1 (53 + 16 * b9 + 3)) + 1)) hR20 b9 1 (by omega)) k1358 k1360 kp33 k5 k1361 rfl (MRep.obj hR20) ⟨rfl, by decide, by decide, (show (parseMethodDescriptor yX4_finish.desc).map (fun d => d.parameters.length) = some 2 by decide +kernel)⟩ rfl (Nat.le_of_ble_eq_true rfl) (by rw [hRm]; decide) (by rw [hRm]; exact ⟨Nat.le_of_ble_eq_true rfl, Nat.le_of_ble_eq_true rfl⟩) (fun v24 M24 h24 => ?_) (fun _ _ h9 => by cases h9.1)
              obtain ⟨e24, hR24, hF24⟩ := h24
              have e24 : (Sum.inl v24 : Res) = .inl none := e24
              cases e24
              have hR24 : MRep κ.Γ a (mFin (rPut (mChg (hsc u 0 0)) b9 3 (((mChg (hsc u 0 0)).2.1 1 (53 + 16 * b9 + 3)) + 1)) b9 1) M24 := hR24
              have hF24 := Fr.tr hF20 hF24
              refine g_iload_n X dX4_closeReading_159 rfl 0 rfl ?_
              exact g_zret X F dX4_closeReading_160 (by omega) (by omega) rfl (by unfold mCloseReading; (try rw [hcb9]); exact (MMu.n (by first | exact c1 | exact fun q => q c1 | exact fun q => c1 q | exact Classical.not_not.mp c1) (MMu.n (by first | exact c4 | exact fun q => q c4 | exact fun q => c4 q | exact Classical.not_not.mp c4) (MMu.n (fun z => z.elim (by first | exact c7 | exact fun q => q c7 | exact fun q => c7 q | exact Classical.not_not.mp c7) (by first | exact c10 | exact fun q => q c10 | exact fun q => c10 q | exact Classical.not_not.mp c10)) ⟨by rw [bI_t c14], by (unfold sCls; rw [if_neg c14, if_pos (show rB (sCls1 (uC u) b9) b9 3 = 3 from c22)]); exact hR24, hF24⟩))))
        · refine g_iconst (v := 1) X dX4_closeReading_62 (by decide) ?_
          refine g_goto (tgt := 67) X dX4_closeReading_63 (by decide) ?_
          refine g_callV (As := [.int 3, .int 1]) (ci := 4) X dX4_closeReading_67 (c_X4_fails1 κ.l hl κ.Γ M5 a (hsc u 0 0) hR5 3) k1164 k1166 kp15 k5 k1167 rfl (MRep.obj hR5) ⟨rfl, by decide, by decide, (show (parseMethodDescriptor yX4_fails.desc).map (fun d => d.parameters.length) = some 2 by decide +kernel)⟩ rfl (Nat.le_of_ble_eq_true rfl) (by rw [hRm]; decide) (by rw [hRm]; exact ⟨Nat.le_of_ble_eq_true rfl, Nat.le_of_ble_eq_true rfl⟩) (fun v25 M25 h25 => ?_) (fun _ _ h9 => by cases h9.1)
          obtain ⟨e25, hR25, hF25⟩ := h25
          have e25 : (Sum.inl v25 : Res) = rI 1 := e25
          cases e25
          have hR25 : MRep κ.Γ a (hsc u 0 3) M25 := by rw [← hsc_hsc (x := 0)]; exact hR25
          have hF25 := Fr.tr hF5 hF25
          refine g_if_eq (tgt := 75) X dX4_closeReading_70 (by decide) (fun c26 => absurd c26 (by decide)) (fun c26 => ?_)
          refine g_iconst (v := 0) X dX4_closeReading_73 (by decide) ?_
          exact g_zret X F dX4_closeReading_74 (by omega) (by omega) rfl (by unfold mCloseReading; (try rw [hcb9]); exact (MMu.n (by first | exact c1 | exact fun q => q c1 | exact fun q => c1 q | exact Classical.not_not.mp c1) (MMu.n (by first | exact c4 | exact fun q => q c4 | exact fun q => c4 q | exact Classical.not_not.mp c4) (MMu.y (Or.inr (by first | exact c10 | exact fun q => q c10 | exact fun q => c10 q | exact Classical.not_not.mp c10)) ⟨rfl, hR25, hF25⟩))))
    · refine g_iconst (v := 1) X dX4_closeReading_32 (by decide) ?_
      refine g_goto (tgt := 37) X dX4_closeReading_33 (by decide) ?_
      refine g_callV (As := [.int 2, .int 1]) (ci := 4) X dX4_closeReading_37 (c_X4_fails1 κ.l hl κ.Γ M2 a (hsc u 0 0) hR2 2) k1164 k1166 kp15 k5 k1167 rfl (MRep.obj hR2) ⟨rfl, by decide, by decide, (show (parseMethodDescriptor yX4_fails.desc).map (fun d => d.parameters.length) = some 2 by decide +kernel)⟩ rfl (Nat.le_of_ble_eq_true rfl) (by rw [hRm]; decide) (by rw [hRm]; exact ⟨Nat.le_of_ble_eq_true rfl, Nat.le_of_ble_eq_true rfl⟩) (fun v27 M27 h27 => ?_) (fun _ _ h9 => by cases h9.1)
      obtain ⟨e27, hR27, hF27⟩ := h27
      have e27 : (Sum.inl v27 : Res) = rI 1 := e27
      cases e27
      have hR27 : MRep κ.Γ a (hsc u 0 2) M27 := by rw [← hsc_hsc (x := 0)]; exact hR27
      have hF27 := Fr.tr hF2 hF27
      refine g_if_ne (tgt := 73) X dX4_closeReading_40 (by decide) (fun c28 => ?_) (fun c28 => absurd c28 (by decide))
      refine g_iconst (v := 0) X dX4_closeReading_73 (by decide) ?_
      exact g_zret X F dX4_closeReading_74 (by omega) (by omega) rfl (by unfold mCloseReading; (try rw [hcb9]); exact (MMu.n (by first | exact c1 | exact fun q => q c1 | exact fun q => c1 q | exact Classical.not_not.mp c1) (MMu.y (by first | exact c4 | exact fun q => q c4 | exact fun q => c4 q | exact Classical.not_not.mp c4) ⟨rfl, hR27, hF27⟩)))
  · refine g_iconst (v := 1) X dX4_closeReading_10 (by decide) ?_
    refine g_goto (tgt := 15) X dX4_closeReading_11 (by decide) ?_
    refine g_callV (As := [.int 1, .int 1]) (ci := 4) X dX4_closeReading_15 (c_X4_fails1 κ.l hl κ.Γ M a u hR 1) k1164 k1166 kp15 k5 k1167 rfl (MRep.obj hR) ⟨rfl, by decide, by decide, (show (parseMethodDescriptor yX4_fails.desc).map (fun d => d.parameters.length) = some 2 by decide +kernel)⟩ rfl (Nat.le_of_ble_eq_true rfl) (by rw [hRm]; decide) (by rw [hRm]; exact ⟨Nat.le_of_ble_eq_true rfl, Nat.le_of_ble_eq_true rfl⟩) (fun v29 M29 h29 => ?_) (fun _ _ h9 => by cases h9.1)
    obtain ⟨e29, hR29, hF29⟩ := h29
    have e29 : (Sum.inl v29 : Res) = rI 1 := e29
    cases e29
    refine g_if_ne (tgt := 73) X dX4_closeReading_18 (by decide) (fun c30 => ?_) (fun c30 => absurd c30 (by decide))
    refine g_iconst (v := 0) X dX4_closeReading_73 (by decide) ?_
    exact g_zret X F dX4_closeReading_74 (by omega) (by omega) rfl (by unfold mCloseReading; exact (MMu.y (by first | exact c1 | exact fun q => q c1 | exact fun q => c1 q | exact Classical.not_not.mp c1) ⟨rfl, hR29, hF29⟩))
noncomputable def mPropose (u : HV) (b : Int32) (x : Int32) (c : Int32) : Res × HV := mG (¬ isBl u b ∨ ¬ isM u x ∨ ¬ btw c 0 63) 1 zI u (mG (¬ rB u (cN b) 0 = 0 ∨ rB u (cN b) 7 = 4) 2 zI u (mG (¬ prs u x) 3 zI u ((rI (rB (uC u) (cN b) 7), sMov (uC u) (cN b) x c))))
set_option maxRecDepth 100000 in
set_option maxHeartbeats 4000000 in
theorem c_X4_propose (l : Launch) (hl : l.stackTraces = false) (Γ : Gm) (M : Hp) (a : Nat → Nat) (u : HV) (hR : MRep Γ a u M) (b : Int32) (x : Int32) (c : Int32) (hi : RInv (u.2.1 1)) (hk : KInv u) : Ct l Γ yX4_propose cX4_propose 5 (some .int) 3 0 0 [.ref (a 0), .int b, .int x, .int c] M (MMu Γ a (mPropose u b x c) M) := by
  refine Ct.of hl (by decide) (Nat.le_of_ble_eq_true rfl) rfl ?_
  intro κ e1 e2 hnL hRm X F hlt
  subst e1 e2
  refine g_aload_n X dX4_propose_0 rfl 0 rfl ?_
  refine g_iconst (v := 1) X dX4_propose_1 (by decide) ?_
  refine g_aload_n X dX4_propose_2 rfl 0 rfl ?_
  refine g_iload_n X dX4_propose_3 rfl 1 rfl ?_
  refine g_callV_rd (As := [.int b]) (ci := 4) (v := some (.int (bI (btw b 0 (u.2.1 1 1 - 1))))) X dX4_propose_4 (c_X4_isBill κ.l hl κ.Γ M a u hR b) k1275 k1277 kp26 k5 k1278 rfl (MRep.obj hR) ⟨rfl, by decide, by decide, (show (parseMethodDescriptor yX4_isBill.desc).map (fun d => d.parameters.length) = some 1 by decide +kernel)⟩ rfl (Nat.le_of_ble_eq_true rfl) (by rw [hRm]; decide) (by rw [hRm]; exact ⟨Nat.le_of_ble_eq_true rfl, Nat.le_of_ble_eq_true rfl⟩) ?_
  refine g_ifb_eq (tgt := 25) X dX4_propose_7 (by decide) (fun c1 => ?_) (fun c1 => ?_)
  · refine g_iconst (v := 1) X dX4_propose_25 (by decide) ?_
    refine g_goto (tgt := 30) X dX4_propose_26 (by decide) ?_
    refine g_callV (As := [.int 1, .int 1]) (ci := 4) X dX4_propose_30 (c_X4_fails1 κ.l hl κ.Γ M a u hR 1) k1164 k1166 kp15 k5 k1167 rfl (MRep.obj hR) ⟨rfl, by decide, by decide, (show (parseMethodDescriptor yX4_fails.desc).map (fun d => d.parameters.length) = some 2 by decide +kernel)⟩ rfl (Nat.le_of_ble_eq_true rfl) (by rw [hRm]; decide) (by rw [hRm]; exact ⟨Nat.le_of_ble_eq_true rfl, Nat.le_of_ble_eq_true rfl⟩) (fun v2 M2 h2 => ?_) (fun _ _ h9 => by cases h9.1)
    obtain ⟨e2, hR2, hF2⟩ := h2
    have e2 : (Sum.inl v2 : Res) = rI 1 := e2
    cases e2
    refine g_if_ne (tgt := 90) X dX4_propose_33 (by decide) (fun c3 => ?_) (fun c3 => absurd c3 (by decide))
    refine g_iconst (v := 0) X dX4_propose_90 (by decide) ?_
    exact g_iret X F dX4_propose_91 (by omega) (by omega) (by unfold mPropose; exact (MMu.y (Or.inl (by first | exact c1 | exact fun q => q c1 | exact fun q => c1 q | exact Classical.not_not.mp c1)) ⟨rfl, hR2, hF2⟩))
  · refine g_aload_n X dX4_propose_10 rfl 0 rfl ?_
    refine g_iload_n X dX4_propose_11 rfl 2 rfl ?_
    refine g_callV_rd (As := [.int x]) (ci := 4) (v := some (.int (bI (btw x 0 (u.2.1 1 0 - 1))))) X dX4_propose_12 (c_X4_isMember κ.l hl κ.Γ M a u hR x) k1183 k1185 kp18 k5 k1186 rfl (MRep.obj hR) ⟨rfl, by decide, by decide, (show (parseMethodDescriptor yX4_isMember.desc).map (fun d => d.parameters.length) = some 1 by decide +kernel)⟩ rfl (Nat.le_of_ble_eq_true rfl) (by rw [hRm]; decide) (by rw [hRm]; exact ⟨Nat.le_of_ble_eq_true rfl, Nat.le_of_ble_eq_true rfl⟩) ?_
    refine g_ifb_eq (tgt := 25) X dX4_propose_15 (by decide) (fun c4 => ?_) (fun c4 => ?_)
    · refine g_iconst (v := 1) X dX4_propose_25 (by decide) ?_
      refine g_goto (tgt := 30) X dX4_propose_26 (by decide) ?_
      refine g_callV (As := [.int 1, .int 1]) (ci := 4) X dX4_propose_30 (c_X4_fails1 κ.l hl κ.Γ M a u hR 1) k1164 k1166 kp15 k5 k1167 rfl (MRep.obj hR) ⟨rfl, by decide, by decide, (show (parseMethodDescriptor yX4_fails.desc).map (fun d => d.parameters.length) = some 2 by decide +kernel)⟩ rfl (Nat.le_of_ble_eq_true rfl) (by rw [hRm]; decide) (by rw [hRm]; exact ⟨Nat.le_of_ble_eq_true rfl, Nat.le_of_ble_eq_true rfl⟩) (fun v5 M5 h5 => ?_) (fun _ _ h9 => by cases h9.1)
      obtain ⟨e5, hR5, hF5⟩ := h5
      have e5 : (Sum.inl v5 : Res) = rI 1 := e5
      cases e5
      refine g_if_ne (tgt := 90) X dX4_propose_33 (by decide) (fun c6 => ?_) (fun c6 => absurd c6 (by decide))
      refine g_iconst (v := 0) X dX4_propose_90 (by decide) ?_
      exact g_iret X F dX4_propose_91 (by omega) (by omega) (by unfold mPropose; exact (MMu.y (Or.inr (Or.inl (by first | exact c4 | exact fun q => q c4 | exact fun q => c4 q | exact Classical.not_not.mp c4))) ⟨rfl, hR5, hF5⟩))
    · refine g_iload_n X dX4_propose_18 rfl 3 rfl ?_
      refine g_callS_rd (As := [.int c]) (v := some (.int (bI (btw c 0 63)))) X dX4_propose_19 (c_X4_isClause κ.l hl κ.Γ M c) k1252 k1253 k5 k1254 ⟨by decide, by decide, (show (parseMethodDescriptor yX4_isClause.desc).map (fun d => d.parameters.length) = some 1 by decide +kernel)⟩ rfl (Nat.le_of_ble_eq_true rfl) (by rw [hRm]; decide) (by rw [hRm]; exact ⟨Nat.le_of_ble_eq_true rfl, Nat.le_of_ble_eq_true rfl⟩) ?_
      refine g_ifb_ne (tgt := 29) X dX4_propose_22 (by decide) (fun c7 => ?_) (fun c7 => ?_)
      · refine g_iconst (v := 0) X dX4_propose_29 (by decide) ?_
        refine g_callV (As := [.int 1, .int 0]) (ci := 4) X dX4_propose_30 (c_X4_fails0 κ.l hl κ.Γ M a u hR 1) k1164 k1166 kp15 k5 k1167 rfl (MRep.obj hR) ⟨rfl, by decide, by decide, (show (parseMethodDescriptor yX4_fails.desc).map (fun d => d.parameters.length) = some 2 by decide +kernel)⟩ rfl (Nat.le_of_ble_eq_true rfl) (by rw [hRm]; decide) (by rw [hRm]; exact ⟨Nat.le_of_ble_eq_true rfl, Nat.le_of_ble_eq_true rfl⟩) (fun v8 M8 h8 => ?_) (fun _ _ h9 => by cases h9.1)
        obtain ⟨e8, hR8, hF8⟩ := h8
        have e8 : (Sum.inl v8 : Res) = rI 0 := e8
        cases e8
        obtain ⟨b9, hb9, hcb9, rfl⟩ := RInv.bil hi c1
        refine g_if_ne (tgt := 90) X dX4_propose_33 (by decide) (fun c9 => absurd c9 (by decide)) (fun c9 => ?_)
        refine g_aload_n X dX4_propose_36 rfl 0 rfl ?_
        refine g_iconst (v := 2) X dX4_propose_37 (by decide) ?_
        refine g_aload_n X dX4_propose_38 rfl 0 rfl ?_
        refine g_iload_n X dX4_propose_39 rfl 1 rfl ?_
        refine g_iconst (v := 0) X dX4_propose_40 (by decide) ?_
        refine g_callV_rd (As := [.int (nI b9), .int 0]) (ci := 4) (v := some (.int (u.2.1 1 (53 + 16 * b9 + 0)))) X dX4_propose_41 (c_X4_of κ.l hl κ.Γ M8 a (hsc u 0 0) hR8 b9 0 (by omega) (by omega)) k1263 k1265 kp25 k5 k1266 rfl (MRep.obj hR8) ⟨rfl, by decide, by decide, (show (parseMethodDescriptor yX4_of.desc).map (fun d => d.parameters.length) = some 2 by decide +kernel)⟩ rfl (Nat.le_of_ble_eq_true rfl) (by rw [hRm]; decide) (by rw [hRm]; exact ⟨Nat.le_of_ble_eq_true rfl, Nat.le_of_ble_eq_true rfl⟩) ?_
        refine g_if_ne (tgt := 58) X dX4_propose_44 (by decide) (fun c10 => ?_) (fun c10 => ?_)
        · refine g_iconst (v := 1) X dX4_propose_58 (by decide) ?_
          refine g_goto (tgt := 63) X dX4_propose_59 (by decide) ?_
          refine g_callV (As := [.int 2, .int 1]) (ci := 4) X dX4_propose_63 (c_X4_fails1 κ.l hl κ.Γ M8 a (hsc u 0 0) hR8 2) k1164 k1166 kp15 k5 k1167 rfl (MRep.obj hR8) ⟨rfl, by decide, by decide, (show (parseMethodDescriptor yX4_fails.desc).map (fun d => d.parameters.length) = some 2 by decide +kernel)⟩ rfl (Nat.le_of_ble_eq_true rfl) (by rw [hRm]; decide) (by rw [hRm]; exact ⟨Nat.le_of_ble_eq_true rfl, Nat.le_of_ble_eq_true rfl⟩) (fun v11 M11 h11 => ?_) (fun _ _ h9 => by cases h9.1)
          obtain ⟨e11, hR11, hF11⟩ := h11
          have e11 : (Sum.inl v11 : Res) = rI 1 := e11
          cases e11
          have hR11 : MRep κ.Γ a (hsc u 0 2) M11 := by rw [← hsc_hsc (x := 0)]; exact hR11
          have hF11 := Fr.tr hF8 hF11
          refine g_if_ne (tgt := 90) X dX4_propose_66 (by decide) (fun c12 => ?_) (fun c12 => absurd c12 (by decide))
          refine g_iconst (v := 0) X dX4_propose_90 (by decide) ?_
          exact g_iret X F dX4_propose_91 (by omega) (by omega) (by unfold mPropose; (try rw [hcb9]); exact (MMu.n (fun z => z.elim (by first | exact c1 | exact fun q => q c1 | exact fun q => c1 q | exact Classical.not_not.mp c1) (fun z => z.elim (by first | exact c4 | exact fun q => q c4 | exact fun q => c4 q | exact Classical.not_not.mp c4) (by first | exact c7 | exact fun q => q c7 | exact fun q => c7 q | exact Classical.not_not.mp c7))) (MMu.y (Or.inl (by first | exact c10 | exact fun q => q c10 | exact fun q => c10 q | exact Classical.not_not.mp c10)) ⟨rfl, hR11, hF11⟩)))
        · refine g_aload_n X dX4_propose_47 rfl 0 rfl ?_
          refine g_iload_n X dX4_propose_48 rfl 1 rfl ?_
          refine g_bipush (v := 7) X dX4_propose_49 (by decide) ?_
          refine g_callV_rd (As := [.int (nI b9), .int 7]) (ci := 4) (v := some (.int (u.2.1 1 (53 + 16 * b9 + 7)))) X dX4_propose_51 (c_X4_of κ.l hl κ.Γ M8 a (hsc u 0 0) hR8 b9 7 (by omega) (by omega)) k1263 k1265 kp25 k5 k1266 rfl (MRep.obj hR8) ⟨rfl, by decide, by decide, (show (parseMethodDescriptor yX4_of.desc).map (fun d => d.parameters.length) = some 2 by decide +kernel)⟩ rfl (Nat.le_of_ble_eq_true rfl) (by rw [hRm]; decide) (by rw [hRm]; exact ⟨Nat.le_of_ble_eq_true rfl, Nat.le_of_ble_eq_true rfl⟩) ?_
          refine g_iconst (v := 4) X dX4_propose_54 (by decide) ?_
          refine g_icmp_ne (tgt := 62) X dX4_propose_55 (by decide) (fun c13 => ?_) (fun c13 => ?_)
          · refine g_iconst (v := 0) X dX4_propose_62 (by decide) ?_
            refine g_callV (As := [.int 2, .int 0]) (ci := 4) X dX4_propose_63 (c_X4_fails0 κ.l hl κ.Γ M8 a (hsc u 0 0) hR8 2) k1164 k1166 kp15 k5 k1167 rfl (MRep.obj hR8) ⟨rfl, by decide, by decide, (show (parseMethodDescriptor yX4_fails.desc).map (fun d => d.parameters.length) = some 2 by decide +kernel)⟩ rfl (Nat.le_of_ble_eq_true rfl) (by rw [hRm]; decide) (by rw [hRm]; exact ⟨Nat.le_of_ble_eq_true rfl, Nat.le_of_ble_eq_true rfl⟩) (fun v14 M14 h14 => ?_) (fun _ _ h9 => by cases h9.1)
            obtain ⟨e14, hR14, hF14⟩ := h14
            have e14 : (Sum.inl v14 : Res) = rI 0 := e14
            cases e14
            have hR14 : MRep κ.Γ a (hsc u 0 0) M14 := by rw [← hsc_hsc (x := 0)]; exact hR14
            have hF14 := Fr.tr hF8 hF14
            refine g_if_ne (tgt := 90) X dX4_propose_66 (by decide) (fun c15 => absurd c15 (by decide)) (fun c15 => ?_)
            refine g_aload_n X dX4_propose_69 rfl 0 rfl ?_
            refine g_iconst (v := 3) X dX4_propose_70 (by decide) ?_
            refine g_aload_n X dX4_propose_71 rfl 0 rfl ?_
            refine g_iload_n X dX4_propose_72 rfl 2 rfl ?_
            refine g_callV_rd (As := [.int x]) (ci := 4) (v := some (.int (bI (shr (u.2.1 1 2) x &&& 1 = 1)))) X dX4_propose_73 (c_X4_present κ.l hl κ.Γ M14 a (hsc u 0 0) hR14 x) k1187 k1189 kp19 k5 k1190 rfl (MRep.obj hR14) ⟨rfl, by decide, by decide, (show (parseMethodDescriptor yX4_present.desc).map (fun d => d.parameters.length) = some 1 by decide +kernel)⟩ rfl (Nat.le_of_ble_eq_true rfl) (by rw [hRm]; decide) (by rw [hRm]; exact ⟨Nat.le_of_ble_eq_true rfl, Nat.le_of_ble_eq_true rfl⟩) ?_
            refine g_ifb_ne (tgt := 83) X dX4_propose_76 (by decide) (fun c16 => ?_) (fun c16 => ?_)
            · refine g_iconst (v := 0) X dX4_propose_83 (by decide) ?_
              refine g_callV (As := [.int 3, .int 0]) (ci := 4) X dX4_propose_84 (c_X4_fails0 κ.l hl κ.Γ M14 a (hsc u 0 0) hR14 3) k1164 k1166 kp15 k5 k1167 rfl (MRep.obj hR14) ⟨rfl, by decide, by decide, (show (parseMethodDescriptor yX4_fails.desc).map (fun d => d.parameters.length) = some 2 by decide +kernel)⟩ rfl (Nat.le_of_ble_eq_true rfl) (by rw [hRm]; decide) (by rw [hRm]; exact ⟨Nat.le_of_ble_eq_true rfl, Nat.le_of_ble_eq_true rfl⟩) (fun v17 M17 h17 => ?_) (fun _ _ h9 => by cases h9.1)
              obtain ⟨e17, hR17, hF17⟩ := h17
              have e17 : (Sum.inl v17 : Res) = rI 0 := e17
              cases e17
              have hR17 : MRep κ.Γ a (hsc u 0 0) M17 := by rw [← hsc_hsc (x := 0)]; exact hR17
              have hF17 := Fr.tr hF14 hF17
              refine g_if_eq (tgt := 92) X dX4_propose_87 (by decide) (fun c18 => ?_) (fun c18 => absurd c18 (by decide))
              refine g_aload_n X dX4_propose_92 rfl 0 rfl ?_
              refine g_callV (As := []) (ci := 4) X dX4_propose_93 (c_X4_change κ.l hl κ.Γ M17 a (hsc u 0 0) hR17 hk) k1168 k1170 kp16 k5 k1171 rfl (MRep.obj hR17) ⟨rfl, by decide, by decide, (show (parseMethodDescriptor yX4_change.desc).map (fun d => d.parameters.length) = some 0 by decide +kernel)⟩ rfl (Nat.le_of_ble_eq_true rfl) (by rw [hRm]; decide) (by rw [hRm]; exact ⟨Nat.le_of_ble_eq_true rfl, Nat.le_of_ble_eq_true rfl⟩) (fun v19 M19 h19 => ?_) (fun _ _ h9 => by cases h9.1)
              obtain ⟨e19, hR19, hF19⟩ := h19
              have e19 : (Sum.inl v19 : Res) = .inl none := e19
              cases e19
              have hR19 : MRep κ.Γ a (mChg (hsc u 0 0)) M19 := hR19
              have hF19 := Fr.tr hF17 hF19
              refine g_aload_n X dX4_propose_96 rfl 0 rfl ?_
              refine g_iload_n X dX4_propose_97 rfl 1 rfl ?_
              refine g_bipush (v := 7) X dX4_propose_98 (by decide) ?_
              refine g_callV_rd (As := [.int (nI b9), .int 7]) (ci := 4) (v := some (.int ((mChg (hsc u 0 0)).2.1 1 (53 + 16 * b9 + 7)))) X dX4_propose_100 (c_X4_of κ.l hl κ.Γ M19 a (mChg (hsc u 0 0)) hR19 b9 7 (by omega) (by omega)) k1263 k1265 kp25 k5 k1266 rfl (MRep.obj hR19) ⟨rfl, by decide, by decide, (show (parseMethodDescriptor yX4_of.desc).map (fun d => d.parameters.length) = some 2 by decide +kernel)⟩ rfl (Nat.le_of_ble_eq_true rfl) (by rw [hRm]; decide) (by rw [hRm]; exact ⟨Nat.le_of_ble_eq_true rfl, Nat.le_of_ble_eq_true rfl⟩) ?_
              obtain ⟨P, hP4, eP0⟩ := hi.2.2 b9 hb9
              have hP : P < 4 := by have h9 : ¬ P = 4 := fun z => c13 (by show u.2.1 1 (53 + 16 * b9 + 7) = 4; rw [eP0, z]; rfl); omega
              have eP : rB (uC u) b9 7 = nI P := by (show (uC u).2.1 1 _ = _); rw [uC_now]; exact eP0
              have hcP : cN (nI P) = P := cN_nI (by omega)
              refine g_lit (nI P) eP ?_
              refine g_istore (L' := [(4, .int (nI P)), (0, .ref (a 0)), (1, .int (nI b9)), (2, .int x), (3, .int c)]) X dX4_propose_103 (by rw [hnL]; decide) rfl ?_
              refine g_aload_n X dX4_propose_105 rfl 1 rfl ?_
              refine g_iload_n X dX4_propose_106 rfl 2 rfl ?_
              refine g_bipush (v := 7) X dX4_propose_107 (by decide) ?_
              refine g_iload X dX4_propose_109 0 rfl ?_
              refine g_iconst (v := 1) X dX4_propose_111 (by decide) ?_
              refine g_iadd X dX4_propose_112 ?_
              refine g_lit (nI (P + 1)) (nI_addJ P 1) ?_
              refine g_callV (As := [.int (nI b9), .int 7, .int (nI (P + 1))]) (ci := 4) X dX4_propose_113 (c_X4_put κ.l hl κ.Γ M19 a (mChg (hsc u 0 0)) hR19 b9 7 (nI (P + 1)) (by omega) (by omega)) k1255 k1257 kp23 k5 k1258 rfl (MRep.obj hR19) ⟨rfl, by decide, by decide, (show (parseMethodDescriptor yX4_put.desc).map (fun d => d.parameters.length) = some 3 by decide +kernel)⟩ rfl (Nat.le_of_ble_eq_true rfl) (by rw [hRm]; decide) (by rw [hRm]; exact ⟨Nat.le_of_ble_eq_true rfl, Nat.le_of_ble_eq_true rfl⟩) (fun v20 M20 h20 => ?_) (fun _ _ h9 => by cases h9.1)
              obtain ⟨e20, hR20, hF20⟩ := h20
              have e20 : (Sum.inl v20 : Res) = .inl none := e20
              cases e20
              have hR20 : MRep κ.Γ a (rPut (mChg (hsc u 0 0)) b9 7 (nI (P + 1))) M20 := hR20
              have hF20 := Fr.tr hF19 hF20
              refine g_aload_n X dX4_propose_116 rfl 1 rfl ?_
              refine g_iload_n X dX4_propose_117 rfl 2 rfl ?_
              refine g_bipush (v := 8) X dX4_propose_118 (by decide) ?_
              refine g_iconst (v := 2) X dX4_propose_120 (by decide) ?_
              refine g_iload X dX4_propose_121 0 rfl ?_
              refine g_imul X dX4_propose_123 ?_
              refine g_lit (nI (2 * P)) (nI_mulJ 2 P) ?_
              refine g_iadd X dX4_propose_124 ?_
              refine g_lit (nI (8 + (2 * P))) (nI_addJ 8 (2 * P)) ?_
              refine g_iload_n X dX4_propose_125 rfl 4 rfl ?_
              refine g_callV (As := [.int (nI b9), .int (nI (8 + (2 * P))), .int c]) (ci := 4) X dX4_propose_126 (c_X4_put κ.l hl κ.Γ M20 a (rPut (mChg (hsc u 0 0)) b9 7 (nI (P + 1))) hR20 b9 (8 + (2 * P)) c (by omega) (by omega)) k1255 k1257 kp23 k5 k1258 rfl (MRep.obj hR20) ⟨rfl, by decide, by decide, (show (parseMethodDescriptor yX4_put.desc).map (fun d => d.parameters.length) = some 3 by decide +kernel)⟩ rfl (Nat.le_of_ble_eq_true rfl) (by rw [hRm]; decide) (by rw [hRm]; exact ⟨Nat.le_of_ble_eq_true rfl, Nat.le_of_ble_eq_true rfl⟩) (fun v21 M21 h21 => ?_) (fun _ _ h9 => by cases h9.1)
              obtain ⟨e21, hR21, hF21⟩ := h21
              have e21 : (Sum.inl v21 : Res) = .inl none := e21
              cases e21
              have hR21 : MRep κ.Γ a (rPut (rPut (mChg (hsc u 0 0)) b9 7 (nI (P + 1))) b9 (8 + (2 * P)) c) M21 := hR21
              have hF21 := Fr.tr hF20 hF21
              refine g_aload_n X dX4_propose_129 rfl 1 rfl ?_
              refine g_iload_n X dX4_propose_130 rfl 2 rfl ?_
              refine g_bipush (v := 8) X dX4_propose_131 (by decide) ?_
              refine g_iconst (v := 2) X dX4_propose_133 (by decide) ?_
              refine g_iload X dX4_propose_134 0 rfl ?_
              refine g_imul X dX4_propose_136 ?_
              refine g_lit (nI (2 * P)) (nI_mulJ 2 P) ?_
              refine g_iadd X dX4_propose_137 ?_
              refine g_lit (nI (8 + (2 * P))) (nI_addJ 8 (2 * P)) ?_
              refine g_iconst (v := 1) X dX4_propose_138 (by decide) ?_
              refine g_iadd X dX4_propose_139 ?_
              refine g_lit (nI ((8 + (2 * P)) + 1)) (nI_addJ (8 + (2 * P)) 1) ?_
              refine g_iconst (v := 1) X dX4_propose_140 (by decide) ?_
              refine g_iload_n X dX4_propose_141 rfl 3 rfl ?_
              refine g_ishl X dX4_propose_142 ?_
              refine g_callV (As := [.int (nI b9), .int (nI ((8 + (2 * P)) + 1)), .int (shl 1 x)]) (ci := 4) X dX4_propose_143 (c_X4_put κ.l hl κ.Γ M21 a (rPut (rPut (mChg (hsc u 0 0)) b9 7 (nI (P + 1))) b9 (8 + (2 * P)) c) hR21 b9 ((8 + (2 * P)) + 1) (shl 1 x) (by omega) (by omega)) k1255 k1257 kp23 k5 k1258 rfl (MRep.obj hR21) ⟨rfl, by decide, by decide, (show (parseMethodDescriptor yX4_put.desc).map (fun d => d.parameters.length) = some 3 by decide +kernel)⟩ rfl (Nat.le_of_ble_eq_true rfl) (by rw [hRm]; decide) (by rw [hRm]; exact ⟨Nat.le_of_ble_eq_true rfl, Nat.le_of_ble_eq_true rfl⟩) (fun v22 M22 h22 => ?_) (fun _ _ h9 => by cases h9.1)
              obtain ⟨e22, hR22, hF22⟩ := h22
              have e22 : (Sum.inl v22 : Res) = .inl none := e22
              cases e22
              have hR22 : MRep κ.Γ a (rPut (rPut (rPut (mChg (hsc u 0 0)) b9 7 (nI (P + 1))) b9 (8 + (2 * P)) c) b9 ((8 + (2 * P)) + 1) (shl 1 x)) M22 := hR22
              have hF22 := Fr.tr hF21 hF22
              refine g_iload X dX4_propose_146 0 rfl ?_
              exact g_iret X F dX4_propose_148 (by omega) (by omega) (by unfold mPropose; (try rw [hcb9]); exact (MMu.n (fun z => z.elim (by first | exact c1 | exact fun q => q c1 | exact fun q => c1 q | exact Classical.not_not.mp c1) (fun z => z.elim (by first | exact c4 | exact fun q => q c4 | exact fun q => c4 q | exact Classical.not_not.mp c4) (by first | exact c7 | exact fun q => q c7 | exact fun q => c7 q | exact Classical.not_not.mp c7))) (MMu.n (fun z => z.elim (by first | exact c10 | exact fun q => q c10 | exact fun q => c10 q | exact Classical.not_not.mp c10) (by first | exact c13 | exact fun q => q c13 | exact fun q => c13 q | exact Classical.not_not.mp c13)) (MMu.n (by first | exact c16 | exact fun q => q c16 | exact fun q => c16 q | exact Classical.not_not.mp c16) ⟨by rw [eP], by (try unfold sMov); rw [eP, hcP, nI_1]; exact hR22, hF22⟩))))
            · refine g_iconst (v := 1) X dX4_propose_79 (by decide) ?_
              refine g_goto (tgt := 84) X dX4_propose_80 (by decide) ?_
              refine g_callV (As := [.int 3, .int 1]) (ci := 4) X dX4_propose_84 (c_X4_fails1 κ.l hl κ.Γ M14 a (hsc u 0 0) hR14 3) k1164 k1166 kp15 k5 k1167 rfl (MRep.obj hR14) ⟨rfl, by decide, by decide, (show (parseMethodDescriptor yX4_fails.desc).map (fun d => d.parameters.length) = some 2 by decide +kernel)⟩ rfl (Nat.le_of_ble_eq_true rfl) (by rw [hRm]; decide) (by rw [hRm]; exact ⟨Nat.le_of_ble_eq_true rfl, Nat.le_of_ble_eq_true rfl⟩) (fun v23 M23 h23 => ?_) (fun _ _ h9 => by cases h9.1)
              obtain ⟨e23, hR23, hF23⟩ := h23
              have e23 : (Sum.inl v23 : Res) = rI 1 := e23
              cases e23
              have hR23 : MRep κ.Γ a (hsc u 0 3) M23 := by rw [← hsc_hsc (x := 0)]; exact hR23
              have hF23 := Fr.tr hF14 hF23
              refine g_if_eq (tgt := 92) X dX4_propose_87 (by decide) (fun c24 => absurd c24 (by decide)) (fun c24 => ?_)
              refine g_iconst (v := 0) X dX4_propose_90 (by decide) ?_
              exact g_iret X F dX4_propose_91 (by omega) (by omega) (by unfold mPropose; (try rw [hcb9]); exact (MMu.n (fun z => z.elim (by first | exact c1 | exact fun q => q c1 | exact fun q => c1 q | exact Classical.not_not.mp c1) (fun z => z.elim (by first | exact c4 | exact fun q => q c4 | exact fun q => c4 q | exact Classical.not_not.mp c4) (by first | exact c7 | exact fun q => q c7 | exact fun q => c7 q | exact Classical.not_not.mp c7))) (MMu.n (fun z => z.elim (by first | exact c10 | exact fun q => q c10 | exact fun q => c10 q | exact Classical.not_not.mp c10) (by first | exact c13 | exact fun q => q c13 | exact fun q => c13 q | exact Classical.not_not.mp c13)) (MMu.y (by first | exact c16 | exact fun q => q c16 | exact fun q => c16 q | exact Classical.not_not.mp c16) ⟨rfl, hR23, hF23⟩))))
          · refine g_iconst (v := 1) X dX4_propose_58 (by decide) ?_
            refine g_goto (tgt := 63) X dX4_propose_59 (by decide) ?_
            refine g_callV (As := [.int 2, .int 1]) (ci := 4) X dX4_propose_63 (c_X4_fails1 κ.l hl κ.Γ M8 a (hsc u 0 0) hR8 2) k1164 k1166 kp15 k5 k1167 rfl (MRep.obj hR8) ⟨rfl, by decide, by decide, (show (parseMethodDescriptor yX4_fails.desc).map (fun d => d.parameters.length) = some 2 by decide +kernel)⟩ rfl (Nat.le_of_ble_eq_true rfl) (by rw [hRm]; decide) (by rw [hRm]; exact ⟨Nat.le_of_ble_eq_true rfl, Nat.le_of_ble_eq_true rfl⟩) (fun v25 M25 h25 => ?_) (fun _ _ h9 => by cases h9.1)
            obtain ⟨e25, hR25, hF25⟩ := h25
            have e25 : (Sum.inl v25 : Res) = rI 1 := e25
            cases e25
            have hR25 : MRep κ.Γ a (hsc u 0 2) M25 := by rw [← hsc_hsc (x := 0)]; exact hR25
            have hF25 := Fr.tr hF8 hF25
            refine g_if_ne (tgt := 90) X dX4_propose_66 (by decide) (fun c26 => ?_) (fun c26 => absurd c26 (by decide))
            refine g_iconst (v := 0) X dX4_propose_90 (by decide) ?_
            exact g_iret X F dX4_propose_91 (by omega) (by omega) (by unfold mPropose; (try rw [hcb9]); exact (MMu.n (fun z => z.elim (by first | exact c1 | exact fun q => q c1 | exact fun q => c1 q | exact Classical.not_not.mp c1) (fun z => z.elim (by first | exact c4 | exact fun q => q c4 | exact fun q => c4 q | exact Classical.not_not.mp c4) (by first | exact c7 | exact fun q => q c7 | exact fun q => c7 q | exact Classical.not_not.mp c7))) (MMu.y (Or.inr (by first | exact c13 | exact fun q => q c13 | exact fun q => c13 q | exact Classical.not_not.mp c13)) ⟨rfl, hR25, hF25⟩)))
      · refine g_iconst (v := 1) X dX4_propose_25 (by decide) ?_
        refine g_goto (tgt := 30) X dX4_propose_26 (by decide) ?_
        refine g_callV (As := [.int 1, .int 1]) (ci := 4) X dX4_propose_30 (c_X4_fails1 κ.l hl κ.Γ M a u hR 1) k1164 k1166 kp15 k5 k1167 rfl (MRep.obj hR) ⟨rfl, by decide, by decide, (show (parseMethodDescriptor yX4_fails.desc).map (fun d => d.parameters.length) = some 2 by decide +kernel)⟩ rfl (Nat.le_of_ble_eq_true rfl) (by rw [hRm]; decide) (by rw [hRm]; exact ⟨Nat.le_of_ble_eq_true rfl, Nat.le_of_ble_eq_true rfl⟩) (fun v27 M27 h27 => ?_) (fun _ _ h9 => by cases h9.1)
        obtain ⟨e27, hR27, hF27⟩ := h27
        have e27 : (Sum.inl v27 : Res) = rI 1 := e27
        cases e27
        refine g_if_ne (tgt := 90) X dX4_propose_33 (by decide) (fun c28 => ?_) (fun c28 => absurd c28 (by decide))
        refine g_iconst (v := 0) X dX4_propose_90 (by decide) ?_
        exact g_iret X F dX4_propose_91 (by omega) (by omega) (by unfold mPropose; exact (MMu.y (Or.inr (Or.inr (by first | exact c7 | exact fun q => q c7 | exact fun q => c7 q | exact Classical.not_not.mp c7))) ⟨rfl, hR27, hF27⟩))
noncomputable def mSupport (u : HV) (b : Int32) (p : Int32) (x : Int32) : Res × HV := mG (¬ isBl u b ∨ ¬ isM u x) 1 zI u (mG (¬ rB u (cN b) 0 = 0) 2 zI u (mG (¬ btw p 0 (rB u (cN b) 7 - 1)) 3 zI u (mG (¬ prs u x) 4 zI u ((rI (rWt (sSec (uC u) (cN b) (cN p) x) (rB (sSec (uC u) (cN b) (cN p) x) (cN b) (8 + 2 * cN p + 1))), sSec (uC u) (cN b) (cN p) x)))))
set_option maxRecDepth 100000 in
set_option maxHeartbeats 4000000 in
theorem c_X4_support (l : Launch) (hl : l.stackTraces = false) (Γ : Gm) (M : Hp) (a : Nat → Nat) (u : HV) (hR : MRep Γ a u M) (b : Int32) (p : Int32) (x : Int32) (hi : RInv (u.2.1 1)) (hk : KInv u) : Ct l Γ yX4_support cX4_support 4 (some .int) 3 0 0 [.ref (a 0), .int b, .int p, .int x] M (MMu Γ a (mSupport u b p x) M) := by
  refine Ct.of hl (by decide) (Nat.le_of_ble_eq_true rfl) rfl ?_
  intro κ e1 e2 hnL hRm X F hlt
  subst e1 e2
  refine g_aload_n X dX4_support_0 rfl 0 rfl ?_
  refine g_iconst (v := 1) X dX4_support_1 (by decide) ?_
  refine g_aload_n X dX4_support_2 rfl 0 rfl ?_
  refine g_iload_n X dX4_support_3 rfl 1 rfl ?_
  refine g_callV_rd (As := [.int b]) (ci := 4) (v := some (.int (bI (btw b 0 (u.2.1 1 1 - 1))))) X dX4_support_4 (c_X4_isBill κ.l hl κ.Γ M a u hR b) k1275 k1277 kp26 k5 k1278 rfl (MRep.obj hR) ⟨rfl, by decide, by decide, (show (parseMethodDescriptor yX4_isBill.desc).map (fun d => d.parameters.length) = some 1 by decide +kernel)⟩ rfl (Nat.le_of_ble_eq_true rfl) (by rw [hRm]; decide) (by rw [hRm]; exact ⟨Nat.le_of_ble_eq_true rfl, Nat.le_of_ble_eq_true rfl⟩) ?_
  refine g_ifb_eq (tgt := 18) X dX4_support_7 (by decide) (fun c1 => ?_) (fun c1 => ?_)
  · refine g_iconst (v := 1) X dX4_support_18 (by decide) ?_
    refine g_goto (tgt := 23) X dX4_support_19 (by decide) ?_
    refine g_callV (As := [.int 1, .int 1]) (ci := 4) X dX4_support_23 (c_X4_fails1 κ.l hl κ.Γ M a u hR 1) k1164 k1166 kp15 k5 k1167 rfl (MRep.obj hR) ⟨rfl, by decide, by decide, (show (parseMethodDescriptor yX4_fails.desc).map (fun d => d.parameters.length) = some 2 by decide +kernel)⟩ rfl (Nat.le_of_ble_eq_true rfl) (by rw [hRm]; decide) (by rw [hRm]; exact ⟨Nat.le_of_ble_eq_true rfl, Nat.le_of_ble_eq_true rfl⟩) (fun v2 M2 h2 => ?_) (fun _ _ h9 => by cases h9.1)
    obtain ⟨e2, hR2, hF2⟩ := h2
    have e2 : (Sum.inl v2 : Res) = rI 1 := e2
    cases e2
    refine g_if_ne (tgt := 94) X dX4_support_26 (by decide) (fun c3 => ?_) (fun c3 => absurd c3 (by decide))
    refine g_iconst (v := 0) X dX4_support_94 (by decide) ?_
    exact g_iret X F dX4_support_95 (by omega) (by omega) (by unfold mSupport; exact (MMu.y (Or.inl (by first | exact c1 | exact fun q => q c1 | exact fun q => c1 q | exact Classical.not_not.mp c1)) ⟨rfl, hR2, hF2⟩))
  · refine g_aload_n X dX4_support_10 rfl 0 rfl ?_
    refine g_iload_n X dX4_support_11 rfl 3 rfl ?_
    refine g_callV_rd (As := [.int x]) (ci := 4) (v := some (.int (bI (btw x 0 (u.2.1 1 0 - 1))))) X dX4_support_12 (c_X4_isMember κ.l hl κ.Γ M a u hR x) k1183 k1185 kp18 k5 k1186 rfl (MRep.obj hR) ⟨rfl, by decide, by decide, (show (parseMethodDescriptor yX4_isMember.desc).map (fun d => d.parameters.length) = some 1 by decide +kernel)⟩ rfl (Nat.le_of_ble_eq_true rfl) (by rw [hRm]; decide) (by rw [hRm]; exact ⟨Nat.le_of_ble_eq_true rfl, Nat.le_of_ble_eq_true rfl⟩) ?_
    refine g_ifb_ne (tgt := 22) X dX4_support_15 (by decide) (fun c4 => ?_) (fun c4 => ?_)
    · refine g_iconst (v := 0) X dX4_support_22 (by decide) ?_
      refine g_callV (As := [.int 1, .int 0]) (ci := 4) X dX4_support_23 (c_X4_fails0 κ.l hl κ.Γ M a u hR 1) k1164 k1166 kp15 k5 k1167 rfl (MRep.obj hR) ⟨rfl, by decide, by decide, (show (parseMethodDescriptor yX4_fails.desc).map (fun d => d.parameters.length) = some 2 by decide +kernel)⟩ rfl (Nat.le_of_ble_eq_true rfl) (by rw [hRm]; decide) (by rw [hRm]; exact ⟨Nat.le_of_ble_eq_true rfl, Nat.le_of_ble_eq_true rfl⟩) (fun v5 M5 h5 => ?_) (fun _ _ h9 => by cases h9.1)
      obtain ⟨e5, hR5, hF5⟩ := h5
      have e5 : (Sum.inl v5 : Res) = rI 0 := e5
      cases e5
      obtain ⟨b9, hb9, hcb9, rfl⟩ := RInv.bil hi c1
      refine g_if_ne (tgt := 94) X dX4_support_26 (by decide) (fun c6 => absurd c6 (by decide)) (fun c6 => ?_)
      refine g_aload_n X dX4_support_29 rfl 0 rfl ?_
      refine g_iconst (v := 2) X dX4_support_30 (by decide) ?_
      refine g_aload_n X dX4_support_31 rfl 0 rfl ?_
      refine g_iload_n X dX4_support_32 rfl 1 rfl ?_
      refine g_iconst (v := 0) X dX4_support_33 (by decide) ?_
      refine g_callV_rd (As := [.int (nI b9), .int 0]) (ci := 4) (v := some (.int (u.2.1 1 (53 + 16 * b9 + 0)))) X dX4_support_34 (c_X4_of κ.l hl κ.Γ M5 a (hsc u 0 0) hR5 b9 0 (by omega) (by omega)) k1263 k1265 kp25 k5 k1266 rfl (MRep.obj hR5) ⟨rfl, by decide, by decide, (show (parseMethodDescriptor yX4_of.desc).map (fun d => d.parameters.length) = some 2 by decide +kernel)⟩ rfl (Nat.le_of_ble_eq_true rfl) (by rw [hRm]; decide) (by rw [hRm]; exact ⟨Nat.le_of_ble_eq_true rfl, Nat.le_of_ble_eq_true rfl⟩) ?_
      refine g_if_eq (tgt := 44) X dX4_support_37 (by decide) (fun c7 => ?_) (fun c7 => ?_)
      · refine g_iconst (v := 0) X dX4_support_44 (by decide) ?_
        refine g_callV (As := [.int 2, .int 0]) (ci := 4) X dX4_support_45 (c_X4_fails0 κ.l hl κ.Γ M5 a (hsc u 0 0) hR5 2) k1164 k1166 kp15 k5 k1167 rfl (MRep.obj hR5) ⟨rfl, by decide, by decide, (show (parseMethodDescriptor yX4_fails.desc).map (fun d => d.parameters.length) = some 2 by decide +kernel)⟩ rfl (Nat.le_of_ble_eq_true rfl) (by rw [hRm]; decide) (by rw [hRm]; exact ⟨Nat.le_of_ble_eq_true rfl, Nat.le_of_ble_eq_true rfl⟩) (fun v8 M8 h8 => ?_) (fun _ _ h9 => by cases h9.1)
        obtain ⟨e8, hR8, hF8⟩ := h8
        have e8 : (Sum.inl v8 : Res) = rI 0 := e8
        cases e8
        have hR8 : MRep κ.Γ a (hsc u 0 0) M8 := by rw [← hsc_hsc (x := 0)]; exact hR8
        have hF8 := Fr.tr hF5 hF8
        refine g_if_ne (tgt := 94) X dX4_support_48 (by decide) (fun c9 => absurd c9 (by decide)) (fun c9 => ?_)
        refine g_aload_n X dX4_support_51 rfl 0 rfl ?_
        refine g_iconst (v := 3) X dX4_support_52 (by decide) ?_
        refine g_aload_n X dX4_support_53 rfl 0 rfl ?_
        refine g_iload_n X dX4_support_54 rfl 1 rfl ?_
        refine g_iload_n X dX4_support_55 rfl 2 rfl ?_
        refine g_callV_rd (As := [.int (nI b9), .int p]) (ci := 4) (v := some (.int (bI (btw p 0 (u.2.1 1 (53 + 16 * b9 + 7) - 1))))) X dX4_support_56 (c_X4_isPending κ.l hl κ.Γ M8 a (hsc u 0 0) hR8 b9 p (by omega)) k1388 k1390 kp34 k5 k1391 rfl (MRep.obj hR8) ⟨rfl, by decide, by decide, (show (parseMethodDescriptor yX4_isPending.desc).map (fun d => d.parameters.length) = some 2 by decide +kernel)⟩ rfl (Nat.le_of_ble_eq_true rfl) (by rw [hRm]; decide) (by rw [hRm]; exact ⟨Nat.le_of_ble_eq_true rfl, Nat.le_of_ble_eq_true rfl⟩) ?_
        refine g_ifb_ne (tgt := 66) X dX4_support_59 (by decide) (fun c10 => ?_) (fun c10 => ?_)
        · refine g_iconst (v := 0) X dX4_support_66 (by decide) ?_
          refine g_callV (As := [.int 3, .int 0]) (ci := 4) X dX4_support_67 (c_X4_fails0 κ.l hl κ.Γ M8 a (hsc u 0 0) hR8 3) k1164 k1166 kp15 k5 k1167 rfl (MRep.obj hR8) ⟨rfl, by decide, by decide, (show (parseMethodDescriptor yX4_fails.desc).map (fun d => d.parameters.length) = some 2 by decide +kernel)⟩ rfl (Nat.le_of_ble_eq_true rfl) (by rw [hRm]; decide) (by rw [hRm]; exact ⟨Nat.le_of_ble_eq_true rfl, Nat.le_of_ble_eq_true rfl⟩) (fun v11 M11 h11 => ?_) (fun _ _ h9 => by cases h9.1)
          obtain ⟨e11, hR11, hF11⟩ := h11
          have e11 : (Sum.inl v11 : Res) = rI 0 := e11
          cases e11
          have hR11 : MRep κ.Γ a (hsc u 0 0) M11 := by rw [← hsc_hsc (x := 0)]; exact hR11
          have hF11 := Fr.tr hF8 hF11
          obtain ⟨p9, hp9, hcp9, rfl⟩ := RInv.pos hi hb9 c10
          refine g_if_ne (tgt := 94) X dX4_support_70 (by decide) (fun c12 => absurd c12 (by decide)) (fun c12 => ?_)
          refine g_aload_n X dX4_support_73 rfl 0 rfl ?_
          refine g_iconst (v := 4) X dX4_support_74 (by decide) ?_
          refine g_aload_n X dX4_support_75 rfl 0 rfl ?_
          refine g_iload_n X dX4_support_76 rfl 3 rfl ?_
          refine g_callV_rd (As := [.int x]) (ci := 4) (v := some (.int (bI (shr (u.2.1 1 2) x &&& 1 = 1)))) X dX4_support_77 (c_X4_present κ.l hl κ.Γ M11 a (hsc u 0 0) hR11 x) k1187 k1189 kp19 k5 k1190 rfl (MRep.obj hR11) ⟨rfl, by decide, by decide, (show (parseMethodDescriptor yX4_present.desc).map (fun d => d.parameters.length) = some 1 by decide +kernel)⟩ rfl (Nat.le_of_ble_eq_true rfl) (by rw [hRm]; decide) (by rw [hRm]; exact ⟨Nat.le_of_ble_eq_true rfl, Nat.le_of_ble_eq_true rfl⟩) ?_
          refine g_ifb_ne (tgt := 87) X dX4_support_80 (by decide) (fun c13 => ?_) (fun c13 => ?_)
          · refine g_iconst (v := 0) X dX4_support_87 (by decide) ?_
            refine g_callV (As := [.int 4, .int 0]) (ci := 4) X dX4_support_88 (c_X4_fails0 κ.l hl κ.Γ M11 a (hsc u 0 0) hR11 4) k1164 k1166 kp15 k5 k1167 rfl (MRep.obj hR11) ⟨rfl, by decide, by decide, (show (parseMethodDescriptor yX4_fails.desc).map (fun d => d.parameters.length) = some 2 by decide +kernel)⟩ rfl (Nat.le_of_ble_eq_true rfl) (by rw [hRm]; decide) (by rw [hRm]; exact ⟨Nat.le_of_ble_eq_true rfl, Nat.le_of_ble_eq_true rfl⟩) (fun v14 M14 h14 => ?_) (fun _ _ h9 => by cases h9.1)
            obtain ⟨e14, hR14, hF14⟩ := h14
            have e14 : (Sum.inl v14 : Res) = rI 0 := e14
            cases e14
            have hR14 : MRep κ.Γ a (hsc u 0 0) M14 := by rw [← hsc_hsc (x := 0)]; exact hR14
            have hF14 := Fr.tr hF11 hF14
            refine g_if_eq (tgt := 96) X dX4_support_91 (by decide) (fun c15 => ?_) (fun c15 => absurd c15 (by decide))
            refine g_aload_n X dX4_support_96 rfl 0 rfl ?_
            refine g_callV (As := []) (ci := 4) X dX4_support_97 (c_X4_change κ.l hl κ.Γ M14 a (hsc u 0 0) hR14 hk) k1168 k1170 kp16 k5 k1171 rfl (MRep.obj hR14) ⟨rfl, by decide, by decide, (show (parseMethodDescriptor yX4_change.desc).map (fun d => d.parameters.length) = some 0 by decide +kernel)⟩ rfl (Nat.le_of_ble_eq_true rfl) (by rw [hRm]; decide) (by rw [hRm]; exact ⟨Nat.le_of_ble_eq_true rfl, Nat.le_of_ble_eq_true rfl⟩) (fun v16 M16 h16 => ?_) (fun _ _ h9 => by cases h9.1)
            obtain ⟨e16, hR16, hF16⟩ := h16
            have e16 : (Sum.inl v16 : Res) = .inl none := e16
            cases e16
            have hR16 : MRep κ.Γ a (mChg (hsc u 0 0)) M16 := hR16
            have hF16 := Fr.tr hF14 hF16
            refine g_aload_n X dX4_support_100 rfl 0 rfl ?_
            refine g_iload_n X dX4_support_101 rfl 1 rfl ?_
            refine g_bipush (v := 8) X dX4_support_102 (by decide) ?_
            refine g_iconst (v := 2) X dX4_support_104 (by decide) ?_
            refine g_iload_n X dX4_support_105 rfl 2 rfl ?_
            refine g_imul X dX4_support_106 ?_
            refine g_lit (nI (2 * p9)) (nI_mulJ 2 p9) ?_
            refine g_iadd X dX4_support_107 ?_
            refine g_lit (nI (8 + (2 * p9))) (nI_addJ 8 (2 * p9)) ?_
            refine g_iconst (v := 1) X dX4_support_108 (by decide) ?_
            refine g_iadd X dX4_support_109 ?_
            refine g_lit (nI ((8 + (2 * p9)) + 1)) (nI_addJ (8 + (2 * p9)) 1) ?_
            refine g_aload_n X dX4_support_110 rfl 0 rfl ?_
            refine g_iload_n X dX4_support_111 rfl 1 rfl ?_
            refine g_iload_n X dX4_support_112 rfl 2 rfl ?_
            refine g_callV_rd (As := [.int (nI b9), .int (nI p9)]) (ci := 4) (v := some (.int ((mChg (hsc u 0 0)).2.1 1 (53 + 16 * b9 + (8 + 2 * p9 + 1))))) X dX4_support_113 (c_X4_supporters κ.l hl κ.Γ M16 a (mChg (hsc u 0 0)) hR16 b9 p9 (by omega) (by omega)) k1392 k1394 kp35 k5 k1395 rfl (MRep.obj hR16) ⟨rfl, by decide, by decide, (show (parseMethodDescriptor yX4_supporters.desc).map (fun d => d.parameters.length) = some 2 by decide +kernel)⟩ rfl (Nat.le_of_ble_eq_true rfl) (by rw [hRm]; decide) (by rw [hRm]; exact ⟨Nat.le_of_ble_eq_true rfl, Nat.le_of_ble_eq_true rfl⟩) ?_
            refine g_iconst (v := 1) X dX4_support_116 (by decide) ?_
            refine g_iload_n X dX4_support_117 rfl 3 rfl ?_
            refine g_ishl X dX4_support_118 ?_
            refine g_ior X dX4_support_119 ?_
            refine g_callV (As := [.int (nI b9), .int (nI ((8 + (2 * p9)) + 1)), .int (((mChg (hsc u 0 0)).2.1 1 (53 + 16 * b9 + (8 + 2 * p9 + 1))) ||| (shl 1 x))]) (ci := 4) X dX4_support_120 (c_X4_put κ.l hl κ.Γ M16 a (mChg (hsc u 0 0)) hR16 b9 ((8 + (2 * p9)) + 1) (((mChg (hsc u 0 0)).2.1 1 (53 + 16 * b9 + (8 + 2 * p9 + 1))) ||| (shl 1 x)) (by omega) (by omega)) k1255 k1257 kp23 k5 k1258 rfl (MRep.obj hR16) ⟨rfl, by decide, by decide, (show (parseMethodDescriptor yX4_put.desc).map (fun d => d.parameters.length) = some 3 by decide +kernel)⟩ rfl (Nat.le_of_ble_eq_true rfl) (by rw [hRm]; decide) (by rw [hRm]; exact ⟨Nat.le_of_ble_eq_true rfl, Nat.le_of_ble_eq_true rfl⟩) (fun v17 M17 h17 => ?_) (fun _ _ h9 => by cases h9.1)
            obtain ⟨e17, hR17, hF17⟩ := h17
            have e17 : (Sum.inl v17 : Res) = .inl none := e17
            cases e17
            have hR17 : MRep κ.Γ a (rPut (mChg (hsc u 0 0)) b9 ((8 + (2 * p9)) + 1) (((mChg (hsc u 0 0)).2.1 1 (53 + 16 * b9 + (8 + 2 * p9 + 1))) ||| (shl 1 x))) M17 := hR17
            have hF17 := Fr.tr hF16 hF17
            refine g_aload_n X dX4_support_123 rfl 0 rfl ?_
            refine g_aload_n X dX4_support_124 rfl 0 rfl ?_
            refine g_iload_n X dX4_support_125 rfl 1 rfl ?_
            refine g_iload_n X dX4_support_126 rfl 2 rfl ?_
            refine g_callV_rd (As := [.int (nI b9), .int (nI p9)]) (ci := 4) (v := some (.int ((rPut (mChg (hsc u 0 0)) b9 ((8 + (2 * p9)) + 1) (((mChg (hsc u 0 0)).2.1 1 (53 + 16 * b9 + (8 + 2 * p9 + 1))) ||| (shl 1 x))).2.1 1 (53 + 16 * b9 + (8 + 2 * p9 + 1))))) X dX4_support_127 (c_X4_supporters κ.l hl κ.Γ M17 a (rPut (mChg (hsc u 0 0)) b9 ((8 + (2 * p9)) + 1) (((mChg (hsc u 0 0)).2.1 1 (53 + 16 * b9 + (8 + 2 * p9 + 1))) ||| (shl 1 x))) hR17 b9 p9 (by omega) (by omega)) k1392 k1394 kp35 k5 k1395 rfl (MRep.obj hR17) ⟨rfl, by decide, by decide, (show (parseMethodDescriptor yX4_supporters.desc).map (fun d => d.parameters.length) = some 2 by decide +kernel)⟩ rfl (Nat.le_of_ble_eq_true rfl) (by rw [hRm]; decide) (by rw [hRm]; exact ⟨Nat.le_of_ble_eq_true rfl, Nat.le_of_ble_eq_true rfl⟩) ?_
            refine g_callV_rd (As := [.int ((rPut (mChg (hsc u 0 0)) b9 ((8 + (2 * p9)) + 1) (((mChg (hsc u 0 0)).2.1 1 (53 + 16 * b9 + (8 + 2 * p9 + 1))) ||| (shl 1 x))).2.1 1 (53 + 16 * b9 + (8 + 2 * p9 + 1)))]) (ci := 4) (v := some (.int (rSum (rPut (mChg (hsc u 0 0)) b9 ((8 + (2 * p9)) + 1) (((mChg (hsc u 0 0)).2.1 1 (53 + 16 * b9 + (8 + 2 * p9 + 1))) ||| (shl 1 x))) ((rPut (mChg (hsc u 0 0)) b9 ((8 + (2 * p9)) + 1) (((mChg (hsc u 0 0)).2.1 1 (53 + 16 * b9 + (8 + 2 * p9 + 1))) ||| (shl 1 x))).2.1 1 (53 + 16 * b9 + (8 + 2 * p9 + 1))) (cN ((rPut (mChg (hsc u 0 0)) b9 ((8 + (2 * p9)) + 1) (((mChg (hsc u 0 0)).2.1 1 (53 + 16 * b9 + (8 + 2 * p9 + 1))) ||| (shl 1 x))).2.1 1 0))))) X dX4_support_130 (c_X4_weigh κ.l hl κ.Γ M17 a (rPut (mChg (hsc u 0 0)) b9 ((8 + (2 * p9)) + 1) (((mChg (hsc u 0 0)).2.1 1 (53 + 16 * b9 + (8 + 2 * p9 + 1))) ||| (shl 1 x))) hR17 ((rPut (mChg (hsc u 0 0)) b9 ((8 + (2 * p9)) + 1) (((mChg (hsc u 0 0)).2.1 1 (53 + 16 * b9 + (8 + 2 * p9 + 1))) ||| (shl 1 x))).2.1 1 (53 + 16 * b9 + (8 + 2 * p9 + 1))) (RInv.putU (u := mChg (hsc u 0 0)) (b := b9) (k := ((8 + (2 * p9)) + 1)) (v := ((mChg (hsc u 0 0)).2.1 1 (53 + 16 * b9 + (8 + 2 * p9 + 1))) ||| (shl 1 x)) (RInv.chg hi) (by omega) (by omega))) k1333 k1335 kp32 k5 k1336 rfl (MRep.obj hR17) ⟨rfl, by decide, by decide, (show (parseMethodDescriptor yX4_weigh.desc).map (fun d => d.parameters.length) = some 1 by decide +kernel)⟩ rfl (Nat.le_of_ble_eq_true rfl) (by rw [hRm]; decide) (by rw [hRm]; exact ⟨Nat.le_of_ble_eq_true rfl, Nat.le_of_ble_eq_true rfl⟩) ?_
            exact g_iret X F dX4_support_133 (by omega) (by omega) (by unfold mSupport; (try rw [hcb9]); (try rw [hcp9]); exact (MMu.n (fun z => z.elim (by first | exact c1 | exact fun q => q c1 | exact fun q => c1 q | exact Classical.not_not.mp c1) (by first | exact c4 | exact fun q => q c4 | exact fun q => c4 q | exact Classical.not_not.mp c4)) (MMu.n (by first | exact c7 | exact fun q => q c7 | exact fun q => c7 q | exact Classical.not_not.mp c7) (MMu.n (by first | exact c10 | exact fun q => q c10 | exact fun q => c10 q | exact Classical.not_not.mp c10) (MMu.n (by first | exact c13 | exact fun q => q c13 | exact fun q => c13 q | exact Classical.not_not.mp c13) ⟨rfl, by (try unfold sSec); exact hR17, hF17⟩)))))
          · refine g_iconst (v := 1) X dX4_support_83 (by decide) ?_
            refine g_goto (tgt := 88) X dX4_support_84 (by decide) ?_
            refine g_callV (As := [.int 4, .int 1]) (ci := 4) X dX4_support_88 (c_X4_fails1 κ.l hl κ.Γ M11 a (hsc u 0 0) hR11 4) k1164 k1166 kp15 k5 k1167 rfl (MRep.obj hR11) ⟨rfl, by decide, by decide, (show (parseMethodDescriptor yX4_fails.desc).map (fun d => d.parameters.length) = some 2 by decide +kernel)⟩ rfl (Nat.le_of_ble_eq_true rfl) (by rw [hRm]; decide) (by rw [hRm]; exact ⟨Nat.le_of_ble_eq_true rfl, Nat.le_of_ble_eq_true rfl⟩) (fun v18 M18 h18 => ?_) (fun _ _ h9 => by cases h9.1)
            obtain ⟨e18, hR18, hF18⟩ := h18
            have e18 : (Sum.inl v18 : Res) = rI 1 := e18
            cases e18
            have hR18 : MRep κ.Γ a (hsc u 0 4) M18 := by rw [← hsc_hsc (x := 0)]; exact hR18
            have hF18 := Fr.tr hF11 hF18
            refine g_if_eq (tgt := 96) X dX4_support_91 (by decide) (fun c19 => absurd c19 (by decide)) (fun c19 => ?_)
            refine g_iconst (v := 0) X dX4_support_94 (by decide) ?_
            exact g_iret X F dX4_support_95 (by omega) (by omega) (by unfold mSupport; (try rw [hcb9]); (try rw [hcp9]); exact (MMu.n (fun z => z.elim (by first | exact c1 | exact fun q => q c1 | exact fun q => c1 q | exact Classical.not_not.mp c1) (by first | exact c4 | exact fun q => q c4 | exact fun q => c4 q | exact Classical.not_not.mp c4)) (MMu.n (by first | exact c7 | exact fun q => q c7 | exact fun q => c7 q | exact Classical.not_not.mp c7) (MMu.n (by first | exact c10 | exact fun q => q c10 | exact fun q => c10 q | exact Classical.not_not.mp c10) (MMu.y (by first | exact c13 | exact fun q => q c13 | exact fun q => c13 q | exact Classical.not_not.mp c13) ⟨rfl, hR18, hF18⟩)))))
        · refine g_iconst (v := 1) X dX4_support_62 (by decide) ?_
          refine g_goto (tgt := 67) X dX4_support_63 (by decide) ?_
          refine g_callV (As := [.int 3, .int 1]) (ci := 4) X dX4_support_67 (c_X4_fails1 κ.l hl κ.Γ M8 a (hsc u 0 0) hR8 3) k1164 k1166 kp15 k5 k1167 rfl (MRep.obj hR8) ⟨rfl, by decide, by decide, (show (parseMethodDescriptor yX4_fails.desc).map (fun d => d.parameters.length) = some 2 by decide +kernel)⟩ rfl (Nat.le_of_ble_eq_true rfl) (by rw [hRm]; decide) (by rw [hRm]; exact ⟨Nat.le_of_ble_eq_true rfl, Nat.le_of_ble_eq_true rfl⟩) (fun v20 M20 h20 => ?_) (fun _ _ h9 => by cases h9.1)
          obtain ⟨e20, hR20, hF20⟩ := h20
          have e20 : (Sum.inl v20 : Res) = rI 1 := e20
          cases e20
          have hR20 : MRep κ.Γ a (hsc u 0 3) M20 := by rw [← hsc_hsc (x := 0)]; exact hR20
          have hF20 := Fr.tr hF8 hF20
          refine g_if_ne (tgt := 94) X dX4_support_70 (by decide) (fun c21 => ?_) (fun c21 => absurd c21 (by decide))
          refine g_iconst (v := 0) X dX4_support_94 (by decide) ?_
          exact g_iret X F dX4_support_95 (by omega) (by omega) (by unfold mSupport; (try rw [hcb9]); exact (MMu.n (fun z => z.elim (by first | exact c1 | exact fun q => q c1 | exact fun q => c1 q | exact Classical.not_not.mp c1) (by first | exact c4 | exact fun q => q c4 | exact fun q => c4 q | exact Classical.not_not.mp c4)) (MMu.n (by first | exact c7 | exact fun q => q c7 | exact fun q => c7 q | exact Classical.not_not.mp c7) (MMu.y (by first | exact c10 | exact fun q => q c10 | exact fun q => c10 q | exact Classical.not_not.mp c10) ⟨rfl, hR20, hF20⟩))))
      · refine g_iconst (v := 1) X dX4_support_40 (by decide) ?_
        refine g_goto (tgt := 45) X dX4_support_41 (by decide) ?_
        refine g_callV (As := [.int 2, .int 1]) (ci := 4) X dX4_support_45 (c_X4_fails1 κ.l hl κ.Γ M5 a (hsc u 0 0) hR5 2) k1164 k1166 kp15 k5 k1167 rfl (MRep.obj hR5) ⟨rfl, by decide, by decide, (show (parseMethodDescriptor yX4_fails.desc).map (fun d => d.parameters.length) = some 2 by decide +kernel)⟩ rfl (Nat.le_of_ble_eq_true rfl) (by rw [hRm]; decide) (by rw [hRm]; exact ⟨Nat.le_of_ble_eq_true rfl, Nat.le_of_ble_eq_true rfl⟩) (fun v22 M22 h22 => ?_) (fun _ _ h9 => by cases h9.1)
        obtain ⟨e22, hR22, hF22⟩ := h22
        have e22 : (Sum.inl v22 : Res) = rI 1 := e22
        cases e22
        have hR22 : MRep κ.Γ a (hsc u 0 2) M22 := by rw [← hsc_hsc (x := 0)]; exact hR22
        have hF22 := Fr.tr hF5 hF22
        refine g_if_ne (tgt := 94) X dX4_support_48 (by decide) (fun c23 => ?_) (fun c23 => absurd c23 (by decide))
        refine g_iconst (v := 0) X dX4_support_94 (by decide) ?_
        exact g_iret X F dX4_support_95 (by omega) (by omega) (by unfold mSupport; (try rw [hcb9]); exact (MMu.n (fun z => z.elim (by first | exact c1 | exact fun q => q c1 | exact fun q => c1 q | exact Classical.not_not.mp c1) (by first | exact c4 | exact fun q => q c4 | exact fun q => c4 q | exact Classical.not_not.mp c4)) (MMu.y (by first | exact c7 | exact fun q => q c7 | exact fun q => c7 q | exact Classical.not_not.mp c7) ⟨rfl, hR22, hF22⟩)))
    · refine g_iconst (v := 1) X dX4_support_18 (by decide) ?_
      refine g_goto (tgt := 23) X dX4_support_19 (by decide) ?_
      refine g_callV (As := [.int 1, .int 1]) (ci := 4) X dX4_support_23 (c_X4_fails1 κ.l hl κ.Γ M a u hR 1) k1164 k1166 kp15 k5 k1167 rfl (MRep.obj hR) ⟨rfl, by decide, by decide, (show (parseMethodDescriptor yX4_fails.desc).map (fun d => d.parameters.length) = some 2 by decide +kernel)⟩ rfl (Nat.le_of_ble_eq_true rfl) (by rw [hRm]; decide) (by rw [hRm]; exact ⟨Nat.le_of_ble_eq_true rfl, Nat.le_of_ble_eq_true rfl⟩) (fun v24 M24 h24 => ?_) (fun _ _ h9 => by cases h9.1)
      obtain ⟨e24, hR24, hF24⟩ := h24
      have e24 : (Sum.inl v24 : Res) = rI 1 := e24
      cases e24
      refine g_if_ne (tgt := 94) X dX4_support_26 (by decide) (fun c25 => ?_) (fun c25 => absurd c25 (by decide))
      refine g_iconst (v := 0) X dX4_support_94 (by decide) ?_
      exact g_iret X F dX4_support_95 (by omega) (by omega) (by unfold mSupport; exact (MMu.y (Or.inr (by first | exact c4 | exact fun q => q c4 | exact fun q => c4 q | exact Classical.not_not.mp c4)) ⟨rfl, hR24, hF24⟩))
noncomputable def mDecide (u : HV) (b : Int32) : Res × HV := mG (¬ isBl u b) 1 zI u (mG (¬ rB u (cN b) 0 = 0) 2 zI u (mG (rB u (cN b) 7 = 0) 3 zI u (mG (¬ quo u) 4 zI u ((rI (bI (rAcc (uC u) (cN b))), sDec (uC u) (cN b))))))
set_option maxRecDepth 100000 in
set_option maxHeartbeats 4000000 in
theorem c_X4_decide (l : Launch) (hl : l.stackTraces = false) (Γ : Gm) (M : Hp) (a : Nat → Nat) (u : HV) (hR : MRep Γ a u M) (b : Int32) (hi : RInv (u.2.1 1)) (hk : KInv u) : Ct l Γ yX4_decide cX4_decide 4 (some .boolean) 3 0 0 [.ref (a 0), .int b] M (MMu Γ a (mDecide u b) M) := by
  refine Ct.of hl (by decide) (Nat.le_of_ble_eq_true rfl) rfl ?_
  intro κ e1 e2 hnL hRm X F hlt
  subst e1 e2
  refine g_aload_n X dX4_decide_0 rfl 0 rfl ?_
  refine g_iconst (v := 1) X dX4_decide_1 (by decide) ?_
  refine g_aload_n X dX4_decide_2 rfl 0 rfl ?_
  refine g_iload_n X dX4_decide_3 rfl 1 rfl ?_
  refine g_callV_rd (As := [.int b]) (ci := 4) (v := some (.int (bI (btw b 0 (u.2.1 1 1 - 1))))) X dX4_decide_4 (c_X4_isBill κ.l hl κ.Γ M a u hR b) k1275 k1277 kp26 k5 k1278 rfl (MRep.obj hR) ⟨rfl, by decide, by decide, (show (parseMethodDescriptor yX4_isBill.desc).map (fun d => d.parameters.length) = some 1 by decide +kernel)⟩ rfl (Nat.le_of_ble_eq_true rfl) (by rw [hRm]; decide) (by rw [hRm]; exact ⟨Nat.le_of_ble_eq_true rfl, Nat.le_of_ble_eq_true rfl⟩) ?_
  refine g_ifb_ne (tgt := 14) X dX4_decide_7 (by decide) (fun c1 => ?_) (fun c1 => ?_)
  · refine g_iconst (v := 0) X dX4_decide_14 (by decide) ?_
    refine g_callV (As := [.int 1, .int 0]) (ci := 4) X dX4_decide_15 (c_X4_fails0 κ.l hl κ.Γ M a u hR 1) k1164 k1166 kp15 k5 k1167 rfl (MRep.obj hR) ⟨rfl, by decide, by decide, (show (parseMethodDescriptor yX4_fails.desc).map (fun d => d.parameters.length) = some 2 by decide +kernel)⟩ rfl (Nat.le_of_ble_eq_true rfl) (by rw [hRm]; decide) (by rw [hRm]; exact ⟨Nat.le_of_ble_eq_true rfl, Nat.le_of_ble_eq_true rfl⟩) (fun v2 M2 h2 => ?_) (fun _ _ h9 => by cases h9.1)
    obtain ⟨e2, hR2, hF2⟩ := h2
    have e2 : (Sum.inl v2 : Res) = rI 0 := e2
    cases e2
    obtain ⟨b9, hb9, hcb9, rfl⟩ := RInv.bil hi c1
    refine g_if_ne (tgt := 86) X dX4_decide_18 (by decide) (fun c3 => absurd c3 (by decide)) (fun c3 => ?_)
    refine g_aload_n X dX4_decide_21 rfl 0 rfl ?_
    refine g_iconst (v := 2) X dX4_decide_22 (by decide) ?_
    refine g_aload_n X dX4_decide_23 rfl 0 rfl ?_
    refine g_iload_n X dX4_decide_24 rfl 1 rfl ?_
    refine g_iconst (v := 0) X dX4_decide_25 (by decide) ?_
    refine g_callV_rd (As := [.int (nI b9), .int 0]) (ci := 4) (v := some (.int (u.2.1 1 (53 + 16 * b9 + 0)))) X dX4_decide_26 (c_X4_of κ.l hl κ.Γ M2 a (hsc u 0 0) hR2 b9 0 (by omega) (by omega)) k1263 k1265 kp25 k5 k1266 rfl (MRep.obj hR2) ⟨rfl, by decide, by decide, (show (parseMethodDescriptor yX4_of.desc).map (fun d => d.parameters.length) = some 2 by decide +kernel)⟩ rfl (Nat.le_of_ble_eq_true rfl) (by rw [hRm]; decide) (by rw [hRm]; exact ⟨Nat.le_of_ble_eq_true rfl, Nat.le_of_ble_eq_true rfl⟩) ?_
    refine g_if_eq (tgt := 36) X dX4_decide_29 (by decide) (fun c4 => ?_) (fun c4 => ?_)
    · refine g_iconst (v := 0) X dX4_decide_36 (by decide) ?_
      refine g_callV (As := [.int 2, .int 0]) (ci := 4) X dX4_decide_37 (c_X4_fails0 κ.l hl κ.Γ M2 a (hsc u 0 0) hR2 2) k1164 k1166 kp15 k5 k1167 rfl (MRep.obj hR2) ⟨rfl, by decide, by decide, (show (parseMethodDescriptor yX4_fails.desc).map (fun d => d.parameters.length) = some 2 by decide +kernel)⟩ rfl (Nat.le_of_ble_eq_true rfl) (by rw [hRm]; decide) (by rw [hRm]; exact ⟨Nat.le_of_ble_eq_true rfl, Nat.le_of_ble_eq_true rfl⟩) (fun v5 M5 h5 => ?_) (fun _ _ h9 => by cases h9.1)
      obtain ⟨e5, hR5, hF5⟩ := h5
      have e5 : (Sum.inl v5 : Res) = rI 0 := e5
      cases e5
      have hR5 : MRep κ.Γ a (hsc u 0 0) M5 := by rw [← hsc_hsc (x := 0)]; exact hR5
      have hF5 := Fr.tr hF2 hF5
      refine g_if_ne (tgt := 86) X dX4_decide_40 (by decide) (fun c6 => absurd c6 (by decide)) (fun c6 => ?_)
      refine g_aload_n X dX4_decide_43 rfl 0 rfl ?_
      refine g_iconst (v := 3) X dX4_decide_44 (by decide) ?_
      refine g_aload_n X dX4_decide_45 rfl 0 rfl ?_
      refine g_iload_n X dX4_decide_46 rfl 1 rfl ?_
      refine g_bipush (v := 7) X dX4_decide_47 (by decide) ?_
      refine g_callV_rd (As := [.int (nI b9), .int 7]) (ci := 4) (v := some (.int (u.2.1 1 (53 + 16 * b9 + 7)))) X dX4_decide_49 (c_X4_of κ.l hl κ.Γ M5 a (hsc u 0 0) hR5 b9 7 (by omega) (by omega)) k1263 k1265 kp25 k5 k1266 rfl (MRep.obj hR5) ⟨rfl, by decide, by decide, (show (parseMethodDescriptor yX4_of.desc).map (fun d => d.parameters.length) = some 2 by decide +kernel)⟩ rfl (Nat.le_of_ble_eq_true rfl) (by rw [hRm]; decide) (by rw [hRm]; exact ⟨Nat.le_of_ble_eq_true rfl, Nat.le_of_ble_eq_true rfl⟩) ?_
      refine g_if_ne (tgt := 59) X dX4_decide_52 (by decide) (fun c7 => ?_) (fun c7 => ?_)
      · refine g_iconst (v := 0) X dX4_decide_59 (by decide) ?_
        refine g_callV (As := [.int 3, .int 0]) (ci := 4) X dX4_decide_60 (c_X4_fails0 κ.l hl κ.Γ M5 a (hsc u 0 0) hR5 3) k1164 k1166 kp15 k5 k1167 rfl (MRep.obj hR5) ⟨rfl, by decide, by decide, (show (parseMethodDescriptor yX4_fails.desc).map (fun d => d.parameters.length) = some 2 by decide +kernel)⟩ rfl (Nat.le_of_ble_eq_true rfl) (by rw [hRm]; decide) (by rw [hRm]; exact ⟨Nat.le_of_ble_eq_true rfl, Nat.le_of_ble_eq_true rfl⟩) (fun v8 M8 h8 => ?_) (fun _ _ h9 => by cases h9.1)
        obtain ⟨e8, hR8, hF8⟩ := h8
        have e8 : (Sum.inl v8 : Res) = rI 0 := e8
        cases e8
        have hR8 : MRep κ.Γ a (hsc u 0 0) M8 := by rw [← hsc_hsc (x := 0)]; exact hR8
        have hF8 := Fr.tr hF5 hF8
        refine g_if_ne (tgt := 86) X dX4_decide_63 (by decide) (fun c9 => absurd c9 (by decide)) (fun c9 => ?_)
        refine g_aload_n X dX4_decide_66 rfl 0 rfl ?_
        refine g_iconst (v := 4) X dX4_decide_67 (by decide) ?_
        refine g_aload_n X dX4_decide_68 rfl 0 rfl ?_
        refine g_callV_rd (As := []) (ci := 4) (v := some (.int (bI (u.2.1 1 3 ≤ jbc (u.2.1 1 2))))) X dX4_decide_69 (c_X4_quorate κ.l hl κ.Γ M8 a (hsc u 0 0) hR8) k1232 k1234 kp21 k5 k1235 rfl (MRep.obj hR8) ⟨rfl, by decide, by decide, (show (parseMethodDescriptor yX4_quorate.desc).map (fun d => d.parameters.length) = some 0 by decide +kernel)⟩ rfl (Nat.le_of_ble_eq_true rfl) (by rw [hRm]; decide) (by rw [hRm]; exact ⟨Nat.le_of_ble_eq_true rfl, Nat.le_of_ble_eq_true rfl⟩) ?_
        refine g_ifb_ne (tgt := 79) X dX4_decide_72 (by decide) (fun c10 => ?_) (fun c10 => ?_)
        · refine g_iconst (v := 0) X dX4_decide_79 (by decide) ?_
          refine g_callV (As := [.int 4, .int 0]) (ci := 4) X dX4_decide_80 (c_X4_fails0 κ.l hl κ.Γ M8 a (hsc u 0 0) hR8 4) k1164 k1166 kp15 k5 k1167 rfl (MRep.obj hR8) ⟨rfl, by decide, by decide, (show (parseMethodDescriptor yX4_fails.desc).map (fun d => d.parameters.length) = some 2 by decide +kernel)⟩ rfl (Nat.le_of_ble_eq_true rfl) (by rw [hRm]; decide) (by rw [hRm]; exact ⟨Nat.le_of_ble_eq_true rfl, Nat.le_of_ble_eq_true rfl⟩) (fun v11 M11 h11 => ?_) (fun _ _ h9 => by cases h9.1)
          obtain ⟨e11, hR11, hF11⟩ := h11
          have e11 : (Sum.inl v11 : Res) = rI 0 := e11
          cases e11
          have hR11 : MRep κ.Γ a (hsc u 0 0) M11 := by rw [← hsc_hsc (x := 0)]; exact hR11
          have hF11 := Fr.tr hF8 hF11
          refine g_if_eq (tgt := 88) X dX4_decide_83 (by decide) (fun c12 => ?_) (fun c12 => absurd c12 (by decide))
          obtain ⟨P, hP4, eP0⟩ := hi.2.2 b9 hb9
          have hP0 : ¬ P = 0 := fun z => c7 (by show u.2.1 1 (53 + 16 * b9 + 7) = 0; rw [eP0, z]; rfl)
          obtain ⟨Q, rfl⟩ : ∃ Q, P = Q + 1 := ⟨P - 1, by omega⟩
          have hcQ : cN (nI Q) = Q := cN_nI (by omega)
          have eP : rB (uC u) b9 7 - 1 = nI Q := by (show (uC u).2.1 1 _ - 1 = _); rw [uC_now, eP0, nI_pred]
          refine g_aload_n X dX4_decide_88 rfl 0 rfl ?_
          refine g_callV (As := []) (ci := 4) X dX4_decide_89 (c_X4_change κ.l hl κ.Γ M11 a (hsc u 0 0) hR11 hk) k1168 k1170 kp16 k5 k1171 rfl (MRep.obj hR11) ⟨rfl, by decide, by decide, (show (parseMethodDescriptor yX4_change.desc).map (fun d => d.parameters.length) = some 0 by decide +kernel)⟩ rfl (Nat.le_of_ble_eq_true rfl) (by rw [hRm]; decide) (by rw [hRm]; exact ⟨Nat.le_of_ble_eq_true rfl, Nat.le_of_ble_eq_true rfl⟩) (fun v13 M13 h13 => ?_) (fun _ _ h9 => by cases h9.1)
          obtain ⟨e13, hR13, hF13⟩ := h13
          have e13 : (Sum.inl v13 : Res) = .inl none := e13
          cases e13
          have hR13 : MRep κ.Γ a (mChg (hsc u 0 0)) M13 := hR13
          have hF13 := Fr.tr hF11 hF13
          refine g_iconst (v := 2) X dX4_decide_92 (by decide) ?_
          refine g_aload_n X dX4_decide_93 rfl 0 rfl ?_
          refine g_aload_n X dX4_decide_94 rfl 0 rfl ?_
          refine g_iload_n X dX4_decide_95 rfl 1 rfl ?_
          refine g_iconst (v := 0) X dX4_decide_96 (by decide) ?_
          refine g_callV_rd (As := [.int (nI b9), .int 0]) (ci := 4) (v := some (.int ((mChg (hsc u 0 0)).2.1 1 (53 + 16 * b9 + (8 + 2 * 0 + 1))))) X dX4_decide_97 (c_X4_supporters κ.l hl κ.Γ M13 a (mChg (hsc u 0 0)) hR13 b9 0 (by omega) (by omega)) k1392 k1394 kp35 k5 k1395 rfl (MRep.obj hR13) ⟨rfl, by decide, by decide, (show (parseMethodDescriptor yX4_supporters.desc).map (fun d => d.parameters.length) = some 2 by decide +kernel)⟩ rfl (Nat.le_of_ble_eq_true rfl) (by rw [hRm]; decide) (by rw [hRm]; exact ⟨Nat.le_of_ble_eq_true rfl, Nat.le_of_ble_eq_true rfl⟩) ?_
          refine g_callV_rd (As := [.int ((mChg (hsc u 0 0)).2.1 1 (53 + 16 * b9 + (8 + 2 * 0 + 1)))]) (ci := 4) (v := some (.int (rSum (mChg (hsc u 0 0)) ((mChg (hsc u 0 0)).2.1 1 (53 + 16 * b9 + (8 + 2 * 0 + 1))) (cN ((mChg (hsc u 0 0)).2.1 1 0))))) X dX4_decide_100 (c_X4_weigh κ.l hl κ.Γ M13 a (mChg (hsc u 0 0)) hR13 ((mChg (hsc u 0 0)).2.1 1 (53 + 16 * b9 + (8 + 2 * 0 + 1))) (RInv.chg hi)) k1333 k1335 kp32 k5 k1336 rfl (MRep.obj hR13) ⟨rfl, by decide, by decide, (show (parseMethodDescriptor yX4_weigh.desc).map (fun d => d.parameters.length) = some 1 by decide +kernel)⟩ rfl (Nat.le_of_ble_eq_true rfl) (by rw [hRm]; decide) (by rw [hRm]; exact ⟨Nat.le_of_ble_eq_true rfl, Nat.le_of_ble_eq_true rfl⟩) ?_
          refine g_imul X dX4_decide_103 ?_
          refine g_aload_n X dX4_decide_104 rfl 0 rfl ?_
          refine g_aload_n X dX4_decide_105 rfl 0 rfl ?_
          refine g_get X dX4_decide_106 (ci := 4) (k := 1) (v := .ref (a 1)) rfl k1090 (by decide) rfl (MRep.obj hR13) rfl ?_
          refine g_iconst (v := 2) X dX4_decide_109 (by decide) ?_
          refine g_iald (b := 2) X dX4_decide_110 (MRep.row hR13 1 (by decide) (by decide)) (by omega) (by decide) ?_
          refine g_callV_rd (As := [.int ((mChg (hsc u 0 0)).2.1 1 2)]) (ci := 4) (v := some (.int (rSum (mChg (hsc u 0 0)) ((mChg (hsc u 0 0)).2.1 1 2) (cN ((mChg (hsc u 0 0)).2.1 1 0))))) X dX4_decide_111 (c_X4_weigh κ.l hl κ.Γ M13 a (mChg (hsc u 0 0)) hR13 ((mChg (hsc u 0 0)).2.1 1 2) (RInv.chg hi)) k1333 k1335 kp32 k5 k1336 rfl (MRep.obj hR13) ⟨rfl, by decide, by decide, (show (parseMethodDescriptor yX4_weigh.desc).map (fun d => d.parameters.length) = some 1 by decide +kernel)⟩ rfl (Nat.le_of_ble_eq_true rfl) (by rw [hRm]; decide) (by rw [hRm]; exact ⟨Nat.le_of_ble_eq_true rfl, Nat.le_of_ble_eq_true rfl⟩) ?_
          refine g_icmp_le (tgt := 121) X dX4_decide_114 (by decide) (fun c14 => ?_) (fun c14 => ?_)
          · refine g_iconst (v := 0) X dX4_decide_121 (by decide) ?_
            refine g_istore_n (L' := [(2, .int 0), (0, .ref (a 0)), (1, .int (nI b9))]) X dX4_decide_122 rfl (by rw [hnL]; decide) rfl ?_
            refine g_iload_n X dX4_decide_123 rfl 0 rfl ?_
            refine g_if_eq (tgt := 148) X dX4_decide_124 (by decide) (fun c15 => ?_) (fun c15 => absurd c15 (by decide))
            refine g_aload_n X dX4_decide_148 rfl 1 rfl ?_
            refine g_iload_n X dX4_decide_149 rfl 2 rfl ?_
            refine g_bipush (v := 7) X dX4_decide_150 (by decide) ?_
            refine g_aload_n X dX4_decide_152 rfl 1 rfl ?_
            refine g_iload_n X dX4_decide_153 rfl 2 rfl ?_
            refine g_bipush (v := 7) X dX4_decide_154 (by decide) ?_
            refine g_callV_rd (As := [.int (nI b9), .int 7]) (ci := 4) (v := some (.int ((mChg (hsc u 0 0)).2.1 1 (53 + 16 * b9 + 7)))) X dX4_decide_156 (c_X4_of κ.l hl κ.Γ M13 a (mChg (hsc u 0 0)) hR13 b9 7 (by omega) (by omega)) k1263 k1265 kp25 k5 k1266 rfl (MRep.obj hR13) ⟨rfl, by decide, by decide, (show (parseMethodDescriptor yX4_of.desc).map (fun d => d.parameters.length) = some 2 by decide +kernel)⟩ rfl (Nat.le_of_ble_eq_true rfl) (by rw [hRm]; decide) (by rw [hRm]; exact ⟨Nat.le_of_ble_eq_true rfl, Nat.le_of_ble_eq_true rfl⟩) ?_
            refine g_iconst (v := 1) X dX4_decide_159 (by decide) ?_
            refine g_isub X dX4_decide_160 ?_
            refine g_callV (As := [.int (nI b9), .int 7, .int (((mChg (hsc u 0 0)).2.1 1 (53 + 16 * b9 + 7)) - 1)]) (ci := 4) X dX4_decide_161 (c_X4_put κ.l hl κ.Γ M13 a (mChg (hsc u 0 0)) hR13 b9 7 (((mChg (hsc u 0 0)).2.1 1 (53 + 16 * b9 + 7)) - 1) (by omega) (by omega)) k1255 k1257 kp23 k5 k1258 rfl (MRep.obj hR13) ⟨rfl, by decide, by decide, (show (parseMethodDescriptor yX4_put.desc).map (fun d => d.parameters.length) = some 3 by decide +kernel)⟩ rfl (Nat.le_of_ble_eq_true rfl) (by rw [hRm]; decide) (by rw [hRm]; exact ⟨Nat.le_of_ble_eq_true rfl, Nat.le_of_ble_eq_true rfl⟩) (fun v16 M16 h16 => ?_) (fun _ _ h9 => by cases h9.1)
            obtain ⟨e16, hR16, hF16⟩ := h16
            have e16 : (Sum.inl v16 : Res) = .inl none := e16
            cases e16
            have hR16 : MRep κ.Γ a (rPut (mChg (hsc u 0 0)) b9 7 (((mChg (hsc u 0 0)).2.1 1 (53 + 16 * b9 + 7)) - 1)) M16 := hR16
            have hF16 := Fr.tr hF13 hF16
            have hR17 : MRep κ.Γ a (sShf (sDec1 (uC u) b9) b9 0) M16 := hR16
            have eQ : rB (sDec1 (uC u) b9) b9 7 = nI Q := by (show (hset _ 1 _ _).2.1 1 _ = _); rw [hset_s, upd_s]; exact eP
            refine g_bipush (v := 8) X dX4_decide_164 (by decide) ?_
            refine g_istore_n (L' := [(3, .int 8), (2, .int 0), (0, .ref (a 0)), (1, .int (nI b9))]) X dX4_decide_166 rfl (by rw [hnL]; decide) rfl ?_
            have lp : ∀ (q n : Nat) (M9 : Hp), 2 * Q - n < q → n ≤ 2 * Q → MRep κ.Γ a (sShf (sDec1 (uC u) b9) b9 n) M9 → Fr a 15 M M9 → G κ M9 0 0 [(3, .int (nI (8 + n))), (2, .int 0), (1, .int (nI b9)), (0, .ref (a 0))] 167 [] := by
              intro q
              induction q with
              | zero => intro n _ h1; exact absurd h1 (Nat.not_lt_zero _)
              | succ q ih =>
                intro n M9 hn1 hn2 hR9 hF9
                refine g_iload_n X dX4_decide_167 rfl 0 rfl ?_
                refine g_bipush (v := 8) X dX4_decide_168 (by decide) ?_
                refine g_iconst (v := 2) X dX4_decide_170 (by decide) ?_
                refine g_aload_n X dX4_decide_171 rfl 3 rfl ?_
                refine g_iload_n X dX4_decide_172 rfl 2 rfl ?_
                refine g_bipush (v := 7) X dX4_decide_173 (by decide) ?_
                refine g_callV_rd (As := [.int (nI b9), .int 7]) (ci := 4) (v := some (.int ((sShf (sDec1 (uC u) b9) b9 n).2.1 1 (53 + 16 * b9 + 7)))) X dX4_decide_175 (c_X4_of κ.l hl κ.Γ M9 a (sShf (sDec1 (uC u) b9) b9 n) hR9 b9 7 (by omega) (by omega)) k1263 k1265 kp25 k5 k1266 rfl (MRep.obj hR9) ⟨rfl, by decide, by decide, (show (parseMethodDescriptor yX4_of.desc).map (fun d => d.parameters.length) = some 2 by decide +kernel)⟩ rfl (Nat.le_of_ble_eq_true rfl) (by rw [hRm]; decide) (by rw [hRm]; exact ⟨Nat.le_of_ble_eq_true rfl, Nat.le_of_ble_eq_true rfl⟩) ?_
                refine g_lit (nI Q) (by (show rB (sShf (sDec1 (uC u) b9) b9 n) b9 7 = _); rw [sShf_7]; exact eQ) ?_
                refine g_imul X dX4_decide_178 ?_
                refine g_lit (nI (2 * Q)) (nI_mulJ 2 Q) ?_
                refine g_iadd X dX4_decide_179 ?_
                refine g_lit (nI (8 + (2 * Q))) (nI_addJ 8 (2 * Q)) ?_
                refine g_icmp_ge (tgt := 203) X dX4_decide_180 (by decide) (fun c18 => ?_) (fun c18 => ?_)
                · have heq9 : n = 2 * Q := by have h9 := nI_leS (by omega) (by omega) c18; omega
                  subst heq9
                  refine g_iload_n X dX4_decide_203 rfl 1 rfl ?_
                  exact g_zret X F dX4_decide_204 (by omega) (by omega) rfl (by unfold mDecide; (try rw [hcb9]); exact (MMu.n (by first | exact c1 | exact fun q => q c1 | exact fun q => c1 q | exact Classical.not_not.mp c1) (MMu.n (by first | exact c4 | exact fun q => q c4 | exact fun q => c4 q | exact Classical.not_not.mp c4) (MMu.n (by first | exact c7 | exact fun q => q c7 | exact fun q => c7 q | exact Classical.not_not.mp c7) (MMu.n (by first | exact c10 | exact fun q => q c10 | exact fun q => c10 q | exact Classical.not_not.mp c10) ⟨by rw [bI_f (fun q => q c14)], by (unfold sDec; rw [if_pos c14, eP, hcQ]); exact hR9, hF9⟩)))))
                · have hlt9 : n < 2 * Q := by have h9 := nI_ltS (by omega) (by omega) c18; omega
                  refine g_aload_n X dX4_decide_183 rfl 3 rfl ?_
                  refine g_iload_n X dX4_decide_184 rfl 2 rfl ?_
                  refine g_iload_n X dX4_decide_185 rfl 0 rfl ?_
                  refine g_aload_n X dX4_decide_186 rfl 3 rfl ?_
                  refine g_iload_n X dX4_decide_187 rfl 2 rfl ?_
                  refine g_iload_n X dX4_decide_188 rfl 0 rfl ?_
                  refine g_iconst (v := 2) X dX4_decide_189 (by decide) ?_
                  refine g_iadd X dX4_decide_190 ?_
                  refine g_lit (nI ((8 + n) + 2)) (nI_addJ (8 + n) 2) ?_
                  refine g_callV_rd (As := [.int (nI b9), .int (nI ((8 + n) + 2))]) (ci := 4) (v := some (.int ((sShf (sDec1 (uC u) b9) b9 n).2.1 1 (53 + 16 * b9 + ((8 + n) + 2))))) X dX4_decide_191 (c_X4_of κ.l hl κ.Γ M9 a (sShf (sDec1 (uC u) b9) b9 n) hR9 b9 ((8 + n) + 2) (by omega) (by omega)) k1263 k1265 kp25 k5 k1266 rfl (MRep.obj hR9) ⟨rfl, by decide, by decide, (show (parseMethodDescriptor yX4_of.desc).map (fun d => d.parameters.length) = some 2 by decide +kernel)⟩ rfl (Nat.le_of_ble_eq_true rfl) (by rw [hRm]; decide) (by rw [hRm]; exact ⟨Nat.le_of_ble_eq_true rfl, Nat.le_of_ble_eq_true rfl⟩) ?_
                  refine g_callV (As := [.int (nI b9), .int (nI (8 + n)), .int ((sShf (sDec1 (uC u) b9) b9 n).2.1 1 (53 + 16 * b9 + ((8 + n) + 2)))]) (ci := 4) X dX4_decide_194 (c_X4_put κ.l hl κ.Γ M9 a (sShf (sDec1 (uC u) b9) b9 n) hR9 b9 (8 + n) ((sShf (sDec1 (uC u) b9) b9 n).2.1 1 (53 + 16 * b9 + ((8 + n) + 2))) (by omega) (by omega)) k1255 k1257 kp23 k5 k1258 rfl (MRep.obj hR9) ⟨rfl, by decide, by decide, (show (parseMethodDescriptor yX4_put.desc).map (fun d => d.parameters.length) = some 3 by decide +kernel)⟩ rfl (Nat.le_of_ble_eq_true rfl) (by rw [hRm]; decide) (by rw [hRm]; exact ⟨Nat.le_of_ble_eq_true rfl, Nat.le_of_ble_eq_true rfl⟩) (fun v19 M19 h19 => ?_) (fun _ _ h9 => by cases h9.1)
                  obtain ⟨e19, hR19, hF19⟩ := h19
                  have e19 : (Sum.inl v19 : Res) = .inl none := e19
                  cases e19
                  have hR19 : MRep κ.Γ a (rPut (sShf (sDec1 (uC u) b9) b9 n) b9 (8 + n) ((sShf (sDec1 (uC u) b9) b9 n).2.1 1 (53 + 16 * b9 + ((8 + n) + 2)))) M19 := hR19
                  have hF19 := Fr.tr hF9 hF19
                  refine g_iinc (k := 0) (v := (nI ((8 + n) + 1))) (L' := [(3, .int (nI ((8 + n) + 1))), (2, .int 0), (1, .int (nI b9)), (0, .ref (a 0))]) X dX4_decide_197 rfl (nI_1 _) (by rw [hnL]; decide) rfl ?_
                  refine g_goto (tgt := 167) X dX4_decide_200 (by decide) ?_
                  refine g_locs [0, 1, 2, 3] (L' := [(3, .int (nI (8 + (n + 1)))), (2, .int 0), (1, .int (nI b9)), (0, .ref (a 0))]) rfl ?_
                  exact ih (n + 1) M19 (by omega) (by omega) hR19 hF19
            refine g_locs [0, 1, 3, 2] (L' := [(3, .int (nI (8 + 0))), (2, .int 0), (1, .int (nI b9)), (0, .ref (a 0))]) rfl ?_
            exact lp (2 * Q + 1) 0 M16 (by omega) (by omega) hR17 hF16
          · refine g_iconst (v := 1) X dX4_decide_117 (by decide) ?_
            refine g_goto (tgt := 122) X dX4_decide_118 (by decide) ?_
            refine g_istore_n (L' := [(2, .int 1), (0, .ref (a 0)), (1, .int (nI b9))]) X dX4_decide_122 rfl (by rw [hnL]; decide) rfl ?_
            refine g_iload_n X dX4_decide_123 rfl 0 rfl ?_
            refine g_if_eq (tgt := 148) X dX4_decide_124 (by decide) (fun c20 => absurd c20 (by decide)) (fun c20 => ?_)
            refine g_aload_n X dX4_decide_127 rfl 1 rfl ?_
            refine g_iload_n X dX4_decide_128 rfl 2 rfl ?_
            refine g_aload_n X dX4_decide_129 rfl 1 rfl ?_
            refine g_iload_n X dX4_decide_130 rfl 2 rfl ?_
            refine g_iconst (v := 0) X dX4_decide_131 (by decide) ?_
            refine g_callV_rd (As := [.int (nI b9), .int 0]) (ci := 4) (v := some (.int ((mChg (hsc u 0 0)).2.1 1 (53 + 16 * b9 + (8 + 2 * 0))))) X dX4_decide_132 (c_X4_clauseOf κ.l hl κ.Γ M13 a (mChg (hsc u 0 0)) hR13 b9 0 (by omega) (by omega)) k1400 k1402 kp36 k5 k1403 rfl (MRep.obj hR13) ⟨rfl, by decide, by decide, (show (parseMethodDescriptor yX4_clauseOf.desc).map (fun d => d.parameters.length) = some 2 by decide +kernel)⟩ rfl (Nat.le_of_ble_eq_true rfl) (by rw [hRm]; decide) (by rw [hRm]; exact ⟨Nat.le_of_ble_eq_true rfl, Nat.le_of_ble_eq_true rfl⟩) ?_
            refine g_callV (As := [.int (nI b9), .int ((mChg (hsc u 0 0)).2.1 1 (53 + 16 * b9 + (8 + 2 * 0)))]) (ci := 4) X dX4_decide_135 (c_X4_toggleClause κ.l hl κ.Γ M13 a (mChg (hsc u 0 0)) hR13 b9 ((mChg (hsc u 0 0)).2.1 1 (53 + 16 * b9 + (8 + 2 * 0))) (by omega)) k1259 k1261 kp24 k5 k1262 rfl (MRep.obj hR13) ⟨rfl, by decide, by decide, (show (parseMethodDescriptor yX4_toggleClause.desc).map (fun d => d.parameters.length) = some 2 by decide +kernel)⟩ rfl (Nat.le_of_ble_eq_true rfl) (by rw [hRm]; decide) (by rw [hRm]; exact ⟨Nat.le_of_ble_eq_true rfl, Nat.le_of_ble_eq_true rfl⟩) (fun v21 M21 h21 => ?_) (fun _ _ h9 => by cases h9.1)
            obtain ⟨e21, hR21, hF21⟩ := h21
            have e21 : (Sum.inl v21 : Res) = .inl none := e21
            cases e21
            have hR21 : MRep κ.Γ a (mTog (mChg (hsc u 0 0)) b9 ((mChg (hsc u 0 0)).2.1 1 (53 + 16 * b9 + (8 + 2 * 0)))) M21 := hR21
            have hF21 := Fr.tr hF13 hF21
            refine g_aload_n X dX4_decide_138 rfl 1 rfl ?_
            refine g_get X dX4_decide_139 (ci := 4) (k := 1) (v := .ref (a 1)) rfl k1090 (by decide) rfl (MRep.obj hR21) rfl ?_
            refine g_iconst (v := 4) X dX4_decide_142 (by decide) ?_
            refine g_dup2 X dX4_decide_143 rfl rfl ?_
            refine g_iald (b := 4) X dX4_decide_144 (MRep.row hR21 1 (by decide) (by decide)) (by omega) (by decide) ?_
            refine g_iconst (v := 1) X dX4_decide_145 (by decide) ?_
            refine g_iadd X dX4_decide_146 ?_
            refine g_iast (b := 4) X dX4_decide_147 (MRep.row hR21 1 (by decide) (by decide)) (by omega) (by decide) ?_
            refine g_gen (P := fun M9 => MRep κ.Γ a (hset (mTog (mChg (hsc u 0 0)) b9 ((mChg (hsc u 0 0)).2.1 1 (53 + 16 * b9 + (8 + 2 * 0)))) 1 4 (((mTog (mChg (hsc u 0 0)) b9 ((mChg (hsc u 0 0)).2.1 1 (53 + 16 * b9 + (8 + 2 * 0)))).2.1 1 4) + 1)) M9 ∧ Fr a 15 M M9) ⟨MRep.ar hR21 1 (by decide) (by decide) _ rfl rfl, Fr.tr hF21 (Fr.up (by decide))⟩ (fun M22 ⟨hR23, hF24⟩ => ?_)
            refine g_aload_n X dX4_decide_148 rfl 1 rfl ?_
            refine g_iload_n X dX4_decide_149 rfl 2 rfl ?_
            refine g_bipush (v := 7) X dX4_decide_150 (by decide) ?_
            refine g_aload_n X dX4_decide_152 rfl 1 rfl ?_
            refine g_iload_n X dX4_decide_153 rfl 2 rfl ?_
            refine g_bipush (v := 7) X dX4_decide_154 (by decide) ?_
            refine g_callV_rd (As := [.int (nI b9), .int 7]) (ci := 4) (v := some (.int ((hset (mTog (mChg (hsc u 0 0)) b9 ((mChg (hsc u 0 0)).2.1 1 (53 + 16 * b9 + (8 + 2 * 0)))) 1 4 (((mTog (mChg (hsc u 0 0)) b9 ((mChg (hsc u 0 0)).2.1 1 (53 + 16 * b9 + (8 + 2 * 0)))).2.1 1 4) + 1)).2.1 1 (53 + 16 * b9 + 7)))) X dX4_decide_156 (c_X4_of κ.l hl κ.Γ M22 a (hset (mTog (mChg (hsc u 0 0)) b9 ((mChg (hsc u 0 0)).2.1 1 (53 + 16 * b9 + (8 + 2 * 0)))) 1 4 (((mTog (mChg (hsc u 0 0)) b9 ((mChg (hsc u 0 0)).2.1 1 (53 + 16 * b9 + (8 + 2 * 0)))).2.1 1 4) + 1)) hR23 b9 7 (by omega) (by omega)) k1263 k1265 kp25 k5 k1266 rfl (MRep.obj hR23) ⟨rfl, by decide, by decide, (show (parseMethodDescriptor yX4_of.desc).map (fun d => d.parameters.length) = some 2 by decide +kernel)⟩ rfl (Nat.le_of_ble_eq_true rfl) (by rw [hRm]; decide) (by rw [hRm]; exact ⟨Nat.le_of_ble_eq_true rfl, Nat.le_of_ble_eq_true rfl⟩) ?_
            refine g_iconst (v := 1) X dX4_decide_159 (by decide) ?_
            refine g_isub X dX4_decide_160 ?_
            refine g_callV (As := [.int (nI b9), .int 7, .int (((hset (mTog (mChg (hsc u 0 0)) b9 ((mChg (hsc u 0 0)).2.1 1 (53 + 16 * b9 + (8 + 2 * 0)))) 1 4 (((mTog (mChg (hsc u 0 0)) b9 ((mChg (hsc u 0 0)).2.1 1 (53 + 16 * b9 + (8 + 2 * 0)))).2.1 1 4) + 1)).2.1 1 (53 + 16 * b9 + 7)) - 1)]) (ci := 4) X dX4_decide_161 (c_X4_put κ.l hl κ.Γ M22 a (hset (mTog (mChg (hsc u 0 0)) b9 ((mChg (hsc u 0 0)).2.1 1 (53 + 16 * b9 + (8 + 2 * 0)))) 1 4 (((mTog (mChg (hsc u 0 0)) b9 ((mChg (hsc u 0 0)).2.1 1 (53 + 16 * b9 + (8 + 2 * 0)))).2.1 1 4) + 1)) hR23 b9 7 (((hset (mTog (mChg (hsc u 0 0)) b9 ((mChg (hsc u 0 0)).2.1 1 (53 + 16 * b9 + (8 + 2 * 0)))) 1 4 (((mTog (mChg (hsc u 0 0)) b9 ((mChg (hsc u 0 0)).2.1 1 (53 + 16 * b9 + (8 + 2 * 0)))).2.1 1 4) + 1)).2.1 1 (53 + 16 * b9 + 7)) - 1) (by omega) (by omega)) k1255 k1257 kp23 k5 k1258 rfl (MRep.obj hR23) ⟨rfl, by decide, by decide, (show (parseMethodDescriptor yX4_put.desc).map (fun d => d.parameters.length) = some 3 by decide +kernel)⟩ rfl (Nat.le_of_ble_eq_true rfl) (by rw [hRm]; decide) (by rw [hRm]; exact ⟨Nat.le_of_ble_eq_true rfl, Nat.le_of_ble_eq_true rfl⟩) (fun v25 M25 h25 => ?_) (fun _ _ h9 => by cases h9.1)
            obtain ⟨e25, hR25, hF25⟩ := h25
            have e25 : (Sum.inl v25 : Res) = .inl none := e25
            cases e25
            have hR25 : MRep κ.Γ a (rPut (hset (mTog (mChg (hsc u 0 0)) b9 ((mChg (hsc u 0 0)).2.1 1 (53 + 16 * b9 + (8 + 2 * 0)))) 1 4 (((mTog (mChg (hsc u 0 0)) b9 ((mChg (hsc u 0 0)).2.1 1 (53 + 16 * b9 + (8 + 2 * 0)))).2.1 1 4) + 1)) b9 7 (((hset (mTog (mChg (hsc u 0 0)) b9 ((mChg (hsc u 0 0)).2.1 1 (53 + 16 * b9 + (8 + 2 * 0)))) 1 4 (((mTog (mChg (hsc u 0 0)) b9 ((mChg (hsc u 0 0)).2.1 1 (53 + 16 * b9 + (8 + 2 * 0)))).2.1 1 4) + 1)).2.1 1 (53 + 16 * b9 + 7)) - 1)) M25 := hR25
            have hF25 := Fr.tr hF24 hF25
            have hR26 : MRep κ.Γ a (sShf (sDec1 (sDec0 (uC u) b9) b9) b9 0) M25 := hR25
            have eQ : rB (sDec1 (sDec0 (uC u) b9) b9) b9 7 = nI Q := by (show (hset _ 1 _ _).2.1 1 _ = _); rw [hset_s, upd_s, sDec0_7 hb9]; exact eP
            refine g_bipush (v := 8) X dX4_decide_164 (by decide) ?_
            refine g_istore_n (L' := [(3, .int 8), (2, .int 1), (0, .ref (a 0)), (1, .int (nI b9))]) X dX4_decide_166 rfl (by rw [hnL]; decide) rfl ?_
            have lp : ∀ (q n : Nat) (M9 : Hp), 2 * Q - n < q → n ≤ 2 * Q → MRep κ.Γ a (sShf (sDec1 (sDec0 (uC u) b9) b9) b9 n) M9 → Fr a 15 M M9 → G κ M9 0 0 [(3, .int (nI (8 + n))), (2, .int 1), (1, .int (nI b9)), (0, .ref (a 0))] 167 [] := by
              intro q
              induction q with
              | zero => intro n _ h1; exact absurd h1 (Nat.not_lt_zero _)
              | succ q ih =>
                intro n M9 hn1 hn2 hR9 hF9
                refine g_iload_n X dX4_decide_167 rfl 0 rfl ?_
                refine g_bipush (v := 8) X dX4_decide_168 (by decide) ?_
                refine g_iconst (v := 2) X dX4_decide_170 (by decide) ?_
                refine g_aload_n X dX4_decide_171 rfl 3 rfl ?_
                refine g_iload_n X dX4_decide_172 rfl 2 rfl ?_
                refine g_bipush (v := 7) X dX4_decide_173 (by decide) ?_
                refine g_callV_rd (As := [.int (nI b9), .int 7]) (ci := 4) (v := some (.int ((sShf (sDec1 (sDec0 (uC u) b9) b9) b9 n).2.1 1 (53 + 16 * b9 + 7)))) X dX4_decide_175 (c_X4_of κ.l hl κ.Γ M9 a (sShf (sDec1 (sDec0 (uC u) b9) b9) b9 n) hR9 b9 7 (by omega) (by omega)) k1263 k1265 kp25 k5 k1266 rfl (MRep.obj hR9) ⟨rfl, by decide, by decide, (show (parseMethodDescriptor yX4_of.desc).map (fun d => d.parameters.length) = some 2 by decide +kernel)⟩ rfl (Nat.le_of_ble_eq_true rfl) (by rw [hRm]; decide) (by rw [hRm]; exact ⟨Nat.le_of_ble_eq_true rfl, Nat.le_of_ble_eq_true rfl⟩) ?_
                refine g_lit (nI Q) (by (show rB (sShf (sDec1 (sDec0 (uC u) b9) b9) b9 n) b9 7 = _); rw [sShf_7]; exact eQ) ?_
                refine g_imul X dX4_decide_178 ?_
                refine g_lit (nI (2 * Q)) (nI_mulJ 2 Q) ?_
                refine g_iadd X dX4_decide_179 ?_
                refine g_lit (nI (8 + (2 * Q))) (nI_addJ 8 (2 * Q)) ?_
                refine g_icmp_ge (tgt := 203) X dX4_decide_180 (by decide) (fun c27 => ?_) (fun c27 => ?_)
                · have heq9 : n = 2 * Q := by have h9 := nI_leS (by omega) (by omega) c27; omega
                  subst heq9
                  refine g_iload_n X dX4_decide_203 rfl 1 rfl ?_
                  exact g_zret X F dX4_decide_204 (by omega) (by omega) rfl (by unfold mDecide; (try rw [hcb9]); exact (MMu.n (by first | exact c1 | exact fun q => q c1 | exact fun q => c1 q | exact Classical.not_not.mp c1) (MMu.n (by first | exact c4 | exact fun q => q c4 | exact fun q => c4 q | exact Classical.not_not.mp c4) (MMu.n (by first | exact c7 | exact fun q => q c7 | exact fun q => c7 q | exact Classical.not_not.mp c7) (MMu.n (by first | exact c10 | exact fun q => q c10 | exact fun q => c10 q | exact Classical.not_not.mp c10) ⟨by rw [bI_t c14], by (unfold sDec; rw [if_neg c14, eP, hcQ]); exact hR9, hF9⟩)))))
                · have hlt9 : n < 2 * Q := by have h9 := nI_ltS (by omega) (by omega) c27; omega
                  refine g_aload_n X dX4_decide_183 rfl 3 rfl ?_
                  refine g_iload_n X dX4_decide_184 rfl 2 rfl ?_
                  refine g_iload_n X dX4_decide_185 rfl 0 rfl ?_
                  refine g_aload_n X dX4_decide_186 rfl 3 rfl ?_
                  refine g_iload_n X dX4_decide_187 rfl 2 rfl ?_
                  refine g_iload_n X dX4_decide_188 rfl 0 rfl ?_
                  refine g_iconst (v := 2) X dX4_decide_189 (by decide) ?_
                  refine g_iadd X dX4_decide_190 ?_
                  refine g_lit (nI ((8 + n) + 2)) (nI_addJ (8 + n) 2) ?_
                  refine g_callV_rd (As := [.int (nI b9), .int (nI ((8 + n) + 2))]) (ci := 4) (v := some (.int ((sShf (sDec1 (sDec0 (uC u) b9) b9) b9 n).2.1 1 (53 + 16 * b9 + ((8 + n) + 2))))) X dX4_decide_191 (c_X4_of κ.l hl κ.Γ M9 a (sShf (sDec1 (sDec0 (uC u) b9) b9) b9 n) hR9 b9 ((8 + n) + 2) (by omega) (by omega)) k1263 k1265 kp25 k5 k1266 rfl (MRep.obj hR9) ⟨rfl, by decide, by decide, (show (parseMethodDescriptor yX4_of.desc).map (fun d => d.parameters.length) = some 2 by decide +kernel)⟩ rfl (Nat.le_of_ble_eq_true rfl) (by rw [hRm]; decide) (by rw [hRm]; exact ⟨Nat.le_of_ble_eq_true rfl, Nat.le_of_ble_eq_true rfl⟩) ?_
                  refine g_callV (As := [.int (nI b9), .int (nI (8 + n)), .int ((sShf (sDec1 (sDec0 (uC u) b9) b9) b9 n).2.1 1 (53 + 16 * b9 + ((8 + n) + 2)))]) (ci := 4) X dX4_decide_194 (c_X4_put κ.l hl κ.Γ M9 a (sShf (sDec1 (sDec0 (uC u) b9) b9) b9 n) hR9 b9 (8 + n) ((sShf (sDec1 (sDec0 (uC u) b9) b9) b9 n).2.1 1 (53 + 16 * b9 + ((8 + n) + 2))) (by omega) (by omega)) k1255 k1257 kp23 k5 k1258 rfl (MRep.obj hR9) ⟨rfl, by decide, by decide, (show (parseMethodDescriptor yX4_put.desc).map (fun d => d.parameters.length) = some 3 by decide +kernel)⟩ rfl (Nat.le_of_ble_eq_true rfl) (by rw [hRm]; decide) (by rw [hRm]; exact ⟨Nat.le_of_ble_eq_true rfl, Nat.le_of_ble_eq_true rfl⟩) (fun v28 M28 h28 => ?_) (fun _ _ h9 => by cases h9.1)
                  obtain ⟨e28, hR28, hF28⟩ := h28
                  have e28 : (Sum.inl v28 : Res) = .inl none := e28
                  cases e28
                  have hR28 : MRep κ.Γ a (rPut (sShf (sDec1 (sDec0 (uC u) b9) b9) b9 n) b9 (8 + n) ((sShf (sDec1 (sDec0 (uC u) b9) b9) b9 n).2.1 1 (53 + 16 * b9 + ((8 + n) + 2)))) M28 := hR28
                  have hF28 := Fr.tr hF9 hF28
                  refine g_iinc (k := 0) (v := (nI ((8 + n) + 1))) (L' := [(3, .int (nI ((8 + n) + 1))), (2, .int 1), (1, .int (nI b9)), (0, .ref (a 0))]) X dX4_decide_197 rfl (nI_1 _) (by rw [hnL]; decide) rfl ?_
                  refine g_goto (tgt := 167) X dX4_decide_200 (by decide) ?_
                  refine g_locs [0, 1, 2, 3] (L' := [(3, .int (nI (8 + (n + 1)))), (2, .int 1), (1, .int (nI b9)), (0, .ref (a 0))]) rfl ?_
                  exact ih (n + 1) M28 (by omega) (by omega) hR28 hF28
            refine g_locs [0, 1, 3, 2] (L' := [(3, .int (nI (8 + 0))), (2, .int 1), (1, .int (nI b9)), (0, .ref (a 0))]) rfl ?_
            exact lp (2 * Q + 1) 0 M25 (by omega) (by omega) hR26 hF25
        · refine g_iconst (v := 1) X dX4_decide_75 (by decide) ?_
          refine g_goto (tgt := 80) X dX4_decide_76 (by decide) ?_
          refine g_callV (As := [.int 4, .int 1]) (ci := 4) X dX4_decide_80 (c_X4_fails1 κ.l hl κ.Γ M8 a (hsc u 0 0) hR8 4) k1164 k1166 kp15 k5 k1167 rfl (MRep.obj hR8) ⟨rfl, by decide, by decide, (show (parseMethodDescriptor yX4_fails.desc).map (fun d => d.parameters.length) = some 2 by decide +kernel)⟩ rfl (Nat.le_of_ble_eq_true rfl) (by rw [hRm]; decide) (by rw [hRm]; exact ⟨Nat.le_of_ble_eq_true rfl, Nat.le_of_ble_eq_true rfl⟩) (fun v29 M29 h29 => ?_) (fun _ _ h9 => by cases h9.1)
          obtain ⟨e29, hR29, hF29⟩ := h29
          have e29 : (Sum.inl v29 : Res) = rI 1 := e29
          cases e29
          have hR29 : MRep κ.Γ a (hsc u 0 4) M29 := by rw [← hsc_hsc (x := 0)]; exact hR29
          have hF29 := Fr.tr hF8 hF29
          refine g_if_eq (tgt := 88) X dX4_decide_83 (by decide) (fun c30 => absurd c30 (by decide)) (fun c30 => ?_)
          refine g_iconst (v := 0) X dX4_decide_86 (by decide) ?_
          exact g_zret X F dX4_decide_87 (by omega) (by omega) rfl (by unfold mDecide; (try rw [hcb9]); exact (MMu.n (by first | exact c1 | exact fun q => q c1 | exact fun q => c1 q | exact Classical.not_not.mp c1) (MMu.n (by first | exact c4 | exact fun q => q c4 | exact fun q => c4 q | exact Classical.not_not.mp c4) (MMu.n (by first | exact c7 | exact fun q => q c7 | exact fun q => c7 q | exact Classical.not_not.mp c7) (MMu.y (by first | exact c10 | exact fun q => q c10 | exact fun q => c10 q | exact Classical.not_not.mp c10) ⟨rfl, hR29, hF29⟩)))))
      · refine g_iconst (v := 1) X dX4_decide_55 (by decide) ?_
        refine g_goto (tgt := 60) X dX4_decide_56 (by decide) ?_
        refine g_callV (As := [.int 3, .int 1]) (ci := 4) X dX4_decide_60 (c_X4_fails1 κ.l hl κ.Γ M5 a (hsc u 0 0) hR5 3) k1164 k1166 kp15 k5 k1167 rfl (MRep.obj hR5) ⟨rfl, by decide, by decide, (show (parseMethodDescriptor yX4_fails.desc).map (fun d => d.parameters.length) = some 2 by decide +kernel)⟩ rfl (Nat.le_of_ble_eq_true rfl) (by rw [hRm]; decide) (by rw [hRm]; exact ⟨Nat.le_of_ble_eq_true rfl, Nat.le_of_ble_eq_true rfl⟩) (fun v31 M31 h31 => ?_) (fun _ _ h9 => by cases h9.1)
        obtain ⟨e31, hR31, hF31⟩ := h31
        have e31 : (Sum.inl v31 : Res) = rI 1 := e31
        cases e31
        have hR31 : MRep κ.Γ a (hsc u 0 3) M31 := by rw [← hsc_hsc (x := 0)]; exact hR31
        have hF31 := Fr.tr hF5 hF31
        refine g_if_ne (tgt := 86) X dX4_decide_63 (by decide) (fun c32 => ?_) (fun c32 => absurd c32 (by decide))
        refine g_iconst (v := 0) X dX4_decide_86 (by decide) ?_
        exact g_zret X F dX4_decide_87 (by omega) (by omega) rfl (by unfold mDecide; (try rw [hcb9]); exact (MMu.n (by first | exact c1 | exact fun q => q c1 | exact fun q => c1 q | exact Classical.not_not.mp c1) (MMu.n (by first | exact c4 | exact fun q => q c4 | exact fun q => c4 q | exact Classical.not_not.mp c4) (MMu.y (by first | exact c7 | exact fun q => q c7 | exact fun q => c7 q | exact Classical.not_not.mp c7) ⟨rfl, hR31, hF31⟩))))
    · refine g_iconst (v := 1) X dX4_decide_32 (by decide) ?_
      refine g_goto (tgt := 37) X dX4_decide_33 (by decide) ?_
      refine g_callV (As := [.int 2, .int 1]) (ci := 4) X dX4_decide_37 (c_X4_fails1 κ.l hl κ.Γ M2 a (hsc u 0 0) hR2 2) k1164 k1166 kp15 k5 k1167 rfl (MRep.obj hR2) ⟨rfl, by decide, by decide, (show (parseMethodDescriptor yX4_fails.desc).map (fun d => d.parameters.length) = some 2 by decide +kernel)⟩ rfl (Nat.le_of_ble_eq_true rfl) (by rw [hRm]; decide) (by rw [hRm]; exact ⟨Nat.le_of_ble_eq_true rfl, Nat.le_of_ble_eq_true rfl⟩) (fun v33 M33 h33 => ?_) (fun _ _ h9 => by cases h9.1)
      obtain ⟨e33, hR33, hF33⟩ := h33
      have e33 : (Sum.inl v33 : Res) = rI 1 := e33
      cases e33
      have hR33 : MRep κ.Γ a (hsc u 0 2) M33 := by rw [← hsc_hsc (x := 0)]; exact hR33
      have hF33 := Fr.tr hF2 hF33
      refine g_if_ne (tgt := 86) X dX4_decide_40 (by decide) (fun c34 => ?_) (fun c34 => absurd c34 (by decide))
      refine g_iconst (v := 0) X dX4_decide_86 (by decide) ?_
      exact g_zret X F dX4_decide_87 (by omega) (by omega) rfl (by unfold mDecide; (try rw [hcb9]); exact (MMu.n (by first | exact c1 | exact fun q => q c1 | exact fun q => c1 q | exact Classical.not_not.mp c1) (MMu.y (by first | exact c4 | exact fun q => q c4 | exact fun q => c4 q | exact Classical.not_not.mp c4) ⟨rfl, hR33, hF33⟩)))
  · refine g_iconst (v := 1) X dX4_decide_10 (by decide) ?_
    refine g_goto (tgt := 15) X dX4_decide_11 (by decide) ?_
    refine g_callV (As := [.int 1, .int 1]) (ci := 4) X dX4_decide_15 (c_X4_fails1 κ.l hl κ.Γ M a u hR 1) k1164 k1166 kp15 k5 k1167 rfl (MRep.obj hR) ⟨rfl, by decide, by decide, (show (parseMethodDescriptor yX4_fails.desc).map (fun d => d.parameters.length) = some 2 by decide +kernel)⟩ rfl (Nat.le_of_ble_eq_true rfl) (by rw [hRm]; decide) (by rw [hRm]; exact ⟨Nat.le_of_ble_eq_true rfl, Nat.le_of_ble_eq_true rfl⟩) (fun v35 M35 h35 => ?_) (fun _ _ h9 => by cases h9.1)
    obtain ⟨e35, hR35, hF35⟩ := h35
    have e35 : (Sum.inl v35 : Res) = rI 1 := e35
    cases e35
    refine g_if_ne (tgt := 86) X dX4_decide_18 (by decide) (fun c36 => ?_) (fun c36 => absurd c36 (by decide))
    refine g_iconst (v := 0) X dX4_decide_86 (by decide) ?_
    exact g_zret X F dX4_decide_87 (by omega) (by omega) rfl (by unfold mDecide; exact (MMu.y (by first | exact c1 | exact fun q => q c1 | exact fun q => c1 q | exact Classical.not_not.mp c1) ⟨rfl, hR35, hF35⟩))
noncomputable def mRide (u : HV) (x : Int32) (b : Int32) (n : Int32) : Res × HV := mG (¬ isBl u b ∨ ¬ isM u x) 1 zI u (mG (¬ btw n 1 30) 2 zI u (mG (¬ rB u (cN b) 0 = 0) 3 zI u (mG (¬ prs u x) 4 zI u ((rI (rB (sHol (uC u) (cN b) n) (cN b) 4 / 60), sHol (uC u) (cN b) n)))))
set_option maxRecDepth 100000 in
set_option maxHeartbeats 4000000 in
theorem c_X4_ride (l : Launch) (hl : l.stackTraces = false) (Γ : Gm) (M : Hp) (a : Nat → Nat) (u : HV) (hR : MRep Γ a u M) (x : Int32) (b : Int32) (n : Int32) (hi : RInv (u.2.1 1)) (hk : KInv u) : Ct l Γ yX4_ride cX4_ride 4 (some .int) 3 0 0 [.ref (a 0), .int x, .int b, .int n] M (MMu Γ a (mRide u x b n) M) := by
  refine Ct.of hl (by decide) (Nat.le_of_ble_eq_true rfl) rfl ?_
  intro κ e1 e2 hnL hRm X F hlt
  subst e1 e2
  refine g_aload_n X dX4_ride_0 rfl 0 rfl ?_
  refine g_iconst (v := 1) X dX4_ride_1 (by decide) ?_
  refine g_aload_n X dX4_ride_2 rfl 0 rfl ?_
  refine g_iload_n X dX4_ride_3 rfl 2 rfl ?_
  refine g_callV_rd (As := [.int b]) (ci := 4) (v := some (.int (bI (btw b 0 (u.2.1 1 1 - 1))))) X dX4_ride_4 (c_X4_isBill κ.l hl κ.Γ M a u hR b) k1275 k1277 kp26 k5 k1278 rfl (MRep.obj hR) ⟨rfl, by decide, by decide, (show (parseMethodDescriptor yX4_isBill.desc).map (fun d => d.parameters.length) = some 1 by decide +kernel)⟩ rfl (Nat.le_of_ble_eq_true rfl) (by rw [hRm]; decide) (by rw [hRm]; exact ⟨Nat.le_of_ble_eq_true rfl, Nat.le_of_ble_eq_true rfl⟩) ?_
  refine g_ifb_eq (tgt := 18) X dX4_ride_7 (by decide) (fun c1 => ?_) (fun c1 => ?_)
  · refine g_iconst (v := 1) X dX4_ride_18 (by decide) ?_
    refine g_goto (tgt := 23) X dX4_ride_19 (by decide) ?_
    refine g_callV (As := [.int 1, .int 1]) (ci := 4) X dX4_ride_23 (c_X4_fails1 κ.l hl κ.Γ M a u hR 1) k1164 k1166 kp15 k5 k1167 rfl (MRep.obj hR) ⟨rfl, by decide, by decide, (show (parseMethodDescriptor yX4_fails.desc).map (fun d => d.parameters.length) = some 2 by decide +kernel)⟩ rfl (Nat.le_of_ble_eq_true rfl) (by rw [hRm]; decide) (by rw [hRm]; exact ⟨Nat.le_of_ble_eq_true rfl, Nat.le_of_ble_eq_true rfl⟩) (fun v2 M2 h2 => ?_) (fun _ _ h9 => by cases h9.1)
    obtain ⟨e2, hR2, hF2⟩ := h2
    have e2 : (Sum.inl v2 : Res) = rI 1 := e2
    cases e2
    refine g_if_ne (tgt := 95) X dX4_ride_26 (by decide) (fun c3 => ?_) (fun c3 => absurd c3 (by decide))
    refine g_iconst (v := 0) X dX4_ride_95 (by decide) ?_
    exact g_iret X F dX4_ride_96 (by omega) (by omega) (by unfold mRide; exact (MMu.y (Or.inl (by first | exact c1 | exact fun q => q c1 | exact fun q => c1 q | exact Classical.not_not.mp c1)) ⟨rfl, hR2, hF2⟩))
  · refine g_aload_n X dX4_ride_10 rfl 0 rfl ?_
    refine g_iload_n X dX4_ride_11 rfl 1 rfl ?_
    refine g_callV_rd (As := [.int x]) (ci := 4) (v := some (.int (bI (btw x 0 (u.2.1 1 0 - 1))))) X dX4_ride_12 (c_X4_isMember κ.l hl κ.Γ M a u hR x) k1183 k1185 kp18 k5 k1186 rfl (MRep.obj hR) ⟨rfl, by decide, by decide, (show (parseMethodDescriptor yX4_isMember.desc).map (fun d => d.parameters.length) = some 1 by decide +kernel)⟩ rfl (Nat.le_of_ble_eq_true rfl) (by rw [hRm]; decide) (by rw [hRm]; exact ⟨Nat.le_of_ble_eq_true rfl, Nat.le_of_ble_eq_true rfl⟩) ?_
    refine g_ifb_ne (tgt := 22) X dX4_ride_15 (by decide) (fun c4 => ?_) (fun c4 => ?_)
    · refine g_iconst (v := 0) X dX4_ride_22 (by decide) ?_
      refine g_callV (As := [.int 1, .int 0]) (ci := 4) X dX4_ride_23 (c_X4_fails0 κ.l hl κ.Γ M a u hR 1) k1164 k1166 kp15 k5 k1167 rfl (MRep.obj hR) ⟨rfl, by decide, by decide, (show (parseMethodDescriptor yX4_fails.desc).map (fun d => d.parameters.length) = some 2 by decide +kernel)⟩ rfl (Nat.le_of_ble_eq_true rfl) (by rw [hRm]; decide) (by rw [hRm]; exact ⟨Nat.le_of_ble_eq_true rfl, Nat.le_of_ble_eq_true rfl⟩) (fun v5 M5 h5 => ?_) (fun _ _ h9 => by cases h9.1)
      obtain ⟨e5, hR5, hF5⟩ := h5
      have e5 : (Sum.inl v5 : Res) = rI 0 := e5
      cases e5
      obtain ⟨b9, hb9, hcb9, rfl⟩ := RInv.bil hi c1
      refine g_if_ne (tgt := 95) X dX4_ride_26 (by decide) (fun c6 => absurd c6 (by decide)) (fun c6 => ?_)
      refine g_aload_n X dX4_ride_29 rfl 0 rfl ?_
      refine g_iconst (v := 2) X dX4_ride_30 (by decide) ?_
      refine g_iload_n X dX4_ride_31 rfl 3 rfl ?_
      refine g_iconst (v := 1) X dX4_ride_32 (by decide) ?_
      refine g_bipush (v := 30) X dX4_ride_33 (by decide) ?_
      refine g_callS_rd (As := [.int n, .int 1, .int 30]) (v := some (.int (bI (btw n 1 30)))) X dX4_ride_35 (c_X4_isBetween κ.l hl κ.Γ M5 n 1 30) k1161 k1162 k5 k1163 ⟨by decide, by decide, (show (parseMethodDescriptor yX4_isBetween.desc).map (fun d => d.parameters.length) = some 3 by decide +kernel)⟩ rfl (Nat.le_of_ble_eq_true rfl) (by rw [hRm]; decide) (by rw [hRm]; exact ⟨Nat.le_of_ble_eq_true rfl, Nat.le_of_ble_eq_true rfl⟩) ?_
      refine g_ifb_ne (tgt := 45) X dX4_ride_38 (by decide) (fun c7 => ?_) (fun c7 => ?_)
      · refine g_iconst (v := 0) X dX4_ride_45 (by decide) ?_
        refine g_callV (As := [.int 2, .int 0]) (ci := 4) X dX4_ride_46 (c_X4_fails0 κ.l hl κ.Γ M5 a (hsc u 0 0) hR5 2) k1164 k1166 kp15 k5 k1167 rfl (MRep.obj hR5) ⟨rfl, by decide, by decide, (show (parseMethodDescriptor yX4_fails.desc).map (fun d => d.parameters.length) = some 2 by decide +kernel)⟩ rfl (Nat.le_of_ble_eq_true rfl) (by rw [hRm]; decide) (by rw [hRm]; exact ⟨Nat.le_of_ble_eq_true rfl, Nat.le_of_ble_eq_true rfl⟩) (fun v8 M8 h8 => ?_) (fun _ _ h9 => by cases h9.1)
        obtain ⟨e8, hR8, hF8⟩ := h8
        have e8 : (Sum.inl v8 : Res) = rI 0 := e8
        cases e8
        have hR8 : MRep κ.Γ a (hsc u 0 0) M8 := by rw [← hsc_hsc (x := 0)]; exact hR8
        have hF8 := Fr.tr hF5 hF8
        refine g_if_ne (tgt := 95) X dX4_ride_49 (by decide) (fun c9 => absurd c9 (by decide)) (fun c9 => ?_)
        refine g_aload_n X dX4_ride_52 rfl 0 rfl ?_
        refine g_iconst (v := 3) X dX4_ride_53 (by decide) ?_
        refine g_aload_n X dX4_ride_54 rfl 0 rfl ?_
        refine g_iload_n X dX4_ride_55 rfl 2 rfl ?_
        refine g_iconst (v := 0) X dX4_ride_56 (by decide) ?_
        refine g_callV_rd (As := [.int (nI b9), .int 0]) (ci := 4) (v := some (.int (u.2.1 1 (53 + 16 * b9 + 0)))) X dX4_ride_57 (c_X4_of κ.l hl κ.Γ M8 a (hsc u 0 0) hR8 b9 0 (by omega) (by omega)) k1263 k1265 kp25 k5 k1266 rfl (MRep.obj hR8) ⟨rfl, by decide, by decide, (show (parseMethodDescriptor yX4_of.desc).map (fun d => d.parameters.length) = some 2 by decide +kernel)⟩ rfl (Nat.le_of_ble_eq_true rfl) (by rw [hRm]; decide) (by rw [hRm]; exact ⟨Nat.le_of_ble_eq_true rfl, Nat.le_of_ble_eq_true rfl⟩) ?_
        refine g_if_eq (tgt := 67) X dX4_ride_60 (by decide) (fun c10 => ?_) (fun c10 => ?_)
        · refine g_iconst (v := 0) X dX4_ride_67 (by decide) ?_
          refine g_callV (As := [.int 3, .int 0]) (ci := 4) X dX4_ride_68 (c_X4_fails0 κ.l hl κ.Γ M8 a (hsc u 0 0) hR8 3) k1164 k1166 kp15 k5 k1167 rfl (MRep.obj hR8) ⟨rfl, by decide, by decide, (show (parseMethodDescriptor yX4_fails.desc).map (fun d => d.parameters.length) = some 2 by decide +kernel)⟩ rfl (Nat.le_of_ble_eq_true rfl) (by rw [hRm]; decide) (by rw [hRm]; exact ⟨Nat.le_of_ble_eq_true rfl, Nat.le_of_ble_eq_true rfl⟩) (fun v11 M11 h11 => ?_) (fun _ _ h9 => by cases h9.1)
          obtain ⟨e11, hR11, hF11⟩ := h11
          have e11 : (Sum.inl v11 : Res) = rI 0 := e11
          cases e11
          have hR11 : MRep κ.Γ a (hsc u 0 0) M11 := by rw [← hsc_hsc (x := 0)]; exact hR11
          have hF11 := Fr.tr hF8 hF11
          refine g_if_ne (tgt := 95) X dX4_ride_71 (by decide) (fun c12 => absurd c12 (by decide)) (fun c12 => ?_)
          refine g_aload_n X dX4_ride_74 rfl 0 rfl ?_
          refine g_iconst (v := 4) X dX4_ride_75 (by decide) ?_
          refine g_aload_n X dX4_ride_76 rfl 0 rfl ?_
          refine g_iload_n X dX4_ride_77 rfl 1 rfl ?_
          refine g_callV_rd (As := [.int x]) (ci := 4) (v := some (.int (bI (shr (u.2.1 1 2) x &&& 1 = 1)))) X dX4_ride_78 (c_X4_present κ.l hl κ.Γ M11 a (hsc u 0 0) hR11 x) k1187 k1189 kp19 k5 k1190 rfl (MRep.obj hR11) ⟨rfl, by decide, by decide, (show (parseMethodDescriptor yX4_present.desc).map (fun d => d.parameters.length) = some 1 by decide +kernel)⟩ rfl (Nat.le_of_ble_eq_true rfl) (by rw [hRm]; decide) (by rw [hRm]; exact ⟨Nat.le_of_ble_eq_true rfl, Nat.le_of_ble_eq_true rfl⟩) ?_
          refine g_ifb_ne (tgt := 88) X dX4_ride_81 (by decide) (fun c13 => ?_) (fun c13 => ?_)
          · refine g_iconst (v := 0) X dX4_ride_88 (by decide) ?_
            refine g_callV (As := [.int 4, .int 0]) (ci := 4) X dX4_ride_89 (c_X4_fails0 κ.l hl κ.Γ M11 a (hsc u 0 0) hR11 4) k1164 k1166 kp15 k5 k1167 rfl (MRep.obj hR11) ⟨rfl, by decide, by decide, (show (parseMethodDescriptor yX4_fails.desc).map (fun d => d.parameters.length) = some 2 by decide +kernel)⟩ rfl (Nat.le_of_ble_eq_true rfl) (by rw [hRm]; decide) (by rw [hRm]; exact ⟨Nat.le_of_ble_eq_true rfl, Nat.le_of_ble_eq_true rfl⟩) (fun v14 M14 h14 => ?_) (fun _ _ h9 => by cases h9.1)
            obtain ⟨e14, hR14, hF14⟩ := h14
            have e14 : (Sum.inl v14 : Res) = rI 0 := e14
            cases e14
            have hR14 : MRep κ.Γ a (hsc u 0 0) M14 := by rw [← hsc_hsc (x := 0)]; exact hR14
            have hF14 := Fr.tr hF11 hF14
            refine g_if_eq (tgt := 97) X dX4_ride_92 (by decide) (fun c15 => ?_) (fun c15 => absurd c15 (by decide))
            refine g_aload_n X dX4_ride_97 rfl 0 rfl ?_
            refine g_callV (As := []) (ci := 4) X dX4_ride_98 (c_X4_change κ.l hl κ.Γ M14 a (hsc u 0 0) hR14 hk) k1168 k1170 kp16 k5 k1171 rfl (MRep.obj hR14) ⟨rfl, by decide, by decide, (show (parseMethodDescriptor yX4_change.desc).map (fun d => d.parameters.length) = some 0 by decide +kernel)⟩ rfl (Nat.le_of_ble_eq_true rfl) (by rw [hRm]; decide) (by rw [hRm]; exact ⟨Nat.le_of_ble_eq_true rfl, Nat.le_of_ble_eq_true rfl⟩) (fun v16 M16 h16 => ?_) (fun _ _ h9 => by cases h9.1)
            obtain ⟨e16, hR16, hF16⟩ := h16
            have e16 : (Sum.inl v16 : Res) = .inl none := e16
            cases e16
            have hR16 : MRep κ.Γ a (mChg (hsc u 0 0)) M16 := hR16
            have hF16 := Fr.tr hF14 hF16
            refine g_aload_n X dX4_ride_101 rfl 0 rfl ?_
            refine g_iload_n X dX4_ride_102 rfl 2 rfl ?_
            refine g_iconst (v := 4) X dX4_ride_103 (by decide) ?_
            refine g_aload_n X dX4_ride_104 rfl 0 rfl ?_
            refine g_iload_n X dX4_ride_105 rfl 2 rfl ?_
            refine g_iconst (v := 4) X dX4_ride_106 (by decide) ?_
            refine g_callV_rd (As := [.int (nI b9), .int 4]) (ci := 4) (v := some (.int ((mChg (hsc u 0 0)).2.1 1 (53 + 16 * b9 + 4)))) X dX4_ride_107 (c_X4_of κ.l hl κ.Γ M16 a (mChg (hsc u 0 0)) hR16 b9 4 (by omega) (by omega)) k1263 k1265 kp25 k5 k1266 rfl (MRep.obj hR16) ⟨rfl, by decide, by decide, (show (parseMethodDescriptor yX4_of.desc).map (fun d => d.parameters.length) = some 2 by decide +kernel)⟩ rfl (Nat.le_of_ble_eq_true rfl) (by rw [hRm]; decide) (by rw [hRm]; exact ⟨Nat.le_of_ble_eq_true rfl, Nat.le_of_ble_eq_true rfl⟩) ?_
            refine g_iload_n X dX4_ride_110 rfl 3 rfl ?_
            refine g_iadd X dX4_ride_111 ?_
            refine g_callV (As := [.int (nI b9), .int 4, .int (((mChg (hsc u 0 0)).2.1 1 (53 + 16 * b9 + 4)) + n)]) (ci := 4) X dX4_ride_112 (c_X4_put κ.l hl κ.Γ M16 a (mChg (hsc u 0 0)) hR16 b9 4 (((mChg (hsc u 0 0)).2.1 1 (53 + 16 * b9 + 4)) + n) (by omega) (by omega)) k1255 k1257 kp23 k5 k1258 rfl (MRep.obj hR16) ⟨rfl, by decide, by decide, (show (parseMethodDescriptor yX4_put.desc).map (fun d => d.parameters.length) = some 3 by decide +kernel)⟩ rfl (Nat.le_of_ble_eq_true rfl) (by rw [hRm]; decide) (by rw [hRm]; exact ⟨Nat.le_of_ble_eq_true rfl, Nat.le_of_ble_eq_true rfl⟩) (fun v17 M17 h17 => ?_) (fun _ _ h9 => by cases h9.1)
            obtain ⟨e17, hR17, hF17⟩ := h17
            have e17 : (Sum.inl v17 : Res) = .inl none := e17
            cases e17
            have hR17 : MRep κ.Γ a (rPut (mChg (hsc u 0 0)) b9 4 (((mChg (hsc u 0 0)).2.1 1 (53 + 16 * b9 + 4)) + n)) M17 := hR17
            have hF17 := Fr.tr hF16 hF17
            refine g_aload_n X dX4_ride_115 rfl 0 rfl ?_
            refine g_iload_n X dX4_ride_116 rfl 2 rfl ?_
            refine g_callV_rd (As := [.int (nI b9)]) (ci := 4) (v := some (.int ((rPut (mChg (hsc u 0 0)) b9 4 (((mChg (hsc u 0 0)).2.1 1 (53 + 16 * b9 + 4)) + n)).2.1 1 (53 + 16 * b9 + 4) / 60))) X dX4_ride_117 (c_X4_rusted κ.l hl κ.Γ M17 a (rPut (mChg (hsc u 0 0)) b9 4 (((mChg (hsc u 0 0)).2.1 1 (53 + 16 * b9 + 4)) + n)) hR17 b9 (by omega)) k1321 k1323 kp30 k5 k1324 rfl (MRep.obj hR17) ⟨rfl, by decide, by decide, (show (parseMethodDescriptor yX4_rusted.desc).map (fun d => d.parameters.length) = some 1 by decide +kernel)⟩ rfl (Nat.le_of_ble_eq_true rfl) (by rw [hRm]; decide) (by rw [hRm]; exact ⟨Nat.le_of_ble_eq_true rfl, Nat.le_of_ble_eq_true rfl⟩) ?_
            refine g_iconst (v := 3) X dX4_ride_120 (by decide) ?_
            refine g_icmp_lt (tgt := 130) X dX4_ride_121 (by decide) (fun c18 => ?_) (fun c18 => ?_)
            · refine g_aload_n X dX4_ride_130 rfl 0 rfl ?_
              refine g_iload_n X dX4_ride_131 rfl 2 rfl ?_
              refine g_callV_rd (As := [.int (nI b9)]) (ci := 4) (v := some (.int ((rPut (mChg (hsc u 0 0)) b9 4 (((mChg (hsc u 0 0)).2.1 1 (53 + 16 * b9 + 4)) + n)).2.1 1 (53 + 16 * b9 + 4) / 60))) X dX4_ride_132 (c_X4_rusted κ.l hl κ.Γ M17 a (rPut (mChg (hsc u 0 0)) b9 4 (((mChg (hsc u 0 0)).2.1 1 (53 + 16 * b9 + 4)) + n)) hR17 b9 (by omega)) k1321 k1323 kp30 k5 k1324 rfl (MRep.obj hR17) ⟨rfl, by decide, by decide, (show (parseMethodDescriptor yX4_rusted.desc).map (fun d => d.parameters.length) = some 1 by decide +kernel)⟩ rfl (Nat.le_of_ble_eq_true rfl) (by rw [hRm]; decide) (by rw [hRm]; exact ⟨Nat.le_of_ble_eq_true rfl, Nat.le_of_ble_eq_true rfl⟩) ?_
              exact g_iret X F dX4_ride_135 (by omega) (by omega) (by unfold mRide; (try rw [hcb9]); exact (MMu.n (fun z => z.elim (by first | exact c1 | exact fun q => q c1 | exact fun q => c1 q | exact Classical.not_not.mp c1) (by first | exact c4 | exact fun q => q c4 | exact fun q => c4 q | exact Classical.not_not.mp c4)) (MMu.n (by first | exact c7 | exact fun q => q c7 | exact fun q => c7 q | exact Classical.not_not.mp c7) (MMu.n (by first | exact c10 | exact fun q => q c10 | exact fun q => c10 q | exact Classical.not_not.mp c10) (MMu.n (by first | exact c13 | exact fun q => q c13 | exact fun q => c13 q | exact Classical.not_not.mp c13) ⟨by (unfold sHol; rw [if_pos (show rB (sHol0 (uC u) b9 n) b9 4 / 60 < 3 from c18)]; rfl), by (unfold sHol; rw [if_pos (show rB (sHol0 (uC u) b9 n) b9 4 / 60 < 3 from c18)]); exact hR17, hF17⟩)))))
            · refine g_aload_n X dX4_ride_124 rfl 0 rfl ?_
              refine g_iload_n X dX4_ride_125 rfl 2 rfl ?_
              refine g_iconst (v := 2) X dX4_ride_126 (by decide) ?_
              refine g_callV (As := [.int (nI b9), .int 2]) (ci := 4) X dX4_ride_127 (c_X4_finish κ.l hl κ.Γ M17 a (rPut (mChg (hsc u 0 0)) b9 4 (((mChg (hsc u 0 0)).2.1 1 (53 + 16 * b9 + 4)) + n)) hR17 b9 2 (by omega)) k1358 k1360 kp33 k5 k1361 rfl (MRep.obj hR17) ⟨rfl, by decide, by decide, (show (parseMethodDescriptor yX4_finish.desc).map (fun d => d.parameters.length) = some 2 by decide +kernel)⟩ rfl (Nat.le_of_ble_eq_true rfl) (by rw [hRm]; decide) (by rw [hRm]; exact ⟨Nat.le_of_ble_eq_true rfl, Nat.le_of_ble_eq_true rfl⟩) (fun v19 M19 h19 => ?_) (fun _ _ h9 => by cases h9.1)
              obtain ⟨e19, hR19, hF19⟩ := h19
              have e19 : (Sum.inl v19 : Res) = .inl none := e19
              cases e19
              have hR19 : MRep κ.Γ a (mFin (rPut (mChg (hsc u 0 0)) b9 4 (((mChg (hsc u 0 0)).2.1 1 (53 + 16 * b9 + 4)) + n)) b9 2) M19 := hR19
              have hF19 := Fr.tr hF17 hF19
              refine g_aload_n X dX4_ride_130 rfl 0 rfl ?_
              refine g_iload_n X dX4_ride_131 rfl 2 rfl ?_
              refine g_callV_rd (As := [.int (nI b9)]) (ci := 4) (v := some (.int ((mFin (rPut (mChg (hsc u 0 0)) b9 4 (((mChg (hsc u 0 0)).2.1 1 (53 + 16 * b9 + 4)) + n)) b9 2).2.1 1 (53 + 16 * b9 + 4) / 60))) X dX4_ride_132 (c_X4_rusted κ.l hl κ.Γ M19 a (mFin (rPut (mChg (hsc u 0 0)) b9 4 (((mChg (hsc u 0 0)).2.1 1 (53 + 16 * b9 + 4)) + n)) b9 2) hR19 b9 (by omega)) k1321 k1323 kp30 k5 k1324 rfl (MRep.obj hR19) ⟨rfl, by decide, by decide, (show (parseMethodDescriptor yX4_rusted.desc).map (fun d => d.parameters.length) = some 1 by decide +kernel)⟩ rfl (Nat.le_of_ble_eq_true rfl) (by rw [hRm]; decide) (by rw [hRm]; exact ⟨Nat.le_of_ble_eq_true rfl, Nat.le_of_ble_eq_true rfl⟩) ?_
              exact g_iret X F dX4_ride_135 (by omega) (by omega) (by unfold mRide; (try rw [hcb9]); exact (MMu.n (fun z => z.elim (by first | exact c1 | exact fun q => q c1 | exact fun q => c1 q | exact Classical.not_not.mp c1) (by first | exact c4 | exact fun q => q c4 | exact fun q => c4 q | exact Classical.not_not.mp c4)) (MMu.n (by first | exact c7 | exact fun q => q c7 | exact fun q => c7 q | exact Classical.not_not.mp c7) (MMu.n (by first | exact c10 | exact fun q => q c10 | exact fun q => c10 q | exact Classical.not_not.mp c10) (MMu.n (by first | exact c13 | exact fun q => q c13 | exact fun q => c13 q | exact Classical.not_not.mp c13) ⟨by (unfold sHol; rw [if_neg (show ¬ rB (sHol0 (uC u) b9 n) b9 4 / 60 < 3 from c18)]; rfl), by (unfold sHol; rw [if_neg (show ¬ rB (sHol0 (uC u) b9 n) b9 4 / 60 < 3 from c18)]); exact hR19, hF19⟩)))))
          · refine g_iconst (v := 1) X dX4_ride_84 (by decide) ?_
            refine g_goto (tgt := 89) X dX4_ride_85 (by decide) ?_
            refine g_callV (As := [.int 4, .int 1]) (ci := 4) X dX4_ride_89 (c_X4_fails1 κ.l hl κ.Γ M11 a (hsc u 0 0) hR11 4) k1164 k1166 kp15 k5 k1167 rfl (MRep.obj hR11) ⟨rfl, by decide, by decide, (show (parseMethodDescriptor yX4_fails.desc).map (fun d => d.parameters.length) = some 2 by decide +kernel)⟩ rfl (Nat.le_of_ble_eq_true rfl) (by rw [hRm]; decide) (by rw [hRm]; exact ⟨Nat.le_of_ble_eq_true rfl, Nat.le_of_ble_eq_true rfl⟩) (fun v20 M20 h20 => ?_) (fun _ _ h9 => by cases h9.1)
            obtain ⟨e20, hR20, hF20⟩ := h20
            have e20 : (Sum.inl v20 : Res) = rI 1 := e20
            cases e20
            have hR20 : MRep κ.Γ a (hsc u 0 4) M20 := by rw [← hsc_hsc (x := 0)]; exact hR20
            have hF20 := Fr.tr hF11 hF20
            refine g_if_eq (tgt := 97) X dX4_ride_92 (by decide) (fun c21 => absurd c21 (by decide)) (fun c21 => ?_)
            refine g_iconst (v := 0) X dX4_ride_95 (by decide) ?_
            exact g_iret X F dX4_ride_96 (by omega) (by omega) (by unfold mRide; (try rw [hcb9]); exact (MMu.n (fun z => z.elim (by first | exact c1 | exact fun q => q c1 | exact fun q => c1 q | exact Classical.not_not.mp c1) (by first | exact c4 | exact fun q => q c4 | exact fun q => c4 q | exact Classical.not_not.mp c4)) (MMu.n (by first | exact c7 | exact fun q => q c7 | exact fun q => c7 q | exact Classical.not_not.mp c7) (MMu.n (by first | exact c10 | exact fun q => q c10 | exact fun q => c10 q | exact Classical.not_not.mp c10) (MMu.y (by first | exact c13 | exact fun q => q c13 | exact fun q => c13 q | exact Classical.not_not.mp c13) ⟨rfl, hR20, hF20⟩)))))
        · refine g_iconst (v := 1) X dX4_ride_63 (by decide) ?_
          refine g_goto (tgt := 68) X dX4_ride_64 (by decide) ?_
          refine g_callV (As := [.int 3, .int 1]) (ci := 4) X dX4_ride_68 (c_X4_fails1 κ.l hl κ.Γ M8 a (hsc u 0 0) hR8 3) k1164 k1166 kp15 k5 k1167 rfl (MRep.obj hR8) ⟨rfl, by decide, by decide, (show (parseMethodDescriptor yX4_fails.desc).map (fun d => d.parameters.length) = some 2 by decide +kernel)⟩ rfl (Nat.le_of_ble_eq_true rfl) (by rw [hRm]; decide) (by rw [hRm]; exact ⟨Nat.le_of_ble_eq_true rfl, Nat.le_of_ble_eq_true rfl⟩) (fun v22 M22 h22 => ?_) (fun _ _ h9 => by cases h9.1)
          obtain ⟨e22, hR22, hF22⟩ := h22
          have e22 : (Sum.inl v22 : Res) = rI 1 := e22
          cases e22
          have hR22 : MRep κ.Γ a (hsc u 0 3) M22 := by rw [← hsc_hsc (x := 0)]; exact hR22
          have hF22 := Fr.tr hF8 hF22
          refine g_if_ne (tgt := 95) X dX4_ride_71 (by decide) (fun c23 => ?_) (fun c23 => absurd c23 (by decide))
          refine g_iconst (v := 0) X dX4_ride_95 (by decide) ?_
          exact g_iret X F dX4_ride_96 (by omega) (by omega) (by unfold mRide; (try rw [hcb9]); exact (MMu.n (fun z => z.elim (by first | exact c1 | exact fun q => q c1 | exact fun q => c1 q | exact Classical.not_not.mp c1) (by first | exact c4 | exact fun q => q c4 | exact fun q => c4 q | exact Classical.not_not.mp c4)) (MMu.n (by first | exact c7 | exact fun q => q c7 | exact fun q => c7 q | exact Classical.not_not.mp c7) (MMu.y (by first | exact c10 | exact fun q => q c10 | exact fun q => c10 q | exact Classical.not_not.mp c10) ⟨rfl, hR22, hF22⟩))))
      · refine g_iconst (v := 1) X dX4_ride_41 (by decide) ?_
        refine g_goto (tgt := 46) X dX4_ride_42 (by decide) ?_
        refine g_callV (As := [.int 2, .int 1]) (ci := 4) X dX4_ride_46 (c_X4_fails1 κ.l hl κ.Γ M5 a (hsc u 0 0) hR5 2) k1164 k1166 kp15 k5 k1167 rfl (MRep.obj hR5) ⟨rfl, by decide, by decide, (show (parseMethodDescriptor yX4_fails.desc).map (fun d => d.parameters.length) = some 2 by decide +kernel)⟩ rfl (Nat.le_of_ble_eq_true rfl) (by rw [hRm]; decide) (by rw [hRm]; exact ⟨Nat.le_of_ble_eq_true rfl, Nat.le_of_ble_eq_true rfl⟩) (fun v24 M24 h24 => ?_) (fun _ _ h9 => by cases h9.1)
        obtain ⟨e24, hR24, hF24⟩ := h24
        have e24 : (Sum.inl v24 : Res) = rI 1 := e24
        cases e24
        have hR24 : MRep κ.Γ a (hsc u 0 2) M24 := by rw [← hsc_hsc (x := 0)]; exact hR24
        have hF24 := Fr.tr hF5 hF24
        refine g_if_ne (tgt := 95) X dX4_ride_49 (by decide) (fun c25 => ?_) (fun c25 => absurd c25 (by decide))
        refine g_iconst (v := 0) X dX4_ride_95 (by decide) ?_
        exact g_iret X F dX4_ride_96 (by omega) (by omega) (by unfold mRide; (try rw [hcb9]); exact (MMu.n (fun z => z.elim (by first | exact c1 | exact fun q => q c1 | exact fun q => c1 q | exact Classical.not_not.mp c1) (by first | exact c4 | exact fun q => q c4 | exact fun q => c4 q | exact Classical.not_not.mp c4)) (MMu.y (by first | exact c7 | exact fun q => q c7 | exact fun q => c7 q | exact Classical.not_not.mp c7) ⟨rfl, hR24, hF24⟩)))
    · refine g_iconst (v := 1) X dX4_ride_18 (by decide) ?_
      refine g_goto (tgt := 23) X dX4_ride_19 (by decide) ?_
      refine g_callV (As := [.int 1, .int 1]) (ci := 4) X dX4_ride_23 (c_X4_fails1 κ.l hl κ.Γ M a u hR 1) k1164 k1166 kp15 k5 k1167 rfl (MRep.obj hR) ⟨rfl, by decide, by decide, (show (parseMethodDescriptor yX4_fails.desc).map (fun d => d.parameters.length) = some 2 by decide +kernel)⟩ rfl (Nat.le_of_ble_eq_true rfl) (by rw [hRm]; decide) (by rw [hRm]; exact ⟨Nat.le_of_ble_eq_true rfl, Nat.le_of_ble_eq_true rfl⟩) (fun v26 M26 h26 => ?_) (fun _ _ h9 => by cases h9.1)
      obtain ⟨e26, hR26, hF26⟩ := h26
      have e26 : (Sum.inl v26 : Res) = rI 1 := e26
      cases e26
      refine g_if_ne (tgt := 95) X dX4_ride_26 (by decide) (fun c27 => ?_) (fun c27 => absurd c27 (by decide))
      refine g_iconst (v := 0) X dX4_ride_95 (by decide) ?_
      exact g_iret X F dX4_ride_96 (by omega) (by omega) (by unfold mRide; exact (MMu.y (Or.inr (by first | exact c4 | exact fun q => q c4 | exact fun q => c4 q | exact Classical.not_not.mp c4)) ⟨rfl, hR26, hF26⟩))
