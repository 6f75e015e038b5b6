/-! ===== texts taken up, lines written ===== -/
theorem Rel.text {w : PV} {u v T : HV} (h : Rel w u) (hT : RText T v) (h1 : v.1 1 = u.1 1) (h2 : v.1 2 = u.1 2) (h3 : v.1 3 = u.1 3) (h4 : v.1 4 = u.1 4) (h7 : v.1 7 = u.1 7) (h8 : v.1 8 = u.1 8) (hr : ∀ i, i ≠ 14 → v.2.1 i = u.2.1 i) : Rel (wT w T) v := by
  obtain ⟨hs, ⟨K, N, hK, hN, a1, a2, a3, a4⟩, ⟨f1, f2⟩, -, ⟨l1, ⟨n, l2, l3, l4, l5⟩, l6⟩, ⟨e1, e2, e3, e4⟩, g3, hx, hy⟩ := h
  refine ⟨?_, ⟨K, N, hK, hN, a1, h1.trans a2, a3, fun j hj => ?_⟩, ⟨f1.trans h2.symm, fun c => ?_⟩, hT, ⟨l1, ⟨n, l2, l3, h4.trans l4, ?_⟩, ?_⟩, ⟨?_, ?_, ?_, ?_⟩, h3.trans g3, hx, hy⟩
  · rw [hr 1 (by decide)]; exact hs
  · rw [hr _ (by omega)]; exact a4 j hj
  · rw [hr 2 (by decide)]; exact f2 (by rw [← h2]; exact c)
  · rw [hr 13 (by decide)]; exact l5
  · rw [hr 13 (by decide)]; exact l6
  · rw [h7]; exact e1
  · rw [h8]; exact e2
  · rw [h7]; exact e3
  · rw [h8]; exact e4
theorem Rel.line {w : PV} {u v Z : HV} (h : Rel w u) (hZ : RLine Z v) (hs : ∀ s, s ≠ 0 → s ≠ 4 → v.1 s = u.1 s) (hr : ∀ i, i ≠ 13 → v.2.1 i = u.2.1 i) : Rel (wL w Z) v := by
  obtain ⟨q, ⟨K, N, hK, hN, a1, a2, a3, a4⟩, ⟨f1, f2⟩, ⟨t1, t2, t3, t4, t5⟩, -, ⟨e1, e2, e3, e4⟩, g3, hx, hy⟩ := h
  refine ⟨?_, ⟨K, N, hK, hN, a1, (hs 1 (by decide) (by decide)).trans a2, a3, fun j hj => ?_⟩, ⟨f1.trans (hs 2 (by decide) (by decide)).symm, fun c => ?_⟩, ⟨t1, ?_, ?_, ?_, ?_⟩, hZ, ⟨?_, ?_, ?_, ?_⟩, (hs 3 (by decide) (by decide)).trans g3, hx, hy⟩
  · rw [hr 1 (by decide)]; exact q
  · rw [hr _ (by omega)]; exact a4 j hj
  · rw [hr 2 (by decide)]; exact f2 (by rw [← hs 2 (by decide) (by decide)]; exact c)
  · rw [hs 5 (by decide) (by decide)]; exact t2
  · rw [hr 14 (by decide)]; exact t3
  · rw [hs 6 (by decide) (by decide)]; exact t4
  · rw [hs 12 (by decide) (by decide)]; exact t5
  · rw [hs 7 (by decide) (by decide)]; exact e1
  · rw [hs 8 (by decide) (by decide)]; exact e2
  · rw [hs 7 (by decide) (by decide)]; exact e3
  · rw [hs 8 (by decide) (by decide)]; exact e4
theorem sc_append {w : PV} {u : HV} (h : Rel w u) : SC_append Rel w u := by
  intro x
  generalize i2cc x = c
  obtain ⟨⟨tn, tp, tc, tr⟩, ⟨n, hn, e1, e2⟩, t3, t4, t5⟩ := h.2.2.2.1
  have hg1 : (32 ≤ c ∧ c ≤ 126) ↔ ¬ ¬ btw c 32 126 := Classical.not_not.symm
  have hg2 : ¬ (60 : Int32) ≤ w.2.2.1.1 0 ↔ ¬ u.1 5 = 60 := by
    rw [e1, e2]
    have k1 : (60 : Int32) ≤ nI n ↔ 60 ≤ n := nI_leI (a := 60) (by decide) (by omega)
    have k2 : nI n = 60 ↔ n = 60 := nI_eq (b := 60) (by omega) (by decide)
    rw [k1, k2]; omega
  have eT : tPutS w.2.2.1 c = hsc (hset w.2.2.1 1 n c) 0 (nI (n + 1)) := by
    show hsc (hset w.2.2.1 1 (cN (w.2.2.1.1 0)) c) 0 (w.2.2.1.1 0 + 1) = _
    rw [e1, cN_nI (by omega), nI_1]
  refine ⟨sm_gate hg1 wex1 isI_0 fun _ _ => sm_gate hg2 wex2 isI_0 fun _ _ => sm_val ?_ rfl, rel_gate hg1 (h.z 1) fun c1 _ => rel_gate hg2 (h.z 2) fun c2 _ => ?_⟩
  · rw [eT, e2, nI_1]; rfl
  · show Rel (wT w (tPutS w.2.2.1 c)) (hsc (hset (u0 u) 14 (cN (u.1 5)) c) 5 (u.1 5 + 1))
    rw [eT, e2, nI_1, cN_nI (by omega)]
    have hn6 : n < 60 := by
      rw [e1] at c2
      have k1 : (60 : Int32) ≤ nI n ↔ 60 ≤ n := nI_leI (a := 60) (by decide) (by omega)
      rw [k1] at c2; omega
    have hc : isCh c := by
      obtain ⟨k, hk, rfl⟩ := btw_of (B := 126) (by decide) (by decide) c1
      exact ⟨k, by omega, rfl⟩
    refine h.text ⟨⟨⟨n + 1, by omega, rfl⟩, tp, fun j hj => ?_, tr⟩, ⟨n + 1, by omega, rfl, rfl⟩, fun j hj => ?_, t4, t5⟩ rfl rfl rfl rfl rfl rfl (fun i hi => hset_n (u := u0 u) hi)
    · show isCh (upd (w.2.2.1.2.1 1) n c j)
      by_cases e : j = n
      · subst e; rw [upd_s]; exact hc
      · rw [upd_n e]; exact tc j hj
    · show upd (u.2.1 14) n c j = upd (w.2.2.1.2.1 1) n c j
      by_cases e : j = n
      · subst e; rw [upd_s, upd_s]
      · rw [upd_n e, upd_n e]; exact t3 j hj
/-- both lines alike so far, at most k signs; else v is as u -/
def RW (k : Nat) (u Z v : HV) : Prop := LInv Z ∧ (∃ n : Nat, n ≤ k ∧ Z.1 0 = nI n ∧ v.1 4 = nI n ∧ ∀ j, j < n → v.2.1 13 j = Z.2.1 1 j) ∧ (∀ j, j < 40 → narrow .char (.int (v.2.1 13 j)) = .int (v.2.1 13 j)) ∧ (∀ s, s ≠ 0 → s ≠ 4 → v.1 s = u.1 s) ∧ (∀ i, i ≠ 13 → v.2.1 i = u.2.1 i) ∧ v.1 0 = 0
theorem RW.put {k : Nat} {u Z v : HV} {c : Int32} (h : RW k u Z v) (hk : k < 24) (hc : narrow .char (.int c) = .int c) : RW (k + 1) u (lPut Z c) (mWr v c) := by
  obtain ⟨h1, ⟨n, h2, h3, h4, h5⟩, h6, h7, h8, h9⟩ := h
  have e : lPut Z c = hsc (hset Z 1 n c) 0 (nI (n + 1)) := by
    rw [lPut_y (by rw [h3]; exact (nI_ltI (b := 24) (by omega) (by decide)).mpr (by omega)), h3, cN_nI (by omega)]
    show hsc _ 0 (Z.1 0 + 1) = _
    rw [h3, nI_1]
  have e2 : mWr v c = hsc (hset v 13 n c) 4 (nI (n + 1)) := by
    show hsc (hset v 13 (cN (v.1 4)) c) 4 (v.1 4 + 1) = _
    rw [h4, cN_nI (by omega), nI_1]
  refine ⟨h1.put hc, ?_⟩
  rw [e, e2]
  refine ⟨⟨n + 1, by omega, rfl, rfl, fun j hj => ?_⟩, fun j hj => ?_, fun s s0 s4 => ?_, fun i hi => ?_, h9⟩
  · show upd (v.2.1 13) n c j = upd (Z.2.1 1) n c j
    by_cases q : j = n
    · subst q; rw [upd_s, upd_s]
    · rw [upd_n q, upd_n q]; exact h5 j (by omega)
  · show narrow .char (.int (upd (v.2.1 13) n c j)) = .int (upd (v.2.1 13) n c j)
    by_cases q : j = n
    · subst q; rw [upd_s]; exact hc
    · rw [upd_n q]; exact h6 j hj
  · rw [hsc_n s4]; exact h7 s s0 s4
  · show (hset v 13 n c).2.1 i = _
    rw [hset_n hi]; exact h8 i hi
theorem RW.mono {k l : Nat} {u Z v : HV} (h : RW k u Z v) (hl : k ≤ l) : RW l u Z v := by
  obtain ⟨h1, ⟨n, h2, h3⟩, h4⟩ := h
  exact ⟨h1, ⟨n, by omega, h3⟩, h4⟩
theorem irm_10 : ∀ x, x < 10 → irm (nI x) 10 = nI x := by decide +kernel
theorem RW.num1 {k n j : Nat} {u Z v : HV} (h : RW k u Z v) (hk : k < 24) (hn : n < 10) : RW (k + 1) u (lNum Z (nI n)) (mNum (j + 1) v (nI n)) := by
  have l1 : nI n < 100 := (nI_ltI (b := 100) (by omega) (by decide)).mpr (by omega)
  have l2 : nI n < 10 := (nI_ltI (b := 10) (by omega) (by decide)).mpr hn
  have l3 : nI n ≤ 9 := (nI_leI (b := 9) (by omega) (by decide)).mpr (by omega)
  show RW (k + 1) u (lPut (if nI n < 10 then (if nI n < 100 then Z else _) else _) _) (if nI n ≤ 9 then mWr v (dg (nI n)) else _)
  rw [if_pos l2, if_pos l1, if_pos l3]
  exact h.put hk (cc_nar _)
theorem RW.num2 {k n j : Nat} {u Z v : HV} (h : RW k u Z v) (hk : k + 1 < 24) (hn : n < 100) : RW (k + 2) u (lNum Z (nI n)) (mNum (j + 2) v (nI n)) := by
  by_cases c : n < 10
  · exact (h.num1 (by omega) c).mono (by omega)
  · have l1 : nI n < 100 := (nI_ltI (b := 100) (by omega) (by decide)).mpr hn
    have l2 : ¬ nI n < 10 := fun z => c ((nI_ltI (b := 10) (by omega) (by decide)).mp z)
    have l3 : ¬ nI n ≤ 9 := fun z => by have := (nI_leI (b := 9) (by omega) (by decide)).mp z; omega
    have ed : nI n / 10 = nI (n / 10) := nI_div (b := 10) (by omega) (by decide)
    have l4 : nI (n / 10) ≤ 9 := (nI_leI (b := 9) (by omega) (by decide)).mpr (by omega)
    show RW (k + 2) u (lPut (if nI n < 10 then _ else lPut (if nI n < 100 then Z else _) (i2cc (48 + irm (nI n / 10) 10))) _) (if nI n ≤ 9 then _ else mWr (if nI n / 10 ≤ 9 then mWr v (dg (nI n / 10)) else _) (dg (nI n)))
    rw [if_neg l2, if_pos l1, if_neg l3, ed, if_pos l4]
    exact (h.put (by omega) (cc_nar _)).put (by omega) (cc_nar _)
theorem RW.num3 {k n j : Nat} {u Z v : HV} (h : RW k u Z v) (hk : k + 2 < 24) (hn : n < 1000) : RW (k + 3) u (lNum Z (nI n)) (mNum (j + 3) v (nI n)) := by
  by_cases c : n < 100
  · exact (h.num2 (by omega) c).mono (by omega)
  · have l1 : ¬ nI n < 100 := fun z => c ((nI_ltI (b := 100) (by omega) (by decide)).mp z)
    have l2 : ¬ nI n < 10 := fun z => by have := (nI_ltI (b := 10) (by omega) (by decide)).mp z; omega
    have l3 : ¬ nI n ≤ 9 := fun z => by have := (nI_leI (b := 9) (by omega) (by decide)).mp z; omega
    have ed : nI n / 10 = nI (n / 10) := nI_div (b := 10) (by omega) (by decide)
    have ed2 : nI (n / 10) / 10 = nI (n / 100) := (nI_div (b := 10) (by omega) (by decide)).trans (by congr 1; omega)
    have ed3 : nI n / 100 = nI (n / 100) := nI_div (b := 100) (by omega) (by decide)
    have l4 : ¬ nI (n / 10) ≤ 9 := fun z => by have := (nI_leI (b := 9) (by omega) (by decide)).mp z; omega
    have l5 : nI (n / 100) ≤ 9 := (nI_leI (b := 9) (by omega) (by decide)).mpr (by omega)
    show RW (k + 3) u (lPut (if nI n < 10 then _ else lPut (if nI n < 100 then Z else lPut Z (i2cc (48 + nI n / 100))) (i2cc (48 + irm (nI n / 10) 10))) _) (if nI n ≤ 9 then _ else mWr (if nI n / 10 ≤ 9 then _ else mWr (if nI n / 10 / 10 ≤ 9 then mWr v (dg (nI n / 10 / 10)) else _) (dg (nI n / 10))) (dg (nI n)))
    rw [if_neg l2, if_neg l1, if_neg l3, ed, if_neg l4, ed2, if_pos l5, ed3]
    have e9 : i2cc (48 + nI (n / 100)) = dg (nI (n / 100)) := by
      show _ = i2cc (48 + irm (nI (n / 100)) 10)
      rw [irm_10 _ (by omega)]
    rw [e9]
    exact ((h.put (by omega) (cc_nar _)).put (by omega) (cc_nar _)).put (by omega) (cc_nar _)
theorem RW.star {k : Nat} {u Z v : HV} (h : RW k u Z v) : ∀ n, k + n < 24 → RW (k + n) u (lStar Z n) (mStar v n)
  | 0, _ => h
  | n + 1, hn => (RW.star h n (by omega)).put (by omega) (by decide)
theorem sc_describeBill {w : PV} {u : HV} (h : Rel w u) : SC_describeBill Rel w u := by
  obtain ⟨m, n, q⟩ := h.1
  obtain ⟨hL, -, hc⟩ := h.2.2.2.2.1
  intro x
  have key : hasB (w.1 0) x → RW 20 u (dL (w.1 0) w.2.2.2.1 x) (mD u x) := fun c => by
    obtain ⟨b, -, hb, rfl⟩ := q.bil c
    obtain ⟨⟨r0, r3, r4, r5, r6, r7⟩, rc, -, -, ⟨g, hg, eg, -⟩, ⟨d, hd, ed, -⟩, -⟩ := q.bl hb
    have e0 : RW 0 u (hsc w.2.2.2.1 0 0) (hsc (hsc u 0 0) 4 0) := ⟨hL.clr, ⟨0, by decide, rfl, rfl, fun j hj => absurd hj (Nat.not_lt_zero _)⟩, hc, fun s s0 s4 => (hsc_n s4).trans (hsc_n s0), fun i _ => rfl, rfl⟩
    have e1 : RW 1 u (lNum (hsc w.2.2.2.1 0 0) (nI b)) (mD1 u (nI b)) := e0.num1 (j := 0) (by decide) (by omega)
    have z0 : rB u (cN (nI b)) 0 = (w.1 0).2.1 3 (cN (nI b)) := by rw [cN_nI (by omega)]; exact r0
    have z3 : rB u (cN (nI b)) 3 = nI g := by rw [cN_nI (by omega)]; exact r3.trans eg
    have z3' : (w.1 0).2.1 4 (cN (nI b)) = nI g := by rw [cN_nI (by omega)]; exact eg
    have e2 : RW 3 u (dL3 (w.1 0) w.2.2.2.1 (nI b)) (mD2 u (nI b)) := by
      show RW 3 u (lNum (lPut (lNum (hsc w.2.2.2.1 0 0) (nI b)) (sgn ((w.1 0).2.1 3 (cN (nI b))))) ((w.1 0).2.1 4 (cN (nI b)))) (mNum 1 (mWr (mD1 u (nI b)) (sgn (rB u (cN (nI b)) 0))) (rB u (cN (nI b)) 3))
      rw [z0, z3, z3']
      exact (e1.put (by decide) (sgn_nar _)).num1 (j := 0) (by decide) (by omega)
    have dr : nI d / 60 = nI (d / 60) := nI_div (b := 60) (by omega) (by decide)
    have z4 : cN (rB u (cN (nI b)) 4 / 60) = d / 60 := by
      rw [cN_nI (n := b) (by omega)]
      show cN (u.2.1 1 (53 + 16 * b + 4) / 60) = _
      rw [r4, ed, dr, cN_nI (by omega)]
    have z4' : cN (hRust (w.1 0) (cN (nI b))) = d / 60 := by
      rw [cN_nI (n := b) (by omega)]
      show cN ((w.1 0).2.1 5 b / 60) = _
      rw [ed, dr, cN_nI (by omega)]
    have e3 : RW 6 u (lStar (dL3 (w.1 0) w.2.2.2.1 (nI b)) (cN (hRust (w.1 0) (cN (nI b))))) (mD3 u (nI b)) := by
      show RW 6 u _ (mStar (mD2 u (nI b)) (cN (rB u (cN (nI b)) 4 / 60)))
      rw [z4, z4']
      exact (e2.star (d / 60) (by omega)).mono (by omega)
    obtain ⟨c1, hc1, ec1⟩ := jbc_48 (rB u (cN (nI b)) 1)
    obtain ⟨c2, hc2, ec2⟩ := jbc_48 (rB u (cN (nI b)) 2)
    have zc : jbc (rB u (cN (nI b)) 1) + jbc (rB u (cN (nI b)) 2) = nI (c1 + c2) := by rw [ec1, ec2, nI_add]
    have zc' : jbl ((w.1 0).2.2 (cN (nI b))) = nI (c1 + c2) := by
      rw [← zc, cN_nI (n := b) (by omega), rc, jbl_cl, i_add_comm]
    have e4 : RW 9 u (dL6 (w.1 0) w.2.2.2.1 (nI b)) (mD4 u (nI b)) := by
      show RW 9 u (lNum (lPut _ 58) (jbl ((w.1 0).2.2 (cN (nI b))))) (mNum 2 (mWr (mD3 u (nI b)) 58) (jbc (rB u (cN (nI b)) 1) + jbc (rB u (cN (nI b)) 2)))
      rw [zc, zc']
      exact (e3.put (by decide) (by decide)).num2 (j := 0) (by decide) (by omega)
    unfold dL mD
    rw [z0]
    by_cases cs : (w.1 0).2.1 3 (cN (nI b)) = 0
    · rw [if_pos cs, if_pos cs]
      obtain ⟨f, hf, ef⟩ := q.wt_le ((w.1 0).2.1 6 (cN (nI b)))
      obtain ⟨a, ha, ea⟩ := q.wt_le ((w.1 0).2.1 7 (cN (nI b)))
      have zf : rWt u (rB u (cN (nI b)) 5) = nI f := by
        rw [← ef, q.eW]
        congr 1
        rw [cN_nI (by omega)]; exact r5
      have za : rWt u (rB u (cN (nI b)) 6) = nI a := by
        rw [← ea, q.eW]
        congr 1
        rw [cN_nI (by omega)]; exact r6
      have e5 : RW 13 u (lNum (lPut (dL6 (w.1 0) w.2.2.2.1 (nI b)) 43) (nI f)) (mD5 u (nI b)) := by
        show RW 13 u _ (mNum 3 (mWr (mD4 u (nI b)) 43) (rWt u (rB u (cN (nI b)) 5)))
        rw [zf]
        exact (e4.put (by decide) (by decide)).num3 (j := 0) (by decide) (by omega)
      rw [ef, ea]
      show RW 20 u _ (mNum 3 (mWr (mD5 u (nI b)) 45) (rWt u (rB u (cN (nI b)) 6)))
      rw [za]
      exact ((e5.put (by decide) (by decide)).num3 (j := 0) (by decide) (by omega)).mono (by decide)
    · rw [if_neg cs, if_neg cs]
      exact e4.mono (by decide)
  refine ⟨sm_gate (q.gB x) wex1 isI_0 fun c _ => ?_, rel_gate (q.gB x) (h.z 1) fun c _ => ?_⟩
  · obtain ⟨-, ⟨n9, -, e1, e2, -⟩, -, -, -, e0⟩ := key c
    exact sm_val (e1.trans e2.symm) e0
  · obtain ⟨k1, ⟨n9, h9, e1, e2, e3⟩, k3, k4, k5, -⟩ := key c
    exact h.line ⟨k1, ⟨n9, by omega, e1, e2, e3⟩, k3⟩ k4 k5
