/-! what the changes keep -/
theorem hset_n {u : HV} {i j k : Nat} {v : Int32} (h : k ≠ i) : (hset u i j v).2.1 k = u.2.1 k := har_n h
theorem hset_s {u : HV} {i j : Nat} {v : Int32} : (hset u i j v).2.1 i = upd (u.2.1 i) j v := har_s _ _ _
theorem HInv.row {u : HV} (h : HInv u) {i j : Nat} {v : Int32} (hi : i ≠ 8) : HInv (hset u i j v) := ⟨h.1, h.2.1, by rw [hset_n (Ne.symm hi)]; exact h.2.2⟩
theorem HInv.scn {u : HV} (h : HInv u) {s : Nat} {v : Int32} (h0 : s ≠ 0) (h3 : s ≠ 3) : HInv (hsc u s v) := ⟨by rw [hsc_n (Ne.symm h0)]; exact h.1, by rw [hsc_n (Ne.symm h3)]; exact h.2.1, h.2.2⟩
theorem HInv.cl {u : HV} (h : HInv u) {g : Nat → Int64} : HInv (hcl u g) := h
theorem HInv.pend {u : HV} (h : HInv u) {b : Nat} {v : Int32} (hv : 0 ≤ v ∧ v ≤ 4) : HInv (hset u 8 b v) := by
  refine ⟨h.1, h.2.1, fun j hj => ?_⟩
  rw [hset_s]
  by_cases e : j = b
  · rw [e, upd_s]; exact hv
  · rw [upd_n e]; exact h.2.2 j hj
theorem vin_succ {x y : Int32} {n : Nat} (h : vp_in x n) (hn : n ≤ 1000) (hy : y.toInt = n) : 0 ≤ x + 1 ∧ x + 1 ≤ y := by
  have h1 := vp_in_iff.mp h
  have e1 : (1 : Int32).toInt = 1 := rfl
  have e0 : (0 : Int32).toInt = 0 := rfl
  have h3 : (x + 1).toInt = x.toInt + 1 := by
    rw [Int32.toInt_add, e1]
    exact Int.bmod_eq_of_le (by omega) (by omega)
  exact ⟨Int32.le_iff_toInt_le.mpr (by omega), Int32.le_iff_toInt_le.mpr (by omega)⟩
theorem i_pred {x y : Int32} (h : 0 ≤ x ∧ x ≤ y) (c : ¬ x = 0) : 0 ≤ x - 1 ∧ x - 1 ≤ y := by
  have h0 := Int32.le_iff_toInt_le.mp h.1
  have h1 := Int32.le_iff_toInt_le.mp h.2
  have e1 : (1 : Int32).toInt = 1 := rfl
  have e0 : (0 : Int32).toInt = 0 := rfl
  have h2 : x.toInt ≠ 0 := fun e => c (Int32.toInt_inj.mp (by rw [e]; rfl))
  have h4 := Int32.toInt_lt x
  have h3 : (x - 1).toInt = x.toInt - 1 := by
    rw [Int32.toInt_sub, e1]
    exact Int.bmod_eq_of_le (by omega) (by omega)
  exact ⟨Int32.le_iff_toInt_le.mpr (by omega), Int32.le_iff_toInt_le.mpr (by omega)⟩
theorem HInv.admt {u : HV} (h : HInv u) {a b : Int32} (hm : vp_in (u.1 0) 24) : HInv (aAdmit u a b) := ⟨vin_succ hm (by decide) rfl, h.2.1, h.2.2⟩
theorem HInv.bring {u : HV} (h : HInv u) {a b : Int32} (hm : vp_in (u.1 3) 8) : HInv (aBring u a b) := ⟨h.1, vin_succ hm (by decide) rfl, h.2.2⟩
theorem HInv.fin {u : HV} (h : HInv u) {b s : Int32} : HInv (aFinish u b s) := (((h.row (by decide)).row (by decide)).row (by decide)).pend (by decide)
theorem HInv.ending {u : HV} (h : HInv u) {b : Int32} : HInv (aEnd u b) := by
  have h0 : HInv (aEnd0 u b) := (h.row (by decide)).row (by decide)
  have h1 : HInv (aEnd1 u b) := h0.row (by decide)
  unfold aEnd
  split
  · exact h0.fin
  · split
    · exact h1
    · exact h1.fin
theorem HInv.votef {u : HV} (h : HInv u) {b x : Int32} : HInv (aFor u b x) := (h.row (by decide)).row (by decide)
theorem HInv.votea {u : HV} (h : HInv u) {b x : Int32} : HInv (aAgainst u b x) := (h.row (by decide)).row (by decide)
theorem HInv.mov {u : HV} (h : HInv u) {b x c : Int32} (hp : vp_in (u.2.1 8 (cN b)) 4) : HInv (aMove u b x c) := by
  refine HInv.pend (((h.row (by omega)).row (by omega))) ?_
  rw [hset_n (by omega), hset_n (by omega)]
  exact vin_succ hp (by decide) rfl
theorem HInv.sec {u : HV} (h : HInv u) {b p x : Int32} : HInv (aSecond u b p x) := h.row (by omega)
theorem HInv.shift {u : HV} (h : HInv u) {b : Int32} : ∀ n, HInv (aShift u b n)
  | 0 => h
  | n + 1 => ((HInv.shift h n).row (by omega)).row (by omega)
theorem HInv.dec {u : HV} (h : HInv u) {b : Int32} (vb : vp_in b 8) (c : ¬ u.2.1 8 (cN b) = 0) : HInv (aDecide u b) := by
  unfold aDecide
  refine HInv.shift ?_ 3
  have hp := i_pred (h.2.2 _ (vin_lt vb)) c
  split
  · exact HInv.pend (HInv.scn (HInv.cl h) (by decide) (by decide)) hp
  · exact HInv.pend h hp
theorem HInv.hold {u : HV} (h : HInv u) {b n : Int32} : HInv (aHold u b n) := by
  unfold aHold
  split
  · exact h.row (by decide)
  · exact (h.row (by decide)).fin
theorem fDecide_ok2 {u : HV} {b : Int32} (h : ok0 (fDecide u b)) : ¬ u.2.1 8 (cN b) = 0 := (ok0_s (by decide) (ok0_s (by decide) (ok0_s (by decide) h).2).2).1
theorem ok0_0 {f : Int32} (h : f = 0) : ok0 f := by rw [h]; decide
/-! the commands of a text, carried out -/
def cFault (u : HV) (k a b c : Int32) : Int32 := if k = 109 then fAdmit u a b else if k = 101 then fComeIn u a else if k = 108 then fGoOut u a else if k = 113 then fQuorum a else if k = 98 then fBring u a b c else if k = 121 then fVote u a b else if k = 110 then fVote u a b else if k = 99 then fEnd u a else if k = 97 then fMove u a b c else if k = 115 then fSecond u a b c else if k = 100 then fDecide u a else fHold u a b c
def cDo (u : HV) (k a b c : Int32) : HV := if k = 109 then aAdmit u a b else if k = 101 then aComeIn u a else if k = 108 then aGoOut u a else if k = 113 then aQuorum u a else if k = 98 then aBring u b c else if k = 121 then aFor u a b else if k = 110 then aAgainst u a b else if k = 99 then aEnd u a else if k = 97 then aMove u a b c else if k = 115 then aSecond u a b c else if k = 100 then aDecide u a else aHold u b c
abbrev cF (u T : HV) : Int32 := cFault u (T.1 2) (T.2.1 2 0) (T.2.1 2 1) (T.2.1 2 2)
abbrev cD (u T : HV) : HV := cDo u (T.1 2) (T.2.1 2 0) (T.2.1 2 1) (T.2.1 2 2)
theorem HInv.doC {u : HV} (h : HInv u) {k a b c : Int32} (h0 : cFault u k a b c = 0) : HInv (cDo u k a b c) := by
  unfold cDo
  unfold cFault at h0
  split
  · rename_i e; rw [if_pos e] at h0; exact h.admt (fAdmit_ok h (ok0_0 h0))
  rename_i e; rw [if_neg e] at h0; clear e
  split
  · exact h.scn (by decide) (by decide)
  rename_i e; rw [if_neg e] at h0; clear e
  split
  · exact h.scn (by decide) (by decide)
  rename_i e; rw [if_neg e] at h0; clear e
  split
  · exact h.scn (by decide) (by decide)
  rename_i e; rw [if_neg e] at h0; clear e
  split
  · rename_i e; rw [if_pos e] at h0; exact h.bring (fBring_ok h (ok0_0 h0))
  rename_i e; rw [if_neg e] at h0; clear e
  split
  · exact h.votef
  rename_i e; rw [if_neg e] at h0; clear e
  split
  · exact h.votea
  rename_i e; rw [if_neg e] at h0; clear e
  split
  · exact h.ending
  rename_i e; rw [if_neg e] at h0; clear e
  split
  · rename_i e; rw [if_pos e] at h0; exact h.mov (fMove_ok h (ok0_0 h0)).2
  rename_i e; rw [if_neg e] at h0; clear e
  split
  · exact h.sec
  rename_i e; rw [if_neg e] at h0; clear e
  split
  · rename_i e; rw [if_pos e] at h0; exact h.dec (h.b (fDecide_ok (ok0_0 h0))) (fDecide_ok2 (ok0_0 h0))
  · exact h.hold
noncomputable def coS : Nat → Nat → HV → HV → Int32 × HV × HV
  | 0, _, u, T => (-1, u, T)
  | k + 1, j, u, T => @ite (Int32 × HV × HV) (cF u (tSign (tCmd T) 59) = 0) (Classical.propDecidable _) (coS k (j + 1) (cD u (tSign (tCmd T) 59)) (tSign (tCmd T) 59)) (nI j, u, tSign (tCmd T) 59)
theorem coS_y {k j : Nat} {u T : HV} (h : cF u (tSign (tCmd T) 59) = 0) : coS (k + 1) j u T = coS k (j + 1) (cD u (tSign (tCmd T) 59)) (tSign (tCmd T) 59) := @if_pos _ (Classical.propDecidable _) h _ _ _
theorem coS_n {k j : Nat} {u T : HV} (h : ¬ cF u (tSign (tCmd T) 59) = 0) : coS (k + 1) j u T = (nI j, u, tSign (tCmd T) 59) := @if_neg _ (Classical.propDecidable _) h _ _ _
theorem TInv.sgn {u : HV} (h : TInv u) {c : Int32} (hc : ¬ c = 0) : TInv (tSign u c) := by
  by_cases q : tNx u = c
  · rw [tSign_y q]; exact h.adv (by rw [q]; exact hc)
  · rw [tSign_n q]; exact h
theorem coS_inv : ∀ (k j : Nat) {u T : HV}, HInv u → TInv T → HInv (coS k j u T).2.1 ∧ TInv (coS k j u T).2.2
  | 0, _, _, _, h1, h2 => ⟨h1, h2⟩
  | k + 1, j, u, T, h1, h2 => by
    have h3 : TInv (tSign (tCmd T) 59) := h2.cmd.sgn (by decide)
    by_cases q : cF u (tSign (tCmd T) 59) = 0
    · rw [coS_y q]; exact coS_inv k (j + 1) (h1.doC q) h3
    · rw [coS_n q]; exact ⟨h1, h3⟩
theorem wH_wH {w : PV} {k : Nat} {u v : HV} : wH (wH w k u) k v = wH w k v := by
  unfold wH
  congr 1
  funext j
  by_cases e : j = k
  · rw [if_pos e, if_pos e]
  · show (if j = k then v else if j = k then u else w.1 j) = _
    rw [if_neg e, if_neg e, if_neg e]
theorem wH_0 {w : PV} : wH w 0 (w.1 0) = w := by
  unfold wH
  refine Prod.ext ?_ rfl
  funext j
  show (if j = 0 then w.1 0 else w.1 j) = w.1 j
  by_cases e : j = 0
  · rw [if_pos e, e]
  · rw [if_neg e]
abbrev wHT (w : PV) (u T : HV) : PV := wT (wH w 0 u) T
theorem wHT_T {w : PV} {u T V : HV} : wT (wHT w u T) V = wHT w u V := rfl
theorem wHT_H {w : PV} {u T v : HV} : wH (wHT w u T) 0 v = wHT w v T := congrArg (fun z => wT z T) (wH_wH (w := w) (k := 0) (u := u) (v := v))
theorem BRep.htT {Γ : Gm} {A : Nat → Nat} {w : PV} {M M' : Hp} {u T V : HV} (hB : BRep Γ A (wHT w u T) M) (hR : TRep Γ (tA A) V M') (hF : Fr (tA A) 3 M M') : BRep Γ A (wHT w u V) M' := by
  have h := BRep.tx hB hR hF
  rw [wHT_T] at h; exact h
theorem BRep.ht0 {Γ : Gm} {A : Nat → Nat} {w : PV} {M M' : Hp} {V : HV} (hB : BRep Γ A w M) (hR : TRep Γ (tA A) V M') (hF : Fr (tA A) 3 M M') : BRep Γ A (wHT w (w.1 0) V) M' := by
  have h := BRep.tx hB hR hF
  unfold wHT; rw [wH_0]; exact h
theorem BInv.ht {w : PV} (h : BInv w) {u T : HV} (hu : HInv u) (hT : TInv T) : BInv (wHT w u T) := by
  refine ⟨fun j hj => ?_, h.2.1, hT, h.2.2.2⟩
  show HInv (if j = 0 then u else w.1 j)
  by_cases e : j = 0
  · rw [if_pos e]; exact hu
  · rw [if_neg e]; exact h.1 j hj
theorem BRep.htD {Γ : Gm} {A : Nat → Nat} {w : PV} {M : Hp} {u T : HV} (h : BRep Γ A (wH (wHT w u T) 0 (cD ((wHT w u T).1 0) (wHT w u T).2.2.1)) M) : BRep Γ A (wHT w (cD u T) T) M := by
  have h2 : BRep Γ A (wH (wHT w u T) 0 (cD u T)) M := h
  rw [wHT_H] at h2
  exact h2
theorem co_leaf {Γ : Gm} {A : Nat → Nat} {w : PV} {M M' : Hp} (co : Int32 × HV × HV) {y : Int32} {u T : HV} (e : co = (y, u, T)) (hB : BRep Γ A (wHT w u T) M') (hF : Fr A 315 M M') : BMu Γ A (rI co.1, wHT w co.2.1 co.2.2) M (.inl (some (.int y))) M' := by
  subst e
  exact ⟨rfl, hB, hF⟩
theorem cF_ht {w : PV} {u T : HV} : cF ((wHT w u T).1 0) (wHT w u T).2.2.1 = cF u T := rfl
theorem cF_h0 {w : PV} {u T : HV} (h : cF u T = 0) : cF ((wHT w u T).1 0) (wHT w u T).2.2.1 = 0 := h
