/-! ===== what the reference's changes keep ===== -/
theorem mG_ind {P : HV → Prop} {c : Prop} {n : Int32} {z : Option Value} {u : HV} {k : Res × HV} (h1 : P (hsc u 0 n)) (h2 : ¬ c → P k.2) : P (mG c n z u k).2 := by
  by_cases q : c
  · rw [mG_y q]; exact h1
  · rw [mG_n q]; exact h2 q
theorem RInv.p7 {r : Nat → Int32} (h : RInv r) {b : Nat} {v : Int32} (hv : ∃ p, p ≤ 4 ∧ v = nI p) : RInv (upd r (53 + 16 * b + 7) v) := by
  obtain ⟨h1, h2, h3⟩ := h
  refine ⟨?_, ?_, fun c hc => ?_⟩
  · rw [upd_n (by omega)]; exact h1
  · rw [upd_n (by omega)]; exact h2
  · by_cases e : c = b
    · subst e; rw [upd_s]; exact hv
    · rw [upd_n (by omega)]; exact h3 c hc
theorem RInv.lo {r : Nat → Int32} (h : RInv r) {j : Nat} {v : Int32} (h0 : j ≠ 0) (h1 : j ≠ 1) (hj : j < 53) : RInv (upd r j v) := by
  obtain ⟨a1, a2, a3⟩ := h
  refine ⟨?_, ?_, fun c hc => ?_⟩
  · rw [upd_n (Ne.symm h0)]; exact a1
  · rw [upd_n (Ne.symm h1)]; exact a2
  · rw [upd_n (by omega)]; exact a3 c hc
theorem RInv.m1 {r : Nat → Int32} (h : RInv r) (c : ¬ r 0 = 24) : RInv (upd r 0 (r 0 + 1)) := by
  obtain ⟨⟨B, hB, e⟩, a2, a3⟩ := h
  refine ⟨⟨B + 1, ?_, by rw [upd_s, e, nI_1]⟩, ?_, fun c hc => ?_⟩
  · have : ¬ B = 24 := fun z => c (by rw [e, z]; rfl)
    omega
  · rw [upd_n (by decide)]; exact a2
  · rw [upd_n (by omega)]; exact a3 c hc
theorem RInv.b1 {r : Nat → Int32} (h : RInv r) (c : ¬ r 1 = 8) : RInv (upd r 1 (r 1 + 1)) := by
  obtain ⟨a1, ⟨B, hB, e⟩, a3⟩ := h
  refine ⟨?_, ⟨B + 1, ?_, by rw [upd_s, e, nI_1]⟩, fun c hc => ?_⟩
  · rw [upd_n (by decide)]; exact a1
  · have : ¬ B = 8 := fun z => c (by rw [e, z]; rfl)
    omega
  · rw [upd_n (by omega)]; exact a3 c hc
abbrev RI (u : HV) : Prop := RInv (u.2.1 1)
theorem RI.put7 {u : HV} (h : RI u) {b : Nat} {v : Int32} (hv : ∃ p, p ≤ 4 ∧ v = nI p) : RI (rPut u b 7 v) := RInv.p7 h hv
theorem RI.put {u : HV} (h : RI u) {b k : Nat} {v : Int32} (hk : k < 16) (h7 : k ≠ 7) : RI (rPut u b k v) := RInv.put h hk h7
theorem RI.fin {u : HV} (h : RI u) {b : Nat} {s : Int32} : RI (mFin u b s) := (((h.put (by decide) (by decide)).put7 ⟨0, by decide, rfl⟩).put (by decide) (by decide)).put (by decide) (by decide)
theorem RI.tog {u : HV} (h : RI u) {b : Nat} {x : Int32} : RI (mTog u b x) := h.put (by split <;> decide) (by split <;> decide)
theorem RI.add {v : HV} (h : RI v) (c : ¬ v.2.1 1 0 = 24) {x y : Int32} : RI (sAdd v x y) := by
  have hB : nM v < 24 := by
    obtain ⟨⟨B, hB, e⟩, -⟩ := id h
    have : ¬ B = 24 := fun z => c (by rw [e, z]; rfl)
    show cN (v.2.1 1 0) < 24
    rw [e, cN_nI (by omega)]
    omega
  exact ((h.m1 c).lo (by omega) (by omega) (by omega)).lo (by omega) (by omega) (by omega)
theorem RI.clr {v : HV} (h : RI v) {b : Nat} : ∀ n, n ≤ 16 → RI (sClr v b n)
  | 0, _ => h
  | n + 1, hn => by
    have h1 := RI.clr h (b := b) n (by omega)
    by_cases e : n = 7
    · subst e; exact h1.put7 ⟨0, by decide, rfl⟩
    · exact h1.put (by omega) e
theorem RI.tgs {v : HV} (h : RI v) {b f : Nat} : ∀ n, RI (sTgs v b f n)
  | 0 => h
  | n + 1 => (RI.tgs h n).tog
theorem RI.brg {v : HV} (h : RI v) (c : ¬ v.2.1 1 1 = 8) {f la : Int32} : RI (sBrg v f la) := RI.tgs (RI.clr (h.b1 c) 16 (by decide)) _
theorem RI.vote {v : HV} (h : RI v) {b s o : Nat} {x : Int32} (hs : s < 7) (ho : o < 7) : RI (sVote v b x s o) := (h.put (by omega) (by omega)).put (by omega) (by omega)
theorem RI.cls {v : HV} (h : RI v) {b : Nat} : RI (sCls v b) := by
  unfold sCls
  split
  · exact (RI.put h (by decide) (by decide)).fin
  split
  · exact (RI.put h (by decide) (by decide)).fin
  · exact (RI.put h (by decide) (by decide)).fin
theorem RI.pn {v : HV} (h : RI v) {b : Nat} (hb : b < 8) : ∃ p, p ≤ 4 ∧ rB v b 7 = nI p := h.2.2 b hb
theorem RI.mov {v : HV} (h : RI v) {b : Nat} (hb : b < 8) (c : ¬ rB v b 7 = 4) {x y : Int32} : RI (sMov v b x y) := by
  obtain ⟨p, hp, e⟩ := h.pn hb
  have hp4 : p < 4 := by
    have : ¬ p = 4 := fun z => c (by rw [e, z]; rfl)
    omega
  have hk : cN (rB v b 7) = p := by rw [e, cN_nI (by omega)]
  unfold sMov
  rw [hk]
  exact ((h.put7 ⟨p + 1, by omega, by rw [e, nI_1]⟩).put (by omega) (by omega)).put (by omega) (by omega)
theorem RI.sec {v : HV} (h : RI v) {b p : Nat} (hp : p < 4) {x : Int32} : RI (sSec v b p x) := RI.put h (by omega) (by omega)
theorem RI.dec0 {v : HV} (h : RI v) {b : Nat} : RI (sDec0 v b) := (h.tog).lo (by decide) (by decide) (by decide)
theorem RI.shf {v : HV} (h : RI v) {b : Nat} : ∀ n, n ≤ 6 → RI (sShf v b n)
  | 0, _ => h
  | n + 1, hn => (RI.shf h n (by omega)).put (by omega) (by omega)
theorem RI.dec {v : HV} (h : RI v) {b : Nat} (hb : b < 8) (c : ¬ rB v b 7 = 0) : RI (sDec v b) := by
  obtain ⟨p, hp, e⟩ := h.pn hb
  have hp0 : ¬ p = 0 := fun z => c (by rw [e, z]; rfl)
  obtain ⟨q, rfl⟩ : ∃ q, p = q + 1 := ⟨p - 1, by omega⟩
  have e2 : rB v b 7 - 1 = nI q := by rw [e, nI_pred]
  have e3 : cN (rB v b 7 - 1) = q := by rw [e2, cN_nI (by omega)]
  unfold sDec
  rw [e3]
  split
  · exact RI.shf (h.put7 ⟨q, by omega, e2⟩) _ (by omega)
  · exact RI.shf (h.dec0.put7 ⟨q, by omega, by rw [sDec0_7 hb]; exact e2⟩) _ (by omega)
theorem RI.hol {v : HV} (h : RI v) {b : Nat} {n : Int32} : RI (sHol v b n) := by
  unfold sHol
  split
  · exact RI.put h (by decide) (by decide)
  · exact (RI.put h (by decide) (by decide)).fin
theorem RI.z {u : HV} (h : RI u) {s : Nat} {n : Int32} : RI (hsc u s n) := h
theorem RI.c {u : HV} (h : RI u) : RI (uC u) := RInv.chg h
/-- only row 1 differs -/
def O1 (u v : HV) : Prop := v.1 = u.1 ∧ ∀ i, i ≠ 1 → v.2.1 i = u.2.1 i
theorem O1.rf {u : HV} : O1 u u := ⟨rfl, fun _ _ => rfl⟩
theorem O1.set {u v : HV} (h : O1 u v) {j : Nat} {x : Int32} : O1 u (hset v 1 j x) := ⟨h.1, fun i hi => (hset_n hi).trans (h.2 i hi)⟩
theorem O1.fin {u v : HV} (h : O1 u v) {b : Nat} {s : Int32} : O1 u (mFin v b s) := h.set.set.set.set
theorem O1.tog {u v : HV} (h : O1 u v) {b : Nat} {s : Int32} : O1 u (mTog v b s) := h.set
theorem O1.clr {u v : HV} (h : O1 u v) {b : Nat} : ∀ n, O1 u (sClr v b n)
  | 0 => h
  | n + 1 => (O1.clr h n).set
theorem O1.tgs {u v : HV} (h : O1 u v) {b f : Nat} : ∀ n, O1 u (sTgs v b f n)
  | 0 => h
  | n + 1 => (O1.tgs h n).tog
theorem O1.shf {u v : HV} (h : O1 u v) {b : Nat} : ∀ n, O1 u (sShf v b n)
  | 0 => h
  | n + 1 => (O1.shf h n).set
theorem O1.cls {v : HV} {b : Nat} : O1 v (sCls v b) := by
  unfold sCls
  split
  · exact (O1.rf.set).fin
  split
  · exact (O1.rf.set).fin
  · exact (O1.rf.set).fin
theorem O1.dec {v : HV} {b : Nat} : O1 v (sDec v b) := by
  unfold sDec
  split
  · exact O1.shf (O1.rf.set) _
  · exact O1.shf ((O1.rf.tog.set).set) _
theorem O1.hol {v : HV} {b : Nat} {n : Int32} : O1 v (sHol v b n) := by
  unfold sHol
  split
  · exact O1.rf.set
  · exact O1.rf.set.fin
/-- a change within a text: nothing but 'thrown' and the present row; the row's invariant is kept -/
def Kp (u v : HV) : Prop := (∀ s, s ≠ 0 → v.1 s = u.1 s) ∧ (∀ i, i ≠ 1 → v.2.1 i = u.2.1 i) ∧ RI v
theorem Kp.z {u : HV} (h : RI u) {n : Int32} : Kp u (hsc u 0 n) := ⟨fun s hs => hsc_n hs, fun _ _ => rfl, h⟩
theorem uC_in {u : HV} (h : ¬ u.1 3 = 0) : uC u = hsc u 0 0 := by
  show (if (hsc u 0 0).1 3 = 0 then _ else hsc u 0 0) = _
  exact if_neg h
theorem Kp.o {u v : HV} (h : ¬ u.1 3 = 0) (ho : O1 (uC u) v) (hv : RI v) : Kp u v := by
  rw [uC_in h] at ho
  refine ⟨fun s hs => ?_, fun i hi => ho.2 i hi, hv⟩
  rw [ho.1]
  exact hsc_n hs
theorem uc_row {u : HV} {k : Nat} {x : Int32} (c : ¬ u.2.1 1 k = x) : ¬ (uC u).2.1 1 k = x := by rw [uC_now]; exact c
theorem or1n {p q : Prop} (h : ¬ (p ∨ q)) : ¬ p := fun z => h (Or.inl z)
theorem or2n {p q : Prop} (h : ¬ (p ∨ q)) : ¬ q := fun z => h (Or.inr z)
theorem RI.bl {u : HV} (h : RI u) {b : Int32} (c : ¬ ¬ isBl u b) : cN b < 8 := by
  obtain ⟨m, h1, h2, -⟩ := h.bil (Classical.not_not.mp c)
  omega
theorem Kp.addMember {u : HV} (h : RI u) (hT : ¬ u.1 3 = 0) {x y : Int32} : Kp u (mAddMember u x y).2 := by
  unfold mAddMember
  exact mG_ind (Kp.z h) fun _ => mG_ind (Kp.z h) fun _ => mG_ind (Kp.z h) fun c => Kp.o hT (O1.rf.set.set.set) (h.c.add (uc_row c))
theorem Kp.enter {u : HV} (h : RI u) (hT : ¬ u.1 3 = 0) {x : Int32} : Kp u (mEnter u x).2 := by
  unfold mEnter
  exact mG_ind (Kp.z h) fun _ => mG_ind (Kp.z h) fun _ => Kp.o hT O1.rf.set (h.c.lo (by decide) (by decide) (by decide))
theorem Kp.leave {u : HV} (h : RI u) (hT : ¬ u.1 3 = 0) {x : Int32} : Kp u (mLeave u x).2 := by
  unfold mLeave
  exact mG_ind (Kp.z h) fun _ => mG_ind (Kp.z h) fun _ => Kp.o hT O1.rf.set (h.c.lo (by decide) (by decide) (by decide))
theorem Kp.setQuorum {u : HV} (h : RI u) (hT : ¬ u.1 3 = 0) {x : Int32} : Kp u (mSetQuorum u x).2 := by
  unfold mSetQuorum
  exact mG_ind (Kp.z h) fun _ => Kp.o hT O1.rf.set (h.c.lo (by decide) (by decide) (by decide))
theorem Kp.introduce {u : HV} (h : RI u) (hT : ¬ u.1 3 = 0) {x f la : Int32} : Kp u (mIntroduce u x f la).2 := by
  unfold mIntroduce
  exact mG_ind (Kp.z h) fun _ => mG_ind (Kp.z h) fun _ => mG_ind (Kp.z h) fun c => mG_ind (Kp.z h) fun _ => Kp.o hT (O1.tgs (O1.clr O1.rf.set _) _) (h.c.brg (uc_row c))
theorem Kp.vote {u : HV} (h : RI u) (hT : ¬ u.1 3 = 0) {b x : Int32} {s o : Nat} (hs : s < 7) (ho : o < 7) : Kp u (mVote u b x s o).2 := by
  unfold mVote
  exact mG_ind (Kp.z h) fun _ => mG_ind (Kp.z h) fun _ => mG_ind (Kp.z h) fun _ => Kp.o hT O1.rf.set.set (h.c.vote hs ho)
theorem Kp.closeReading {u : HV} (h : RI u) (hT : ¬ u.1 3 = 0) {b : Int32} : Kp u (mCloseReading u b).2 := by
  unfold mCloseReading
  exact mG_ind (Kp.z h) fun _ => mG_ind (Kp.z h) fun _ => mG_ind (Kp.z h) fun _ => Kp.o hT O1.cls h.c.cls
theorem Kp.propose {u : HV} (h : RI u) (hT : ¬ u.1 3 = 0) {b x c : Int32} : Kp u (mPropose u b x c).2 := by
  unfold mPropose
  exact mG_ind (Kp.z h) fun c1 => mG_ind (Kp.z h) fun c2 => mG_ind (Kp.z h) fun _ => Kp.o hT O1.rf.set.set.set (h.c.mov (h.bl (or1n c1)) (uc_row (or2n c2)))
theorem Kp.support {u : HV} (h : RI u) (hT : ¬ u.1 3 = 0) {b p x : Int32} : Kp u (mSupport u b p x).2 := by
  unfold mSupport
  refine mG_ind (Kp.z h) fun c1 => mG_ind (Kp.z h) fun _ => mG_ind (Kp.z h) fun c3 => mG_ind (Kp.z h) fun _ => Kp.o hT O1.rf.set (h.c.sec ?_)
  obtain ⟨m, h1, h2, -⟩ := RInv.pos h (h.bl (or1n c1)) (Classical.not_not.mp c3)
  omega
theorem Kp.decide {u : HV} (h : RI u) (hT : ¬ u.1 3 = 0) {b : Int32} : Kp u (mDecide u b).2 := by
  unfold mDecide
  exact mG_ind (Kp.z h) fun c1 => mG_ind (Kp.z h) fun _ => mG_ind (Kp.z h) fun c3 => mG_ind (Kp.z h) fun _ => Kp.o hT O1.dec (h.c.dec (h.bl c1) (uc_row c3))
theorem Kp.ride {u : HV} (h : RI u) (hT : ¬ u.1 3 = 0) {x b n : Int32} : Kp u (mRide u x b n).2 := by
  unfold mRide
  exact mG_ind (Kp.z h) fun _ => mG_ind (Kp.z h) fun _ => mG_ind (Kp.z h) fun _ => mG_ind (Kp.z h) fun _ => Kp.o hT O1.hol h.c.hol
/-- the commands, by the character that picks them -/
noncomputable def mDo (u : HV) (k a b c : Int32) : HV :=
  if k = 97 then (mPropose u a b c).2 else if k = 98 then (mIntroduce u a b c).2 else if k = 99 then (mCloseReading u a).2 else if k = 100 then (mDecide u a).2
  else if k = 101 then (mEnter u a).2 else if k = 108 then (mLeave u a).2 else if k = 110 then (mVoteAgainst u a b).2 else if k = 113 then (mSetQuorum u a).2
  else if k = 114 then (mRide u a b c).2 else if k = 115 then (mSupport u a b c).2 else if k = 121 then (mVoteFor u a b).2 else (mAddMember u a b).2
theorem Kp.do_ {u : HV} (h : RI u) (hT : ¬ u.1 3 = 0) (k a b c : Int32) : Kp u (mDo u k a b c) := by
  unfold mDo
  split
  · exact Kp.propose h hT
  split
  · exact Kp.introduce h hT
  split
  · exact Kp.closeReading h hT
  split
  · exact Kp.decide h hT
  split
  · exact Kp.enter h hT
  split
  · exact Kp.leave h hT
  split
  · exact Kp.vote h hT (by decide) (by decide)
  split
  · exact Kp.setQuorum h hT
  split
  · exact Kp.ride h hT
  split
  · exact Kp.support h hT
  split
  · exact Kp.vote h hT (by decide) (by decide)
  · exact Kp.addMember h hT
noncomputable abbrev mRunC (u : HV) : HV := mDo u (u.1 13) (u.1 9) (u.1 10) (u.1 11)
