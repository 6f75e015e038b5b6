noncomputable abbrev sRd (v : HV) : HV := hsc (mCmd v) 6 ((mCmd v).1 6 + 1)
noncomputable abbrev sSt (v : HV) : HV := mRunC (sRd v)
noncomputable def mLp : Nat → Nat → HV → Int32 × HV
  | 0, _, v => (1, v)
  | k + 1, j, v => if (sSt v).1 0 = 0 then mLp k (j + 1) (sSt v) else (0, hsc (sSt v) 8 (nI j))
abbrev rBeg (u : HV) : HV := hsc (hsc (cpR u 1 3) 3 1) 6 0
abbrev rEnd (v : HV) (t : Int32) : HV := hsc (hsc (hsc v 3 0) 5 0) 0 t
noncomputable def mRun (u : HV) : Res × HV :=
  if (mCC u).2.1 12 = 0 then
    (if (mLp (cN (mCC u).1) 0 (rBeg (mCC u).2)).1 = 0 then (rI 0, cpR (rEnd (mLp (cN (mCC u).1) 0 (rBeg (mCC u).2)).2 2) 3 1)
     else (rI (mCC u).1, mRem (rEnd (mLp (cN (mCC u).1) 0 (rBeg (mCC u).2)).2 0) 3 (cN (u.1 1))))
  else (rI 0, hsc (hsc (hsc (mCC u).2 7 ((mCC u).2.1 6)) 5 0) 0 1)
theorem Tx.sc {u v : HV} (h : Tx u v) {s : Nat} {x : Int32} (hs : s = 6 ∨ s = 12) : Tx u (hsc v s x) := ⟨fun k h6 h12 => by rw [hsc_n (by rcases hs with rfl | rfl <;> assumption)]; exact h.1 k h6 h12, h.2⟩
/-- reading a command leaves rows and the other scalars, but 9, 10, 11, 13 -/
def Ty (u v : HV) : Prop := (∀ s, s ≠ 6 → s ≠ 12 → s ≠ 9 → s ≠ 10 → s ≠ 11 → s ≠ 13 → v.1 s = u.1 s) ∧ v.2 = u.2
theorem Ty.rf {u : HV} : Ty u u := ⟨fun _ _ _ _ _ _ _ => rfl, rfl⟩
theorem Ty.tr {u v w : HV} (h : Ty u v) (h2 : Ty v w) : Ty u w := ⟨fun s a b c d e f => (h2.1 s a b c d e f).trans (h.1 s a b c d e f), h2.2.trans h.2⟩
theorem Tx.y {u v : HV} (h : Tx u v) : Ty u v := ⟨fun s a b _ _ _ _ => h.1 s a b, h.2⟩
theorem Ty.sc {u v : HV} (h : Ty u v) {s : Nat} {x : Int32} (hs : s = 6 ∨ s = 12 ∨ s = 9 ∨ s = 10 ∨ s = 11 ∨ s = 13) : Ty u (hsc v s x) := ⟨fun k a b c d e f => by rw [hsc_n (by rcases hs with rfl | rfl | rfl | rfl | rfl | rfl <;> assumption)]; exact h.1 k a b c d e f, h.2⟩
theorem Ty.oth1 {u : HV} : Ty u (mOth1 u) := ((Tx.rb (Or.inl rfl)).y).sc (by decide)
theorem Ty.other {u : HV} (x : Int32) : Ty u (mOther x u) := by
  unfold mOther
  split
  · exact Ty.oth1.tr ((Tx.rb (Or.inr rfl)).y.sc (by decide))
  split
  · exact Ty.oth1.tr ((Tx.rb (Or.inr rfl)).y.sc (by decide))
  split
  · exact (Ty.oth1.tr ((Tx.rdn (Or.inl rfl)).y.sc (by decide))).tr ((Tx.rb (Or.inr rfl)).y.sc (by decide))
  split
  · exact Ty.oth1
  split
  · exact Ty.oth1
  · exact Ty.oth1.tr ((Tx.rdn (Or.inl rfl)).y.sc (by decide))
theorem Ty.ar1 {u : HV} : Ty u (mAr1 u) := (Tx.rb (Or.inr rfl)).y.sc (by decide)
theorem Ty.ar3 {u : HV} {c1 d1 d2 c3 : Int32} (h1 : d1 = 1 ∨ d1 = 2) (h2 : d2 = 1 ∨ d2 = 2) : Ty u (mAr3 u c1 d1 d2 c3) :=
  ((((Tx.rb h1).y.sc (by decide)).tr ((Tx.rb h2).y.sc (by decide))).tr ((Tx.rb (Or.inr rfl)).y.sc (by decide)))
theorem Ty.arg {u : HV} (x : Int32) : Ty u (mArg x u) := by
  unfold mArg
  split
  · exact Ty.ar3 (Or.inl rfl) (Or.inr rfl)
  split
  · exact Ty.ar3 (Or.inr rfl) (Or.inr rfl)
  split
  · exact Ty.ar1
  split
  · exact Ty.ar1
  split
  · exact Ty.ar1
  split
  · exact Ty.ar3 (Or.inr rfl) (Or.inl rfl)
  · exact Ty.other x
theorem Ty.cmd {u : HV} : Ty u (mCmd u) := ((Ty.rf.sc (by decide)).tr (Tx.kw _).y).tr (Ty.arg _)
theorem Ty.cnt : ∀ (k : Nat) (c : Int32) {v : HV}, Ty v (mCnt k c v).2
  | 0, _, _ => Ty.rf
  | k + 1, c, v => by
    by_cases m : mMore v
    · rw [mCnt_y m]; exact ((Tx.must 59).y.tr Ty.cmd).tr (Ty.cnt k (c + 1))
    · rw [mCnt_n m]; exact Ty.rf
theorem Ty.cc {u : HV} : Ty u (mCC u).2 := ((Ty.rf.sc (by decide)).sc (by decide)).tr (Ty.cmd.tr (Ty.cnt 63 1))
theorem mCnt_le : ∀ (k c : Nat) {v : HV}, ∃ m, c ≤ m ∧ m ≤ c + k ∧ (mCnt k (nI c) v).1 = nI m
  | 0, c, _ => ⟨c, by omega, by omega, rfl⟩
  | k + 1, c, v => by
    by_cases m : mMore v
    · rw [mCnt_y m, nI_1]
      obtain ⟨m, h1, h2, h3⟩ := mCnt_le k (c + 1) (v := mCmd (mMust v 59))
      exact ⟨m, by omega, by omega, h3⟩
    · rw [mCnt_n m]; exact ⟨c, by omega, by omega, rfl⟩
theorem mCC_n {u : HV} : ∃ m, 1 ≤ m ∧ m ≤ 64 ∧ (mCC u).1 = nI m := by
  obtain ⟨m, h1, h2, h3⟩ := mCnt_le 63 1 (v := mCmd (cBeg u))
  exact ⟨m, h1, by omega, h3⟩
/-- what holds within a run -/
def WI (q : Nat) (K : Nat) (v : HV) : Prop := XInv q v ∧ RI v ∧ v.1 3 = 1 ∧ v.1 1 = nI K
theorem WI.rd {q K : Nat} {v : HV} (h : WI q K v) (hq : 60 ≤ q) (hq2 : q < 190) : WI (q + 1) K (sRd v) := by
  obtain ⟨h1, h2, h3, h4⟩ := h
  have hc := h1.cmd hq (by omega)
  have ty := Ty.cmd (u := v)
  refine ⟨?_, ?_, ?_, ?_⟩
  · obtain ⟨a1, ⟨p, hp, e⟩, a3, a4⟩ := hc
    exact ⟨a1, ⟨p + 1, by omega, by show (mCmd v).1 6 + 1 = _; rw [e, nI_1]⟩, a3, a4⟩
  · show RInv ((mCmd v).2.1 1)
    rw [ty.2]; exact h2
  · show (mCmd v).1 3 = 1
    rw [ty.1 3 (by decide) (by decide) (by decide) (by decide) (by decide) (by decide)]; exact h3
  · show (mCmd v).1 1 = nI K
    rw [ty.1 1 (by decide) (by decide) (by decide) (by decide) (by decide) (by decide)]; exact h4
theorem WI.k {q K : Nat} {v : HV} (h : WI q K v) (hK : K ≤ 8) : KInv v := ⟨K, hK, h.2.2.2⟩
theorem WI.t {q K : Nat} {v : HV} (h : WI q K v) : ¬ v.1 3 = 0 := by rw [h.2.2.1]; decide
theorem WI.kp {q K : Nat} {v w : HV} (h : WI q K v) (k : Kp v w) : WI q K w := by
  obtain ⟨h1, h2, h3, h4⟩ := h
  obtain ⟨k1, k2, k3⟩ := k
  refine ⟨?_, k3, by rw [k1 3 (by decide)]; exact h3, by rw [k1 1 (by decide)]; exact h4⟩
  obtain ⟨a1, a2, a3, a4⟩ := h1
  exact ⟨by rw [k1 5 (by decide)]; exact a1, by rw [k1 6 (by decide)]; exact a2, by rw [k2 14 (by decide)]; exact a3, by rw [k1 12 (by decide)]; exact a4⟩
theorem WI.st {q K : Nat} {v : HV} (h : WI q K v) (hq : 60 ≤ q) (hq2 : q < 190) : WI (q + 1) K (sSt v) := (h.rd hq hq2).kp (Kp.do_ (h.rd hq hq2).2.1 (h.rd hq hq2).t _ _ _ _)
