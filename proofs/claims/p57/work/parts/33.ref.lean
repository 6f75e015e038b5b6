def mByt : List (List Int32) := [[109, 101, 109, 98, 101, 114, 32, 68, 68], [101, 110, 116, 101, 114, 32, 78], [108, 101, 97, 118, 101, 32, 78], [113, 117, 111, 114, 117, 109, 32, 78], [98, 105, 108, 108, 32, 78, 32, 78, 45, 78], [121, 101, 115, 32, 68, 32, 78], [110, 111, 32, 68, 32, 78], [99, 108, 111, 115, 101, 32, 68], [97, 109, 101, 110, 100, 32, 68, 32, 78, 32, 78], [115, 117, 112, 112, 111, 114, 116, 32, 68, 68, 32, 78], [100, 101, 99, 105, 100, 101, 32, 68], [114, 105, 100, 101, 32, 78, 32, 68, 32, 78], [], [101, 110, 116, 101, 114], [108, 101, 97, 118, 101], [113, 117, 111, 114, 117, 109], [98, 105, 108, 108], [121, 101, 115], [110, 111], [99, 108, 111, 115, 101], [97, 109, 101, 110, 100], [115, 117, 112, 112, 111, 114, 116], [100, 101, 99, 105, 100, 101], [114, 105, 100, 101], [109, 101, 109, 98, 101, 114]]
abbrev btw (v lo hi : Int32) : Prop := lo ≤ v ∧ v ≤ hi
abbrev rB (r : HV) (b k : Nat) : Int32 := r.2.1 1 (53 + 16 * b + k)
abbrev rM (r : HV) (m k : Nat) : Int32 := r.2.1 1 (5 + 2 * m + k)
def rSum (r : HV) (s : Int32) : Nat → Int32
  | 0 => 0
  | n + 1 => if shr s (nI n) &&& 1 = 1 then rSum r s n + rM r n 1 else rSum r s n + 0

def RInv (r : Nat → Int32) : Prop := (∃ B, B ≤ 24 ∧ r 0 = nI B) ∧ (∃ B, B ≤ 8 ∧ r 1 = nI B) ∧ ∀ b, b < 8 → ∃ p, p ≤ 4 ∧ r (53 + 16 * b + 7) = nI p
def rWard (r : HV) (x : Int32) : Nat → Int32
  | 0 => 0
  | n + 1 => if (shr (r.2.1 1 2) (nI n) &&& 1 = 1) ∧ rM r n 0 = x then rWard r x n + rM r n 1 else rWard r x n + 0
def rCnt (r : HV) (x : Int32) : Nat → Int32
  | 0 => 0
  | n + 1 => if rB r n 0 = x then rCnt r x n + 1 else rCnt r x n + 0
def cpN (s d : Nat → Int32) (n : Nat) : Nat → Int32 := fun k => if k < n then s k else d k
def cpR (u : HV) (i j : Nat) : HV := har u j (cpN (u.2.1 i) (u.2.1 j) 181)
def mSh (u : HV) : Nat → HV
  | 0 => hsc u 1 7
  | n + 1 => cpR (mSh u n) (5 + (n + 1)) (5 + n)
def mRem (u : HV) (i K : Nat) : HV := if K = 8 then hsc (cpR (mSh u 7) i 12) 1 8 else hsc (cpR u i (5 + K)) 1 (nI (K + 1))
noncomputable def mG (c : Prop) (n : Int32) (z : Option Value) (u : HV) (k : Res × HV) : Res × HV := @ite _ c (Classical.propDecidable _) (.inl z, hsc u 0 n) k
theorem mG_y {c : Prop} {n : Int32} {z : Option Value} {u : HV} {k : Res × HV} (h : c) : mG c n z u k = (.inl z, hsc u 0 n) := @if_pos _ (Classical.propDecidable _) h _ _ _
theorem mG_n {c : Prop} {n : Int32} {z : Option Value} {u : HV} {k : Res × HV} (h : ¬ c) : mG c n z u k = k := @if_neg _ (Classical.propDecidable _) h _ _ _
abbrev rPut (u : HV) (b k : Nat) (v : Int32) : HV := hset u 1 (53 + 16 * b + k) v
abbrev isM (u : HV) (x : Int32) : Prop := btw x 0 (u.2.1 1 0 - 1)
abbrev isBl (u : HV) (x : Int32) : Prop := btw x 0 (u.2.1 1 1 - 1)
abbrev prs (u : HV) (x : Int32) : Prop := shr (u.2.1 1 2) x &&& 1 = 1
abbrev quo (u : HV) : Prop := u.2.1 1 3 ≤ jbc (u.2.1 1 2)
abbrev rWt (u : HV) (x : Int32) : Int32 := rSum u x (cN (u.2.1 1 0))
abbrev zI : Option Value := some (.int 0)
/-- numbers below a count -/
theorem btw_nat {x : Int32} {B : Nat} (hB : B < 2 ^ 31) (h : btw x 0 (nI B - 1)) : ∃ m : Nat, m < B ∧ cN x = m ∧ x = nI m := by
  obtain ⟨h1, h2⟩ := h
  have e0 : (0 : Int32).toInt = 0 := rfl
  have e1 : (1 : Int32).toInt = 1 := rfl
  have eB : (nI B).toInt = B := nI_toInt hB
  have h3 : (nI B - 1).toInt = (B : Int) - 1 := by
    rw [Int32.toInt_sub, e1, eB]
    exact Int.bmod_eq_of_le (by omega) (by omega)
  have h4 := Int32.le_iff_toInt_le.mp h1
  have h5 := Int32.le_iff_toInt_le.mp h2
  rw [h3] at h5
  rw [e0] at h4
  have e : x = nI x.toInt.toNat := by
    apply Int32.toInt_inj.mp
    rw [nI_toInt (by omega)]
    omega
  exact ⟨x.toInt.toNat, by omega, by rw [e, cN_nI (by omega), ← e], e⟩
theorem RInv.put {r : Nat → Int32} (h : RInv r) {b k : Nat} {v : Int32} (hk : k < 16) (h7 : k ≠ 7) : RInv (upd r (53 + 16 * b + k) v) := by
  obtain ⟨h1, h2, h3⟩ := h
  refine ⟨?_, ?_, fun c hc => ?_⟩
  · rw [upd_n (by omega)]; exact h1
  · rw [upd_n (by omega)]; exact h2
  · rw [upd_n (by omega)]; exact h3 c hc
theorem RInv.mem {r : Nat → Int32} (h : RInv r) {x : Int32} (c : btw x 0 (r 0 - 1)) : ∃ m : Nat, m < 24 ∧ cN x = m ∧ x = nI m := by
  obtain ⟨B, hB, e⟩ := h.1
  rw [e] at c
  obtain ⟨m, h1, h2⟩ := btw_nat (by omega) c
  exact ⟨m, by omega, h2⟩
theorem RInv.bil {r : Nat → Int32} (h : RInv r) {x : Int32} (c : btw x 0 (r 1 - 1)) : ∃ m : Nat, m < 8 ∧ cN x = m ∧ x = nI m := by
  obtain ⟨B, hB, e⟩ := h.2.1
  rw [e] at c
  obtain ⟨m, h1, h2⟩ := btw_nat (by omega) c
  exact ⟨m, by omega, h2⟩
theorem RInv.pos {r : Nat → Int32} (h : RInv r) {b : Nat} (hb : b < 8) {x : Int32} (c : btw x 0 (r (53 + 16 * b + 7) - 1)) : ∃ m : Nat, m < 4 ∧ cN x = m ∧ x = nI m := by
  obtain ⟨B, hB, e⟩ := h.2.2 b hb
  rw [e] at c
  obtain ⟨m, h1, h2⟩ := btw_nat (by omega) c
  exact ⟨m, by omega, h2⟩
theorem hset_mn {u : HV} {i j k : Nat} {v : Int32} (h : k ≠ j) : (hset u i j v).2.1 i k = u.2.1 i k := by rw [hset_s, upd_n h]
theorem cpR_n {u : HV} {i j k : Nat} (h : k ≠ j) : (cpR u i j).2.1 k = u.2.1 k := har_n h
theorem mSh_now {u : HV} : ∀ n, n ≤ 8 → (mSh u n).2.1 1 = u.2.1 1
  | 0, _ => rfl
  | n + 1, h => by
    show (cpR (mSh u n) (5 + (n + 1)) (5 + n)).2.1 1 = _
    rw [cpR_n (by omega), mSh_now n (by omega)]
def mChg (u : HV) : HV := if u.1 3 = 0 then mRem u 1 (cN (u.1 1)) else u
theorem mRem_now {u : HV} {i K : Nat} : (mRem u i K).2.1 1 = u.2.1 1 := by
  unfold mRem
  split
  · show (cpR (mSh u 7) i 12).2.1 1 = _
    rw [cpR_n (by decide), mSh_now 7 (by decide)]
  · show (cpR u i (5 + K)).2.1 1 = _
    rw [cpR_n (by omega)]
theorem mChg_now {u : HV} : (mChg u).2.1 1 = u.2.1 1 := by
  unfold mChg
  split
  · exact mRem_now
  · rfl
abbrev u0 (u : HV) : HV := hsc u 0 0
abbrev uC (u : HV) : HV := mChg (hsc u 0 0)
theorem uC_now {u : HV} : (uC u).2.1 1 = u.2.1 1 := mChg_now
def KInv (u : HV) : Prop := ∃ K : Nat, K ≤ 8 ∧ u.1 1 = nI K
def mFin (u : HV) (b : Nat) (s : Int32) : HV := rPut (rPut (rPut (rPut u b 0 s) b 7 0) b 5 0) b 6 0
def mTog (u : HV) (b : Nat) (c : Int32) : HV := rPut u b (if 32 ≤ c then 2 else 1) (rB u b (if 32 ≤ c then 2 else 1) ^^^ shl 1 (irm c 32))
def rHas (u : HV) (b : Nat) (c : Int32) : Prop := ush (rB u b (if 32 ≤ c then 2 else 1)) (irm c 32) &&& 1 = 1
def rMore (u : HV) (x y : Nat) : Int32 := rB u x 3 - rB u y 3
def rLess (u : HV) (x y : Nat) : Int32 := rB u y 4 / 60 - rB u x 4 / 60
def rAhd (u : HV) (x y : Nat) : Prop := if rMore u x y = 0 then (if rLess u x y = 0 then nI x < nI y else ¬ rLess u x y ≤ 0) else ¬ rMore u x y ≤ 0

theorem RInv.chg {u : HV} (h : RInv (u.2.1 1)) : RInv ((mChg u).2.1 1) := by
  rw [mChg_now]
  exact h
abbrev rWd (u : HV) (x : Int32) : Int32 := rWard u x (cN (u.2.1 1 0))
def rS1 (u : HV) : Int32 := if rWd u 1 ≤ rWd u 0 then 0 else 1
def rS2 (u : HV) : Int32 := if rWd u 2 ≤ rWd u (rS1 u) then rS1 u else 2
def rS3 (u : HV) : Int32 := if rWd u 3 ≤ rWd u (rS2 u) then rS2 u else 3
abbrev rCl (u : HV) (b : Nat) : Int64 := lsl (i2l (rB u b 2)) 32 ||| i2l (rB u b 1) &&& 4294967295
noncomputable def mMemberCount (u : HV) : Res × HV := (rI (u.2.1 1 0), u0 u)
noncomputable def mPresentMask (u : HV) : Res × HV := (rI (u.2.1 1 2), u0 u)
noncomputable def mQuorum (u : HV) : Res × HV := (rI (u.2.1 1 3), u0 u)
noncomputable def mBillCount (u : HV) : Res × HV := (rI (u.2.1 1 1), u0 u)
noncomputable def mAcceptedCount (u : HV) : Res × HV := (rI (u.2.1 1 4), u0 u)
noncomputable def mIsQuorate (u : HV) : Res × HV := (rI (bI (quo u)), u0 u)
noncomputable def mPassedCount (u : HV) : Res × HV := (rI (rCnt (u0 u) 1 (cN (u.2.1 1 1))), u0 u)
noncomputable def mFallenCount (u : HV) : Res × HV := (rI (rCnt (u0 u) 2 (cN (u.2.1 1 1))), u0 u)
noncomputable def mIsConsistent (u : HV) : Res × HV := (rI 1, u0 u)
noncomputable def mWardOf (u : HV) (x : Int32) : Res × HV := mG (¬ isM u x) 1 zI u (rI (rM u (cN x) 0), u0 u)
noncomputable def mWeightOf (u : HV) (x : Int32) : Res × HV := mG (¬ isM u x) 1 zI u (rI (rM u (cN x) 1), u0 u)
noncomputable def mIsPresent (u : HV) (x : Int32) : Res × HV := mG (¬ isM u x) 1 zI u (rI (bI (prs u x)), u0 u)
noncomputable def mWardWeight (u : HV) (x : Int32) : Res × HV := mG (¬ btw x 0 3) 1 zI u (rI (rWd (u0 u) x), u0 u)
noncomputable def mIsOpen (u : HV) (b : Int32) : Res × HV := mG (¬ isBl u b) 1 zI u (rI (bI (rB u (cN b) 0 = 0)), u0 u)
noncomputable def mIsPassed (u : HV) (b : Int32) : Res × HV := mG (¬ isBl u b) 1 zI u (rI (bI (rB u (cN b) 0 = 1)), u0 u)
noncomputable def mReadings (u : HV) (b : Int32) : Res × HV := mG (¬ isBl u b) 1 zI u (rI (rB u (cN b) 3), u0 u)
noncomputable def mClauses (u : HV) (b : Int32) : Res × HV := mG (¬ isBl u b) 1 (some (.long 0)) u ((.inl (some (.long (rCl u (cN b)))) : Res), u0 u)
noncomputable def mClauseCount (u : HV) (b : Int32) : Res × HV := mG (¬ isBl u b) 1 zI u (rI (jbc (rB u (cN b) 1) + jbc (rB u (cN b) 2)), u0 u)
noncomputable def mWeightFor (u : HV) (b : Int32) : Res × HV := mG (¬ isBl u b) 1 zI u (rI (rWt (u0 u) (rB u (cN b) 5)), u0 u)
noncomputable def mWeightAgainst (u : HV) (b : Int32) : Res × HV := mG (¬ isBl u b) 1 zI u (rI (rWt (u0 u) (rB u (cN b) 6)), u0 u)
noncomputable def mPendingCount (u : HV) (b : Int32) : Res × HV := mG (¬ isBl u b) 1 zI u (rI (rB u (cN b) 7), u0 u)
noncomputable def mDelay (u : HV) (b : Int32) : Res × HV := mG (¬ isBl u b) 1 zI u (rI (rB u (cN b) 4), u0 u)
noncomputable def mRust (u : HV) (b : Int32) : Res × HV := mG (¬ isBl u b) 1 zI u (rI (rB u (cN b) 4 / 60), u0 u)
/-- an int is answered -/
def ansI (x : Res × HV) : Prop := ∃ y : Int32, x.1 = rI y
theorem ansI.g {c : Prop} {n : Int32} {u : HV} {k : Res × HV} (h : ansI k) : ansI (mG c n zI u k) := by
  by_cases q : c
  · rw [mG_y q]; exact ⟨0, rfl⟩
  · rw [mG_n q]; exact h
theorem ansI.nx {x : Res × HV} (h : ansI x) {E : String} : ¬ (Sum.inr E : Res) = x.1 := by
  obtain ⟨y, e⟩ := h
  rw [e]
  exact fun q => by cases q
noncomputable def mWeightForByDigits (u : HV) (b : Int32) : Res × HV := mWeightFor u b
noncomputable def mAmendedClause (u : HV) (b : Int32) (p : Int32) : Res × HV := mG (¬ isBl u b) 1 zI u (mG (¬ btw p 0 (rB u (cN b) 7 - 1)) 2 zI u (rI (rB u (cN b) (8 + 2 * cN p)), u0 u))
noncomputable def mSupportWeight (u : HV) (b : Int32) (p : Int32) : Res × HV := mG (¬ isBl u b) 1 zI u (mG (¬ btw p 0 (rB u (cN b) 7 - 1)) 2 zI u (rI (rWt (u0 u) (rB u (cN b) (8 + 2 * cN p + 1))), u0 u))
noncomputable def mRidesUntilFall (u : HV) (b : Int32) (n : Int32) : Res × HV := mG (¬ isBl u b) 1 zI u (mG (¬ btw n 1 30) 2 zI u (mG (¬ rB u (cN b) 0 = 0) 3 zI u (rI ((180 - rB u (cN b) 4 + n - 1) / n), u0 u)))
noncomputable def mErrorPosition (u : HV) : Res × HV := mG (¬ 0 ≤ u.1 7) 1 zI u (rI (u.1 7), u0 u)
noncomputable def mFailedCommand (u : HV) : Res × HV := mG (¬ 0 ≤ u.1 8) 1 zI u (rI (u.1 8), u0 u)
noncomputable def mStrongestWard (u : HV) : Res × HV := (rI (rS3 (u0 u)), u0 u)
noncomputable def rLen (u : HV) (b : Nat) : Nat → Int32
  | 0 => 0
  | n + 1 => @ite Int32 (rHas u b (nI n)) (Classical.propDecidable _) (rLen u b n + 1) 0
noncomputable def rMax (u : HV) (b : Nat) : Nat → Int32
  | 0 => 0
  | n + 1 => if rLen u b (n + 1) ≤ rMax u b n then rMax u b n else rLen u b (n + 1)
noncomputable def rRank (u : HV) (b : Nat) : Nat → Int32
  | 0 => 0
  | n + 1 => @ite Int32 (rAhd u n b) (Classical.propDecidable _) (rRank u b n + 1) (rRank u b n + 0)
noncomputable def rBar (u : HV) (r : Int32) (B : Nat) : Nat → Int32
  | 0 => -1
  | n + 1 => if rRank u n B = r then nI n else rBar u r B n
def rAll (u : HV) (b : Nat) : Int32 := rWt (u0 u) (rB u b 5 ||| rB u b 6)
def rShX (u : HV) (b : Nat) : UInt32 := FP.fdiv (FP.i2f (rWt (u0 u) (rB u b 5))) (FP.i2f (rAll u b))
def rMwX (u : HV) : UInt64 := FP.ddiv (FP.i2d (rWt (u0 u) (-1))) (FP.i2d (u.2.1 1 0))
noncomputable def mLongestRun (u : HV) (b : Int32) : Res × HV := mG (¬ isBl u b) 1 zI u (rI (rMax (u0 u) (cN b) 64), u0 u)
noncomputable def mLongestRunByShift (u : HV) (b : Int32) : Res × HV := mLongestRun u b
noncomputable def mBillAtRank (u : HV) (r : Int32) : Res × HV := mG (¬ 0 ≤ rBar u r (cN (u.2.1 1 1)) (cN (u.2.1 1 1))) 1 zI u (rI (rBar u r (cN (u.2.1 1 1)) (cN (u.2.1 1 1))), u0 u)
noncomputable def mMeanWeight (u : HV) : Res × HV := mG (u.2.1 1 0 = 0) 1 (some (.double FP.dconst0)) u ((.inl (some (.double (rMwX u))) : Res), u0 u)
noncomputable def mShareBits (u : HV) (b : Int32) : Res × HV := mG (¬ isBl u b) 1 zI u (mG (rAll u (cN b) = 0) 2 zI u (rI ((rShX u (cN b)).toInt32), u0 u))
noncomputable def mLineAt (u : HV) (x : Int32) : Res × HV := mG (¬ btw x 0 (u.1 4 - 1)) 1 (some (.int 32)) u (rI (u.2.1 13 (cN x)), u0 u)
abbrev nM (v : HV) : Nat := cN (v.2.1 1 0)
def sAdd (v : HV) (x y : Int32) : HV := hset (hset (hset v 1 0 (v.2.1 1 0 + 1)) 1 (5 + 2 * nM v + 0) x) 1 (5 + 2 * nM v + 1) y
def sIn (v : HV) (x : Int32) : HV := hset v 1 2 (v.2.1 1 2 ||| shl 1 x)
def sOut (v : HV) (x : Int32) : HV := hset v 1 2 (v.2.1 1 2 &&& (shl 1 x ^^^ (-1)))
def sClr (v : HV) (b : Nat) : Nat → HV
  | 0 => v
  | n + 1 => rPut (sClr v b n) b n 0
def sTgs (v : HV) (b f : Nat) : Nat → HV
  | 0 => v
  | n + 1 => mTog (sTgs v b f n) b (nI (f + n))
def sBrg (v : HV) (f la : Int32) : HV := sTgs (sClr (hset v 1 1 (v.2.1 1 1 + 1)) (cN (v.2.1 1 1)) 16) (cN (v.2.1 1 1)) (cN f) (cN la + 1 - cN f)
def sVote (v : HV) (b : Nat) (x : Int32) (s o : Nat) : HV := rPut (rPut v b s (rB v b s ||| shl 1 x)) b o (rB (rPut v b s (rB v b s ||| shl 1 x)) b o &&& (shl 1 x ^^^ (-1)))
abbrev rSuc (v : HV) (b : Nat) : Prop := ¬ rWt v (rB v b 5) ≤ rWt v (rB v b 6)
def sCls1 (v : HV) (b : Nat) : HV := rPut v b 3 (rB v b 3 + 1)
def sCls0 (v : HV) (b : Nat) : HV := rPut v b 3 (rB v b 3 + 0)
def sCls (v : HV) (b : Nat) : HV := if rWt v (rB v b 5) ≤ rWt v (rB v b 6) then mFin (sCls0 v b) b 2 else if rB (sCls1 v b) b 3 = 3 then mFin (sCls1 v b) b 1 else mFin (sCls1 v b) b 0
def sMov (v : HV) (b : Nat) (x c : Int32) : HV := rPut (rPut (rPut v b 7 (rB v b 7 + 1)) b (8 + 2 * cN (rB v b 7)) c) b (8 + 2 * cN (rB v b 7) + 1) (shl 1 x)
def sSec (v : HV) (b p : Nat) (x : Int32) : HV := rPut v b (8 + 2 * p + 1) (rB v b (8 + 2 * p + 1) ||| shl 1 x)
abbrev rAcc (v : HV) (b : Nat) : Prop := ¬ 2 * rWt v (rB v b 9) ≤ rWt v (v.2.1 1 2)
def sDec0 (v : HV) (b : Nat) : HV := hset (mTog v b (rB v b 8)) 1 4 ((mTog v b (rB v b 8)).2.1 1 4 + 1)
def sDec1 (v : HV) (b : Nat) : HV := rPut v b 7 (rB v b 7 - 1)
def sShf (v : HV) (b : Nat) : Nat → HV
  | 0 => v
  | n + 1 => rPut (sShf v b n) b (8 + n) (rB (sShf v b n) b (8 + n + 2))
def sDec (v : HV) (b : Nat) : HV := if 2 * rWt v (rB v b 9) ≤ rWt v (v.2.1 1 2) then sShf (sDec1 v b) b (2 * cN (rB v b 7 - 1)) else sShf (sDec1 (sDec0 v b) b) b (2 * cN (rB v b 7 - 1))
def sHol0 (v : HV) (b : Nat) (n : Int32) : HV := rPut v b 4 (rB v b 4 + n)
def sHol (v : HV) (b : Nat) (n : Int32) : HV := if rB (sHol0 v b n) b 4 / 60 < 3 then sHol0 v b n else mFin (sHol0 v b n) b 2
theorem sDec0_7 {v : HV} {b : Nat} (hb : b < 8) : rB (sDec0 v b) b 7 = rB v b 7 := by
  unfold sDec0 mTog
  show (hset _ 1 4 _).2.1 1 (53 + 16 * b + 7) = _
  rw [hset_mn (by omega)]
  show (hset v 1 _ _).2.1 1 (53 + 16 * b + 7) = _
  rw [hset_mn (by split <;> omega)]
theorem RInv.tog {u : HV} (h : RInv (u.2.1 1)) {b : Nat} {x : Int32} : RInv ((mTog u b x).2.1 1) := h.put (by split <;> omega) (by split <;> omega)
noncomputable def mAddMember (u : HV) (x : Int32) (y : Int32) : Res × HV := mG (¬ btw x 0 3) 1 zI u (mG (¬ btw y 1 7) 2 zI u (mG (u.2.1 1 0 = 24) 3 zI u ((rI ((uC u).2.1 1 0), sAdd (uC u) x y))))
noncomputable def mEnter (u : HV) (x : Int32) : Res × HV := mG (¬ isM u x) 1 zI u (mG (prs u x) 2 zI u ((rI (jbc ((sIn (uC u) x).2.1 1 2)), sIn (uC u) x)))
noncomputable def mLeave (u : HV) (x : Int32) : Res × HV := mG (¬ isM u x) 1 zI u (mG (¬ prs u x) 2 zI u ((rI (jbc ((sOut (uC u) x).2.1 1 2)), sOut (uC u) x)))
noncomputable def mSetQuorum (u : HV) (n : Int32) : Res × HV := mG (¬ btw n 1 24) 1 zI u ((rI ((uC u).2.1 1 3), hset (uC u) 1 3 n))
noncomputable def mIntroduce (u : HV) (x : Int32) (f : Int32) (la : Int32) : Res × HV := mG (¬ isM u x ∨ ¬ btw f 0 63 ∨ ¬ btw la 0 63) 1 zI u (mG (¬ f ≤ la) 2 zI u (mG (u.2.1 1 1 = 8) 3 zI u (mG (¬ prs u x) 4 zI u ((rI ((uC u).2.1 1 1), sBrg (uC u) f la)))))
noncomputable def mVote (u : HV) (b x : Int32) (s o : Nat) : Res × HV := mG (¬ isBl u b ∨ ¬ isM u x) 1 zI u (mG (¬ rB u (cN b) 0 = 0) 2 zI u (mG (¬ prs u x) 3 zI u ((rI (rWt (sVote (uC u) (cN b) x s o) (rB (sVote (uC u) (cN b) x s o) (cN b) s)), sVote (uC u) (cN b) x s o))))
noncomputable def mVoteFor (u : HV) (b : Int32) (x : Int32) : Res × HV := mVote u b x 5 6
noncomputable def mVoteAgainst (u : HV) (b : Int32) (x : Int32) : Res × HV := mVote u b x 6 5
noncomputable def mCloseReading (u : HV) (b : Int32) : Res × HV := mG (¬ isBl u b) 1 zI u (mG (¬ rB u (cN b) 0 = 0) 2 zI u (mG (¬ quo u ∨ ¬ rB u (cN b) 7 ≤ 0) 3 zI u ((rI (bI (rSuc (uC u) (cN b))), sCls (uC u) (cN b)))))
noncomputable def mPropose (u : HV) (b : Int32) (x : Int32) (c : Int32) : Res × HV := mG (¬ isBl u b ∨ ¬ isM u x ∨ ¬ btw c 0 63) 1 zI u (mG (¬ rB u (cN b) 0 = 0 ∨ rB u (cN b) 7 = 4) 2 zI u (mG (¬ prs u x) 3 zI u ((rI (rB (uC u) (cN b) 7), sMov (uC u) (cN b) x c))))
noncomputable def mSupport (u : HV) (b : Int32) (p : Int32) (x : Int32) : Res × HV := mG (¬ isBl u b ∨ ¬ isM u x) 1 zI u (mG (¬ rB u (cN b) 0 = 0) 2 zI u (mG (¬ btw p 0 (rB u (cN b) 7 - 1)) 3 zI u (mG (¬ prs u x) 4 zI u ((rI (rWt (sSec (uC u) (cN b) (cN p) x) (rB (sSec (uC u) (cN b) (cN p) x) (cN b) (8 + 2 * cN p + 1))), sSec (uC u) (cN b) (cN p) x)))))
noncomputable def mDecide (u : HV) (b : Int32) : Res × HV := mG (¬ isBl u b) 1 zI u (mG (¬ rB u (cN b) 0 = 0) 2 zI u (mG (rB u (cN b) 7 = 0) 3 zI u (mG (¬ quo u) 4 zI u ((rI (bI (rAcc (uC u) (cN b))), sDec (uC u) (cN b))))))
noncomputable def mRide (u : HV) (x : Int32) (b : Int32) (n : Int32) : Res × HV := mG (¬ isBl u b ∨ ¬ isM u x) 1 zI u (mG (¬ btw n 1 30) 2 zI u (mG (¬ rB u (cN b) 0 = 0) 3 zI u (mG (¬ prs u x) 4 zI u ((rI (rB (sHol (uC u) (cN b) n) (cN b) 4 / 60), sHol (uC u) (cN b) n)))))
def mWr (u : HV) (c : Int32) : HV := hsc (hset u 13 (cN (u.1 4)) c) 4 (u.1 4 + 1)
def WB (k : Nat) (u : HV) : Prop := ∃ W : Nat, W ≤ k ∧ u.1 4 = nI W
theorem WB.mono {k n : Nat} {u : HV} (h : WB k u) (hk : k ≤ n) : WB n u := by
  obtain ⟨W, h1, h2⟩ := h
  exact ⟨W, by omega, h2⟩
theorem WB.wr {k : Nat} {u : HV} {c : Int32} (h : WB k u) : WB (k + 1) (mWr u c) := by
  obtain ⟨W, h1, h2⟩ := h
  exact ⟨W + 1, by omega, by show u.1 4 + 1 = _; rw [h2, nI_1]⟩
theorem WB.ix {u : HV} (h : WB 39 u) : vp_in (u.1 4) 40 := by
  obtain ⟨W, h1, h2⟩ := h
  rw [h2]
  exact vp_in_nI (by omega) (by decide)
abbrev dg (v : Int32) : Int32 := i2cc (48 + irm v 10)
def mNum : Nat → HV → Int32 → HV
  | 0, u, _ => u
  | k + 1, u, v => if v ≤ 9 then mWr u (dg v) else mWr (mNum k u (v / 10)) (dg v)
theorem WB.num : ∀ (k : Nat) {j : Nat} {u : HV} {v : Int32}, WB j u → WB (j + k) (mNum k u v)
  | 0, _, _, _, h => h
  | k + 1, j, u, v, h => by
    show WB (j + (k + 1)) (if v ≤ 9 then mWr u (dg v) else mWr (mNum k u (v / 10)) (dg v))
    split
    · exact h.wr.mono (by omega)
    · exact (WB.num k h).wr.mono (by omega)
abbrev mBeh (k : Nat) (u : HV) (c v : Int32) : HV := mNum k (mWr u c) v
def mStar (u : HV) : Nat → HV
  | 0 => u
  | n + 1 => mWr (mStar u n) 42
theorem WB.star {k : Nat} {u : HV} (h : WB k u) : ∀ n, WB (k + n) (mStar u n)
  | 0 => h
  | n + 1 => (WB.star h n).wr
theorem sgn_nar (x : Int32) : narrow .char (.int (sgn x)) = .int (sgn x) := by
  unfold sgn
  by_cases h : x = 0
  · rw [if_pos h]; rfl
  · rw [if_neg h]
    by_cases q : x = 1
    · rw [if_pos q]; rfl
    · rw [if_neg q]; rfl
def mD1 (u : HV) (b : Int32) : HV := mNum 1 (hsc (hsc u 0 0) 4 0) b
def mD2 (u : HV) (b : Int32) : HV := mBeh 1 (mD1 u b) (sgn (rB u (cN b) 0)) (rB u (cN b) 3)
def mD3 (u : HV) (b : Int32) : HV := mStar (mD2 u b) (cN (rB u (cN b) 4 / 60))
def mD4 (u : HV) (b : Int32) : HV := mBeh 2 (mD3 u b) 58 (jbc (rB u (cN b) 1) + jbc (rB u (cN b) 2))
def mD5 (u : HV) (b : Int32) : HV := mBeh 3 (mD4 u b) 43 (rWt u (rB u (cN b) 5))
def mD6 (u : HV) (b : Int32) : HV := mBeh 3 (mD5 u b) 45 (rWt u (rB u (cN b) 6))
def mD (u : HV) (b : Int32) : HV := if rB u (cN b) 0 = 0 then mD6 u b else mD4 u b
def DOK (u : HV) (b : Nat) : Prop := (∃ n, n < 10 ∧ rB u b 3 = nI n) ∧ (∃ n, n ≤ 3 ∧ rB u b 4 / 60 = nI n) ∧ (∃ n, n < 100 ∧ jbc (rB u b 1) + jbc (rB u b 2) = nI n) ∧ (∃ n, n < 1000 ∧ rWt u (rB u b 5) = nI n) ∧ (∃ n, n < 1000 ∧ rWt u (rB u b 6) = nI n)
noncomputable def mDescribeBill (u : HV) (b : Int32) : Res × HV := mG (¬ isBl u b) 1 zI u (rI ((mD u b).1 4), mD u b)
def XInv (q : Nat) (u : HV) : Prop := (∃ n : Nat, n ≤ 60 ∧ u.1 5 = nI n) ∧ (∃ p : Nat, p ≤ q ∧ u.1 6 = nI p) ∧ (∀ j, j < 60 → isCh (u.2.1 14 j)) ∧ (u.1 12 = 0 ∨ u.1 12 = 1)
theorem XInv.mono {q r : Nat} {u : HV} (h : XInv q u) (hq : q ≤ r) : XInv r u := by
  obtain ⟨h1, ⟨p, hp, e⟩, h3⟩ := h
  exact ⟨h1, ⟨p, by omega, e⟩, h3⟩
theorem XInv.ix {q : Nat} {u : HV} (h : XInv q u) (hq : q < 1000) (c : u.1 6 < u.1 5) : vp_in (u.1 6) 60 := by
  obtain ⟨⟨n, hn, e1⟩, ⟨p, hp, e2⟩, -⟩ := h
  rw [e2]
  refine vp_in_nI ?_ (by decide)
  rw [e1, e2] at c
  have := (nI_ltI (by omega) (by omega)).mp c
  omega
abbrev xCh (u : HV) : Int32 := u.2.1 14 (cN (u.1 6))
abbrev xAdv (u : HV) : HV := hsc u 6 (u.1 6 + 1)
abbrev xBad (u : HV) : HV := hsc u 12 1
abbrev rSees (u : HV) (lo hi : Int32) : Prop := u.1 12 = 0 ∧ u.1 6 < u.1 5 ∧ btw (xCh u) lo hi
def rSeen (u : HV) : Int32 := if u.1 12 = 0 ∧ u.1 6 < u.1 5 then xCh u else 32
theorem XInv.ch {q : Nat} {u : HV} (h : XInv q u) (hq : q < 1000) (c : u.1 6 < u.1 5) : isCh (xCh u) := h.2.2.1 _ (vin_lt (h.ix hq c))
theorem XInv.adv {q : Nat} {u : HV} (h : XInv q u) (hq : 60 ≤ q) (hq2 : q < 1000) (c : u.1 6 < u.1 5) : XInv q (xAdv u) := by
  obtain ⟨⟨n, hn, e1⟩, ⟨p, hp, e2⟩, h3⟩ := h
  refine ⟨⟨n, hn, e1⟩, ⟨p + 1, ?_, ?_⟩, h3⟩
  · rw [e1, e2] at c
    have := (nI_ltI (by omega) (by omega)).mp c
    omega
  · show u.1 6 + 1 = _
    rw [e2, nI_1]
theorem XInv.bad {q : Nat} {u : HV} (h : XInv q u) : XInv q (xBad u) := ⟨h.1, h.2.1, h.2.2.1, Or.inr rfl⟩
theorem XInv.sc {q : Nat} {u : HV} (h : XInv q u) {s : Nat} {v : Int32} (h5 : s ≠ 5) (h6 : s ≠ 6) (h12 : s ≠ 12) : XInv q (hsc u s v) := by
  obtain ⟨h1, h2, h3, h4⟩ := h
  refine ⟨?_, ?_, h3, ?_⟩
  · rw [hsc_n (Ne.symm h5)]; exact h1
  · rw [hsc_n (Ne.symm h6)]; exact h2
  · rw [hsc_n (Ne.symm h12)]; exact h4
noncomputable def mMust (u : HV) (c : Int32) : HV := @ite _ (rSees u c c) (Classical.propDecidable _) (xAdv u) (xBad u)
theorem mMust_y {u : HV} {c : Int32} (h : rSees u c c) : mMust u c = xAdv u := @if_pos _ (Classical.propDecidable _) h _ _ _
theorem mMust_n {u : HV} {c : Int32} (h : ¬ rSees u c c) : mMust u c = xBad u := @if_neg _ (Classical.propDecidable _) h _ _ _
theorem XInv.must {q : Nat} {u : HV} (h : XInv q u) (hq : 60 ≤ q) (hq2 : q < 1000) (c : Int32) : XInv q (mMust u c) := by
  by_cases k : rSees u c c
  · rw [mMust_y k]; exact h.adv hq hq2 k.2.1
  · rw [mMust_n k]; exact h.bad
noncomputable def mRdN (d : Int32) (u : HV) : Int32 × HV := @ite _ (rSees u 48 57) (Classical.propDecidable _) (if d = 1 then (0 + xCh u - 48, xAdv u) else @ite _ (rSees (xAdv u) 48 57) (Classical.propDecidable _) (10 * (0 + xCh u - 48) + xCh (xAdv u) - 48, xAdv (xAdv u)) (0 + xCh u - 48, xAdv u)) (0, xBad u)
theorem mRdN_n {d : Int32} {u : HV} (h : ¬ rSees u 48 57) : mRdN d u = (0, xBad u) := @if_neg _ (Classical.propDecidable _) h _ _ _
theorem mRdN_1 {u : HV} (h : rSees u 48 57) : mRdN 1 u = (0 + xCh u - 48, xAdv u) := (@if_pos _ (Classical.propDecidable _) h _ _ _).trans (if_pos rfl)
theorem mRdN_2n {u : HV} (h : rSees u 48 57) (h2 : ¬ rSees (xAdv u) 48 57) : mRdN 2 u = (0 + xCh u - 48, xAdv u) := (@if_pos _ (Classical.propDecidable _) h _ _ _).trans ((if_neg (by decide)).trans (@if_neg _ (Classical.propDecidable _) h2 _ _ _))
theorem mRdN_2y {u : HV} (h : rSees u 48 57) (h2 : rSees (xAdv u) 48 57) : mRdN 2 u = (10 * (0 + xCh u - 48) + xCh (xAdv u) - 48, xAdv (xAdv u)) := (@if_pos _ (Classical.propDecidable _) h _ _ _).trans ((if_neg (by decide)).trans (@if_pos _ (Classical.propDecidable _) h2 _ _ _))
theorem XInv.rdn {q : Nat} {u : HV} (h : XInv q u) (hq : 60 ≤ q) (hq2 : q < 1000) {d : Int32} (hd : d = 1 ∨ d = 2) : XInv q (mRdN d u).2 := by
  by_cases k : rSees u 48 57
  · rcases hd with rfl | rfl
    · rw [mRdN_1 k]; exact h.adv hq hq2 k.2.1
    · by_cases k2 : rSees (xAdv u) 48 57
      · rw [mRdN_2y k k2]; exact (h.adv hq hq2 k.2.1).adv hq hq2 k2.2.1
      · rw [mRdN_2n k k2]; exact h.adv hq hq2 k.2.1
  · rw [mRdN_n k]; exact h.bad
noncomputable abbrev mRb (u : HV) (c d : Int32) : Int32 × HV := mRdN d (mMust u c)
theorem XInv.rb {q : Nat} {u : HV} (h : XInv q u) (hq : 60 ≤ q) (hq2 : q < 1000) {c d : Int32} (hd : d = 1 ∨ d = 2) : XInv q (mRb u c d).2 := (h.must hq hq2 c).rdn hq hq2 hd
/-- which keyword a first character picks -/
def kIx (x : Int32) : Nat := if x = 101 then 13 else if x = 108 then 14 else if x = 113 then 15 else if x = 98 then 16 else if x = 121 then 17 else if x = 110 then 18 else if x = 99 then 19 else if x = 97 then 20 else if x = 115 then 21 else if x = 100 then 22 else if x = 114 then 23 else 24
theorem kIx_24 {x : Int32} (h : ∀ k, k ∈ ([101, 108, 113, 98, 121, 110, 99, 97, 115, 100, 114] : List Int32) → ¬ x = k) : kIx x = 24 := by
  unfold kIx
  rw [if_neg (h _ (by decide)), if_neg (h _ (by decide)), if_neg (h _ (by decide)), if_neg (h _ (by decide)), if_neg (h _ (by decide)), if_neg (h _ (by decide)), if_neg (h _ (by decide)), if_neg (h _ (by decide)), if_neg (h _ (by decide)), if_neg (h _ (by decide)), if_neg (h _ (by decide))]
abbrev kBy (x : Int32) : List Int32 := mByt.getD (kIx x) []
noncomputable def mKw : List Int32 → HV → HV
  | [], u => u
  | c :: cs, u => mKw cs (mMust u c)
theorem XInv.kw {q : Nat} (hq : 60 ≤ q) (hq2 : q < 1000) : ∀ (cs : List Int32) {u : HV}, XInv q u → XInv q (mKw cs u)
  | [], _, h => h
  | c :: cs, _, h => XInv.kw hq hq2 cs (h.must hq hq2 c)
/-- must and numbers leave the other scalars and all rows as they are -/
def Tx (u v : HV) : Prop := (∀ s, s ≠ 6 → s ≠ 12 → v.1 s = u.1 s) ∧ v.2 = u.2
theorem Tx.rf {u : HV} : Tx u u := ⟨fun _ _ _ => rfl, rfl⟩
theorem Tx.tr {u v w : HV} (h : Tx u v) (h2 : Tx v w) : Tx u w := ⟨fun s h6 h12 => (h2.1 s h6 h12).trans (h.1 s h6 h12), h2.2.trans h.2⟩
theorem Tx.adv {u : HV} : Tx u (xAdv u) := ⟨fun _ h _ => hsc_n h, rfl⟩
theorem Tx.bad {u : HV} : Tx u (xBad u) := ⟨fun _ _ h => hsc_n h, rfl⟩
theorem Tx.must {u : HV} (c : Int32) : Tx u (mMust u c) := by
  by_cases k : rSees u c c
  · rw [mMust_y k]; exact Tx.adv
  · rw [mMust_n k]; exact Tx.bad
theorem Tx.rdn {u : HV} {d : Int32} (hd : d = 1 ∨ d = 2) : Tx u (mRdN d u).2 := by
  by_cases k : rSees u 48 57
  · rcases hd with rfl | rfl
    · rw [mRdN_1 k]; exact Tx.adv
    · by_cases k2 : rSees (xAdv u) 48 57
      · rw [mRdN_2y k k2]; exact Tx.adv.tr Tx.adv
      · rw [mRdN_2n k k2]; exact Tx.adv
  · rw [mRdN_n k]; exact Tx.bad
theorem Tx.rb {u : HV} {c d : Int32} (hd : d = 1 ∨ d = 2) : Tx u (mRb u c d).2 := (Tx.must c).tr (Tx.rdn hd)
theorem Tx.kw : ∀ (cs : List Int32) {u : HV}, Tx u (mKw cs u)
  | [], _ => Tx.rf
  | c :: cs, _ => (Tx.must c).tr (Tx.kw cs)
abbrev mSet (s : Nat) (q : Int32 × HV) : HV := hsc q.2 s q.1
noncomputable def mOth1 (u : HV) : HV := mSet 9 (mRb u 32 1)
noncomputable def mOther (x : Int32) (u : HV) : HV :=
  if x = 121 then mSet 10 (mRb (mOth1 u) 32 2) else if x = 110 then mSet 10 (mRb (mOth1 u) 32 2)
  else if x = 115 then mSet 11 (mRb (mSet 10 (mRdN 1 (mOth1 u))) 32 2)
  else if x = 99 then mOth1 u else if x = 100 then mOth1 u else mSet 10 (mRdN 1 (mOth1 u))
noncomputable def mAr1 (u : HV) : HV := mSet 9 (mRb u 32 2)
noncomputable def mAr3 (u : HV) (c1 d1 d2 c3 : Int32) : HV := mSet 11 (mRb (mSet 10 (mRb (mSet 9 (mRb u 32 d1)) 32 d2)) c3 2)
noncomputable def mArg (x : Int32) (u : HV) : HV :=
  if x = 97 then mAr3 u 0 1 2 32 else if x = 98 then mAr3 u 0 2 2 45 else if x = 101 then mAr1 u else if x = 108 then mAr1 u else if x = 113 then mAr1 u else if x = 114 then mAr3 u 0 2 1 32 else mOther x u
noncomputable def mCmd (u : HV) : HV := mArg (rSeen u) (mKw (kBy (rSeen u)) (hsc u 13 (rSeen u)))
theorem XInv.oth1 {q : Nat} {u : HV} (h : XInv q u) (hq : 60 ≤ q) (hq2 : q < 1000) : XInv q (mOth1 u) := (h.rb hq hq2 (Or.inl rfl)).sc (by decide) (by decide) (by decide)
theorem XInv.other {q : Nat} {u : HV} (h : XInv q u) (hq : 60 ≤ q) (hq2 : q < 1000) (x : Int32) : XInv q (mOther x u) := by
  have h1 := h.oth1 hq hq2
  unfold mOther
  split
  · exact (h1.rb hq hq2 (Or.inr rfl)).sc (by decide) (by decide) (by decide)
  split
  · exact (h1.rb hq hq2 (Or.inr rfl)).sc (by decide) (by decide) (by decide)
  split
  · exact ((((h1.rdn hq hq2 (Or.inl rfl)).sc (by decide) (by decide) (by decide)).rb hq hq2 (Or.inr rfl))).sc (by decide) (by decide) (by decide)
  split
  · exact h1
  split
  · exact h1
  · exact (h1.rdn hq hq2 (Or.inl rfl)).sc (by decide) (by decide) (by decide)
theorem XInv.ar1 {q : Nat} {u : HV} (h : XInv q u) (hq : 60 ≤ q) (hq2 : q < 1000) : XInv q (mAr1 u) := (h.rb hq hq2 (Or.inr rfl)).sc (by decide) (by decide) (by decide)
theorem XInv.ar3 {q : Nat} {u : HV} (h : XInv q u) (hq : 60 ≤ q) (hq2 : q < 1000) {c1 d1 d2 c3 : Int32} (h1 : d1 = 1 ∨ d1 = 2) (h2 : d2 = 1 ∨ d2 = 2) : XInv q (mAr3 u c1 d1 d2 c3) :=
  (((((h.rb hq hq2 h1).sc (by decide) (by decide) (by decide)).rb hq hq2 h2).sc (by decide) (by decide) (by decide)).rb hq hq2 (Or.inr rfl)).sc (by decide) (by decide) (by decide)
theorem XInv.arg {q : Nat} {u : HV} (h : XInv q u) (hq : 60 ≤ q) (hq2 : q < 1000) (x : Int32) : XInv q (mArg x u) := by
  unfold mArg
  split
  · exact h.ar3 hq hq2 (Or.inl rfl) (Or.inr rfl)
  split
  · exact h.ar3 hq hq2 (Or.inr rfl) (Or.inr rfl)
  split
  · exact h.ar1 hq hq2
  split
  · exact h.ar1 hq hq2
  split
  · exact h.ar1 hq hq2
  split
  · exact h.ar3 hq hq2 (Or.inr rfl) (Or.inl rfl)
  · exact h.other hq hq2 x
theorem XInv.cmd {q : Nat} {u : HV} (h : XInv q u) (hq : 60 ≤ q) (hq2 : q < 1000) : XInv q (mCmd u) := (XInv.kw hq hq2 _ (h.sc (by decide) (by decide) (by decide))).arg hq hq2 _

noncomputable def mAppend (u : HV) (x : Int32) : Res × HV := mG (¬ btw x 32 126) 1 zI u (mG (u.1 5 = 60) 2 zI u (rI (u.1 5 + 1), hsc (hset (u0 u) 14 (cN (u.1 5)) x) 5 (u.1 5 + 1)))
/-- where a reader that is not wrong stands: not further back -/
theorem le_succ32 {x y : Int32} (h : x < y) : x ≤ x + 1 := by
  have h1 := Int32.lt_iff_toInt_lt.mp h
  have h2 := Int32.toInt_lt y
  have h3 := Int32.le_toInt x
  have e1 : (1 : Int32).toInt = 1 := rfl
  have h4 : (x + 1).toInt = x.toInt + 1 := by
    rw [Int32.toInt_add, e1]
    exact Int.bmod_eq_of_le (by omega) (by omega)
  exact Int32.le_iff_toInt_le.mpr (by omega)
def Mv (u v : HV) : Prop := v.1 12 = 0 → u.1 12 = 0 ∧ u.1 6 ≤ v.1 6
theorem Mv.rf {u : HV} : Mv u u := fun h => ⟨h, Int32.le_refl _⟩
theorem Mv.tr {u v w : HV} (h : Mv u v) (h2 : Mv v w) : Mv u w := fun h3 => by
  obtain ⟨a1, a2⟩ := h2 h3
  obtain ⟨b1, b2⟩ := h a1
  exact ⟨b1, Int32.le_trans b2 a2⟩
theorem Mv.adv {u : HV} (c : u.1 6 < u.1 5) : Mv u (xAdv u) := fun h => ⟨h, le_succ32 c⟩
theorem Mv.bad {u : HV} : Mv u (xBad u) := fun h => absurd h (show ¬ (1 : Int32) = 0 by decide)
theorem Mv.sc {u v : HV} (h : Mv u v) {s : Nat} {x : Int32} (h6 : s ≠ 6) (h12 : s ≠ 12) : Mv u (hsc v s x) := fun h3 => by
  rw [hsc_n (Ne.symm h12)] at h3
  rw [hsc_n (Ne.symm h6)]
  exact h h3
theorem Mv.must {u : HV} (c : Int32) : Mv u (mMust u c) := by
  by_cases k : rSees u c c
  · rw [mMust_y k]; exact Mv.adv k.2.1
  · rw [mMust_n k]; exact Mv.bad
theorem Mv.rdn {u : HV} {d : Int32} (hd : d = 1 ∨ d = 2) : Mv u (mRdN d u).2 := by
  by_cases k : rSees u 48 57
  · rcases hd with rfl | rfl
    · rw [mRdN_1 k]; exact Mv.adv k.2.1
    · by_cases k2 : rSees (xAdv u) 48 57
      · rw [mRdN_2y k k2]; exact (Mv.adv k.2.1).tr (Mv.adv k2.2.1)
      · rw [mRdN_2n k k2]; exact Mv.adv k.2.1
  · rw [mRdN_n k]; exact Mv.bad
theorem Mv.rb {u : HV} {c d : Int32} (hd : d = 1 ∨ d = 2) : Mv u (mRb u c d).2 := (Mv.must c).tr (Mv.rdn hd)
theorem Mv.kw : ∀ (cs : List Int32) {u : HV}, Mv u (mKw cs u)
  | [], _ => Mv.rf
  | c :: cs, _ => (Mv.must c).tr (Mv.kw cs)
theorem Mv.oth1 {u : HV} : Mv u (mOth1 u) := (Mv.rb (Or.inl rfl)).sc (by decide) (by decide)
theorem Mv.other {u : HV} (x : Int32) : Mv u (mOther x u) := by
  unfold mOther
  split
  · exact Mv.oth1.tr ((Mv.rb (Or.inr rfl)).sc (by decide) (by decide))
  split
  · exact Mv.oth1.tr ((Mv.rb (Or.inr rfl)).sc (by decide) (by decide))
  split
  · exact (Mv.oth1.tr ((Mv.rdn (Or.inl rfl)).sc (by decide) (by decide))).tr ((Mv.rb (Or.inr rfl)).sc (by decide) (by decide))
  split
  · exact Mv.oth1
  split
  · exact Mv.oth1
  · exact Mv.oth1.tr ((Mv.rdn (Or.inl rfl)).sc (by decide) (by decide))
theorem Mv.ar1 {u : HV} : Mv u (mAr1 u) := (Mv.rb (Or.inr rfl)).sc (by decide) (by decide)
theorem Mv.ar3 {u : HV} {c1 d1 d2 c3 : Int32} (h1 : d1 = 1 ∨ d1 = 2) (h2 : d2 = 1 ∨ d2 = 2) : Mv u (mAr3 u c1 d1 d2 c3) :=
  ((((Mv.rb h1).sc (by decide) (by decide)).tr ((Mv.rb h2).sc (by decide) (by decide))).tr ((Mv.rb (Or.inr rfl)).sc (by decide) (by decide)))
theorem Mv.arg {u : HV} (x : Int32) : Mv u (mArg x u) := by
  unfold mArg
  split
  · exact Mv.ar3 (Or.inl rfl) (Or.inr rfl)
  split
  · exact Mv.ar3 (Or.inr rfl) (Or.inr rfl)
  split
  · exact Mv.ar1
  split
  · exact Mv.ar1
  split
  · exact Mv.ar1
  split
  · exact Mv.ar3 (Or.inr rfl) (Or.inl rfl)
  · exact Mv.other x
theorem Mv.cmd {u : HV} : Mv u (mCmd u) := ((Mv.rf.sc (by decide) (by decide)).tr (Mv.kw _)).tr (Mv.arg _)
def mMore (v : HV) : Prop := v.1 12 = 0 ∧ v.1 6 < v.1 5
noncomputable def mCnt : Nat → Int32 → HV → Int32 × HV
  | 0, c, v => (c, v)
  | k + 1, c, v => @ite _ (mMore v) (Classical.propDecidable _) (mCnt k (c + 1) (mCmd (mMust v 59))) (c, v)
theorem mCnt_y {k : Nat} {c : Int32} {v : HV} (h : mMore v) : mCnt (k + 1) c v = mCnt k (c + 1) (mCmd (mMust v 59)) := @if_pos _ (Classical.propDecidable _) h _ _ _
theorem mCnt_n {k : Nat} {c : Int32} {v : HV} (h : ¬ mMore v) : mCnt (k + 1) c v = (c, v) := @if_neg _ (Classical.propDecidable _) h _ _ _
abbrev cBeg (u : HV) : HV := hsc (hsc u 6 0) 12 0
noncomputable def mCC (u : HV) : Int32 × HV := mCnt 63 1 (mCmd (cBeg u))
theorem XInv.cnt {q : Nat} (hq : 60 ≤ q) (hq2 : q < 1000) : ∀ (k : Nat) (c : Int32) {v : HV}, XInv q v → XInv q (mCnt k c v).2
  | 0, _, _, h => h
  | k + 1, c, v, h => by
    by_cases m : mMore v
    · rw [mCnt_y m]; exact XInv.cnt hq hq2 k (c + 1) ((h.must hq hq2 59).cmd hq hq2)
    · rw [mCnt_n m]; exact h
/-- how many times it may still go on -/
def Fuel (k : Nat) (v : HV) : Prop := 1 ≤ k ∧ (v.1 12 = 0 → ∀ p, p ≤ 200 → v.1 6 = nI p → 61 < k + p)
theorem Fuel.step {k : Nat} {v : HV} (hx : XInv 200 v) (m : mMore v) (hp : Fuel (k + 1) v) : Fuel k (mCmd (mMust v 59)) := by
  obtain ⟨⟨n, hn, e1⟩, ⟨p, hp0, e2⟩, -⟩ := id hx
  have h1 := hp.2 m.1 p hp0 e2
  have h2 := m.2
  rw [e1, e2] at h2
  have h3 := (nI_ltI (by omega) (by omega)).mp h2
  refine ⟨by omega, fun h4 r hr hr2 => ?_⟩
  obtain ⟨h5, h6⟩ := Mv.cmd h4
  by_cases c : rSees v 59 59
  · rw [mMust_y c, show (xAdv v).1 6 = nI (p + 1) by show v.1 6 + 1 = _; rw [e2, nI_1]] at h6
    rw [mMust_y c] at hr2
    rw [hr2] at h6
    have := (nI_leJ (by omega) (by omega)).mp h6
    omega
  · rw [mMust_n c] at h5
    exact absurd h5 (show ¬ (1 : Int32) = 0 by decide)
theorem mG_ind {P : HV → Prop} {c : Prop} {n : Int32} {z : Option Value} {u : HV} {k : Res × HV} (h1 : P (hsc u 0 n)) (h2 : ¬ c → P k.2) : P (mG c n z u k).2 := by
  by_cases q : c
  · rw [mG_y q]; exact h1
  · rw [mG_n q]; exact h2 q
theorem RInv.p7 {r : Nat → Int32} (h : RInv r) {b : Nat} {v : Int32} (hv : ∃ p, p ≤ 4 ∧ v = nI p) : RInv (upd r (53 + 16 * b + 7) v) := by
  obtain ⟨h1, h2, h3⟩ := h
  refine ⟨?_, ?_, fun c hc => ?_⟩
  · rw [upd_n (by omega)]; exact h1
  · rw [upd_n (by omega)]; exact h2
  · by_cases e : c = b
    · subst e; rw [upd_s]; exact hv
    · rw [upd_n (by omega)]; exact h3 c hc
theorem RInv.lo {r : Nat → Int32} (h : RInv r) {j : Nat} {v : Int32} (h0 : j ≠ 0) (h1 : j ≠ 1) (hj : j < 53) : RInv (upd r j v) := by
  obtain ⟨a1, a2, a3⟩ := h
  refine ⟨?_, ?_, fun c hc => ?_⟩
  · rw [upd_n (Ne.symm h0)]; exact a1
  · rw [upd_n (Ne.symm h1)]; exact a2
  · rw [upd_n (by omega)]; exact a3 c hc
theorem RInv.m1 {r : Nat → Int32} (h : RInv r) (c : ¬ r 0 = 24) : RInv (upd r 0 (r 0 + 1)) := by
  obtain ⟨⟨B, hB, e⟩, a2, a3⟩ := h
  refine ⟨⟨B + 1, ?_, by rw [upd_s, e, nI_1]⟩, ?_, fun c hc => ?_⟩
  · have : ¬ B = 24 := fun z => c (by rw [e, z]; rfl)
    omega
  · rw [upd_n (by decide)]; exact a2
  · rw [upd_n (by omega)]; exact a3 c hc
theorem RInv.b1 {r : Nat → Int32} (h : RInv r) (c : ¬ r 1 = 8) : RInv (upd r 1 (r 1 + 1)) := by
  obtain ⟨a1, ⟨B, hB, e⟩, a3⟩ := h
  refine ⟨?_, ⟨B + 1, ?_, by rw [upd_s, e, nI_1]⟩, fun c hc => ?_⟩
  · rw [upd_n (by decide)]; exact a1
  · have : ¬ B = 8 := fun z => c (by rw [e, z]; rfl)
    omega
  · rw [upd_n (by omega)]; exact a3 c hc
abbrev RI (u : HV) : Prop := RInv (u.2.1 1)
theorem RI.put7 {u : HV} (h : RI u) {b : Nat} {v : Int32} (hv : ∃ p, p ≤ 4 ∧ v = nI p) : RI (rPut u b 7 v) := RInv.p7 h hv
theorem RI.put {u : HV} (h : RI u) {b k : Nat} {v : Int32} (hk : k < 16) (h7 : k ≠ 7) : RI (rPut u b k v) := RInv.put h hk h7
theorem RI.fin {u : HV} (h : RI u) {b : Nat} {s : Int32} : RI (mFin u b s) := (((h.put (by decide) (by decide)).put7 ⟨0, by decide, rfl⟩).put (by decide) (by decide)).put (by decide) (by decide)
theorem RI.tog {u : HV} (h : RI u) {b : Nat} {x : Int32} : RI (mTog u b x) := h.put (by split <;> decide) (by split <;> decide)
theorem RI.add {v : HV} (h : RI v) (c : ¬ v.2.1 1 0 = 24) {x y : Int32} : RI (sAdd v x y) := by
  have hB : nM v < 24 := by
    obtain ⟨⟨B, hB, e⟩, -⟩ := id h
    have : ¬ B = 24 := fun z => c (by rw [e, z]; rfl)
    show cN (v.2.1 1 0) < 24
    rw [e, cN_nI (by omega)]
    omega
  exact ((h.m1 c).lo (by omega) (by omega) (by omega)).lo (by omega) (by omega) (by omega)
theorem RI.clr {v : HV} (h : RI v) {b : Nat} : ∀ n, n ≤ 16 → RI (sClr v b n)
  | 0, _ => h
  | n + 1, hn => by
    have h1 := RI.clr h (b := b) n (by omega)
    by_cases e : n = 7
    · subst e; exact h1.put7 ⟨0, by decide, rfl⟩
    · exact h1.put (by omega) e
theorem RI.tgs {v : HV} (h : RI v) {b f : Nat} : ∀ n, RI (sTgs v b f n)
  | 0 => h
  | n + 1 => (RI.tgs h n).tog
theorem RI.brg {v : HV} (h : RI v) (c : ¬ v.2.1 1 1 = 8) {f la : Int32} : RI (sBrg v f la) := RI.tgs (RI.clr (h.b1 c) 16 (by decide)) _
theorem RI.vote {v : HV} (h : RI v) {b s o : Nat} {x : Int32} (hs : s < 7) (ho : o < 7) : RI (sVote v b x s o) := (h.put (by omega) (by omega)).put (by omega) (by omega)
theorem RI.cls {v : HV} (h : RI v) {b : Nat} : RI (sCls v b) := by
  unfold sCls
  split
  · exact (RI.put h (by decide) (by decide)).fin
  split
  · exact (RI.put h (by decide) (by decide)).fin
  · exact (RI.put h (by decide) (by decide)).fin
theorem RI.pn {v : HV} (h : RI v) {b : Nat} (hb : b < 8) : ∃ p, p ≤ 4 ∧ rB v b 7 = nI p := h.2.2 b hb
theorem RI.mov {v : HV} (h : RI v) {b : Nat} (hb : b < 8) (c : ¬ rB v b 7 = 4) {x y : Int32} : RI (sMov v b x y) := by
  obtain ⟨p, hp, e⟩ := h.pn hb
  have hp4 : p < 4 := by
    have : ¬ p = 4 := fun z => c (by rw [e, z]; rfl)
    omega
  have hk : cN (rB v b 7) = p := by rw [e, cN_nI (by omega)]
  unfold sMov
  rw [hk]
  exact ((h.put7 ⟨p + 1, by omega, by rw [e, nI_1]⟩).put (by omega) (by omega)).put (by omega) (by omega)
theorem RI.sec {v : HV} (h : RI v) {b p : Nat} (hp : p < 4) {x : Int32} : RI (sSec v b p x) := RI.put h (by omega) (by omega)
theorem RI.dec0 {v : HV} (h : RI v) {b : Nat} : RI (sDec0 v b) := (h.tog).lo (by decide) (by decide) (by decide)
theorem RI.shf {v : HV} (h : RI v) {b : Nat} : ∀ n, n ≤ 6 → RI (sShf v b n)
  | 0, _ => h
  | n + 1, hn => (RI.shf h n (by omega)).put (by omega) (by omega)
theorem RI.dec {v : HV} (h : RI v) {b : Nat} (hb : b < 8) (c : ¬ rB v b 7 = 0) : RI (sDec v b) := by
  obtain ⟨p, hp, e⟩ := h.pn hb
  have hp0 : ¬ p = 0 := fun z => c (by rw [e, z]; rfl)
  obtain ⟨q, rfl⟩ : ∃ q, p = q + 1 := ⟨p - 1, by omega⟩
  have e2 : rB v b 7 - 1 = nI q := by rw [e, nI_pred]
  have e3 : cN (rB v b 7 - 1) = q := by rw [e2, cN_nI (by omega)]
  unfold sDec
  rw [e3]
  split
  · exact RI.shf (h.put7 ⟨q, by omega, e2⟩) _ (by omega)
  · exact RI.shf (h.dec0.put7 ⟨q, by omega, by rw [sDec0_7 hb]; exact e2⟩) _ (by omega)
theorem RI.hol {v : HV} (h : RI v) {b : Nat} {n : Int32} : RI (sHol v b n) := by
  unfold sHol
  split
  · exact RI.put h (by decide) (by decide)
  · exact (RI.put h (by decide) (by decide)).fin
theorem RI.z {u : HV} (h : RI u) {s : Nat} {n : Int32} : RI (hsc u s n) := h
theorem RI.c {u : HV} (h : RI u) : RI (uC u) := RInv.chg h
/-- only row 1 differs -/
def O1 (u v : HV) : Prop := v.1 = u.1 ∧ ∀ i, i ≠ 1 → v.2.1 i = u.2.1 i
theorem O1.rf {u : HV} : O1 u u := ⟨rfl, fun _ _ => rfl⟩
theorem O1.set {u v : HV} (h : O1 u v) {j : Nat} {x : Int32} : O1 u (hset v 1 j x) := ⟨h.1, fun i hi => (hset_n hi).trans (h.2 i hi)⟩
theorem O1.fin {u v : HV} (h : O1 u v) {b : Nat} {s : Int32} : O1 u (mFin v b s) := h.set.set.set.set
theorem O1.tog {u v : HV} (h : O1 u v) {b : Nat} {s : Int32} : O1 u (mTog v b s) := h.set
theorem O1.clr {u v : HV} (h : O1 u v) {b : Nat} : ∀ n, O1 u (sClr v b n)
  | 0 => h
  | n + 1 => (O1.clr h n).set
theorem O1.tgs {u v : HV} (h : O1 u v) {b f : Nat} : ∀ n, O1 u (sTgs v b f n)
  | 0 => h
  | n + 1 => (O1.tgs h n).tog
theorem O1.shf {u v : HV} (h : O1 u v) {b : Nat} : ∀ n, O1 u (sShf v b n)
  | 0 => h
  | n + 1 => (O1.shf h n).set
theorem O1.cls {v : HV} {b : Nat} : O1 v (sCls v b) := by
  unfold sCls
  split
  · exact (O1.rf.set).fin
  split
  · exact (O1.rf.set).fin
  · exact (O1.rf.set).fin
theorem O1.dec {v : HV} {b : Nat} : O1 v (sDec v b) := by
  unfold sDec
  split
  · exact O1.shf (O1.rf.set) _
  · exact O1.shf ((O1.rf.tog.set).set) _
theorem O1.hol {v : HV} {b : Nat} {n : Int32} : O1 v (sHol v b n) := by
  unfold sHol
  split
  · exact O1.rf.set
  · exact O1.rf.set.fin
/-- a change within a text: nothing but 'thrown' and the present row; the row's invariant is kept -/
def Kp (u v : HV) : Prop := (∀ s, s ≠ 0 → v.1 s = u.1 s) ∧ (∀ i, i ≠ 1 → v.2.1 i = u.2.1 i) ∧ RI v
theorem Kp.z {u : HV} (h : RI u) {n : Int32} : Kp u (hsc u 0 n) := ⟨fun s hs => hsc_n hs, fun _ _ => rfl, h⟩
theorem uC_in {u : HV} (h : ¬ u.1 3 = 0) : uC u = hsc u 0 0 := by
  show (if (hsc u 0 0).1 3 = 0 then _ else hsc u 0 0) = _
  exact if_neg h
theorem Kp.o {u v : HV} (h : ¬ u.1 3 = 0) (ho : O1 (uC u) v) (hv : RI v) : Kp u v := by
  rw [uC_in h] at ho
  refine ⟨fun s hs => ?_, fun i hi => ho.2 i hi, hv⟩
  rw [ho.1]
  exact hsc_n hs
theorem uc_row {u : HV} {k : Nat} {x : Int32} (c : ¬ u.2.1 1 k = x) : ¬ (uC u).2.1 1 k = x := by rw [uC_now]; exact c
theorem or1n {p q : Prop} (h : ¬ (p ∨ q)) : ¬ p := fun z => h (Or.inl z)
theorem or2n {p q : Prop} (h : ¬ (p ∨ q)) : ¬ q := fun z => h (Or.inr z)
theorem RI.bl {u : HV} (h : RI u) {b : Int32} (c : ¬ ¬ isBl u b) : cN b < 8 := by
  obtain ⟨m, h1, h2, -⟩ := h.bil (Classical.not_not.mp c)
  omega
theorem Kp.addMember {u : HV} (h : RI u) (hT : ¬ u.1 3 = 0) {x y : Int32} : Kp u (mAddMember u x y).2 := by
  unfold mAddMember
  exact mG_ind (Kp.z h) fun _ => mG_ind (Kp.z h) fun _ => mG_ind (Kp.z h) fun c => Kp.o hT (O1.rf.set.set.set) (h.c.add (uc_row c))
theorem Kp.enter {u : HV} (h : RI u) (hT : ¬ u.1 3 = 0) {x : Int32} : Kp u (mEnter u x).2 := by
  unfold mEnter
  exact mG_ind (Kp.z h) fun _ => mG_ind (Kp.z h) fun _ => Kp.o hT O1.rf.set (h.c.lo (by decide) (by decide) (by decide))
theorem Kp.leave {u : HV} (h : RI u) (hT : ¬ u.1 3 = 0) {x : Int32} : Kp u (mLeave u x).2 := by
  unfold mLeave
  exact mG_ind (Kp.z h) fun _ => mG_ind (Kp.z h) fun _ => Kp.o hT O1.rf.set (h.c.lo (by decide) (by decide) (by decide))
theorem Kp.setQuorum {u : HV} (h : RI u) (hT : ¬ u.1 3 = 0) {x : Int32} : Kp u (mSetQuorum u x).2 := by
  unfold mSetQuorum
  exact mG_ind (Kp.z h) fun _ => Kp.o hT O1.rf.set (h.c.lo (by decide) (by decide) (by decide))
theorem Kp.introduce {u : HV} (h : RI u) (hT : ¬ u.1 3 = 0) {x f la : Int32} : Kp u (mIntroduce u x f la).2 := by
  unfold mIntroduce
  exact mG_ind (Kp.z h) fun _ => mG_ind (Kp.z h) fun _ => mG_ind (Kp.z h) fun c => mG_ind (Kp.z h) fun _ => Kp.o hT (O1.tgs (O1.clr O1.rf.set _) _) (h.c.brg (uc_row c))
theorem Kp.vote {u : HV} (h : RI u) (hT : ¬ u.1 3 = 0) {b x : Int32} {s o : Nat} (hs : s < 7) (ho : o < 7) : Kp u (mVote u b x s o).2 := by
  unfold mVote
  exact mG_ind (Kp.z h) fun _ => mG_ind (Kp.z h) fun _ => mG_ind (Kp.z h) fun _ => Kp.o hT O1.rf.set.set (h.c.vote hs ho)
theorem Kp.closeReading {u : HV} (h : RI u) (hT : ¬ u.1 3 = 0) {b : Int32} : Kp u (mCloseReading u b).2 := by
  unfold mCloseReading
  exact mG_ind (Kp.z h) fun _ => mG_ind (Kp.z h) fun _ => mG_ind (Kp.z h) fun _ => Kp.o hT O1.cls h.c.cls
theorem Kp.propose {u : HV} (h : RI u) (hT : ¬ u.1 3 = 0) {b x c : Int32} : Kp u (mPropose u b x c).2 := by
  unfold mPropose
  exact mG_ind (Kp.z h) fun c1 => mG_ind (Kp.z h) fun c2 => mG_ind (Kp.z h) fun _ => Kp.o hT O1.rf.set.set.set (h.c.mov (h.bl (or1n c1)) (uc_row (or2n c2)))
theorem Kp.support {u : HV} (h : RI u) (hT : ¬ u.1 3 = 0) {b p x : Int32} : Kp u (mSupport u b p x).2 := by
  unfold mSupport
  refine mG_ind (Kp.z h) fun c1 => mG_ind (Kp.z h) fun _ => mG_ind (Kp.z h) fun c3 => mG_ind (Kp.z h) fun _ => Kp.o hT O1.rf.set (h.c.sec ?_)
  obtain ⟨m, h1, h2, -⟩ := RInv.pos h (h.bl (or1n c1)) (Classical.not_not.mp c3)
  omega
theorem Kp.decide {u : HV} (h : RI u) (hT : ¬ u.1 3 = 0) {b : Int32} : Kp u (mDecide u b).2 := by
  unfold mDecide
  exact mG_ind (Kp.z h) fun c1 => mG_ind (Kp.z h) fun _ => mG_ind (Kp.z h) fun c3 => mG_ind (Kp.z h) fun _ => Kp.o hT O1.dec (h.c.dec (h.bl c1) (uc_row c3))
theorem Kp.ride {u : HV} (h : RI u) (hT : ¬ u.1 3 = 0) {x b n : Int32} : Kp u (mRide u x b n).2 := by
  unfold mRide
  exact mG_ind (Kp.z h) fun _ => mG_ind (Kp.z h) fun _ => mG_ind (Kp.z h) fun _ => mG_ind (Kp.z h) fun _ => Kp.o hT O1.hol h.c.hol
/-- the commands, by the character that picks them -/
noncomputable def mDo (u : HV) (k a b c : Int32) : HV :=
  if k = 97 then (mPropose u a b c).2 else if k = 98 then (mIntroduce u a b c).2 else if k = 99 then (mCloseReading u a).2 else if k = 100 then (mDecide u a).2
  else if k = 101 then (mEnter u a).2 else if k = 108 then (mLeave u a).2 else if k = 110 then (mVoteAgainst u a b).2 else if k = 113 then (mSetQuorum u a).2
  else if k = 114 then (mRide u a b c).2 else if k = 115 then (mSupport u a b c).2 else if k = 121 then (mVoteFor u a b).2 else (mAddMember u a b).2
theorem Kp.do_ {u : HV} (h : RI u) (hT : ¬ u.1 3 = 0) (k a b c : Int32) : Kp u (mDo u k a b c) := by
  unfold mDo
  split
  · exact Kp.propose h hT
  split
  · exact Kp.introduce h hT
  split
  · exact Kp.closeReading h hT
  split
  · exact Kp.decide h hT
  split
  · exact Kp.enter h hT
  split
  · exact Kp.leave h hT
  split
  · exact Kp.vote h hT (by decide) (by decide)
  split
  · exact Kp.setQuorum h hT
  split
  · exact Kp.ride h hT
  split
  · exact Kp.support h hT
  split
  · exact Kp.vote h hT (by decide) (by decide)
  · exact Kp.addMember h hT
noncomputable abbrev mRunC (u : HV) : HV := mDo u (u.1 13) (u.1 9) (u.1 10) (u.1 11)

theorem ansI.mk {y : Int32} {v : HV} : ansI (rI y, v) := ⟨y, rfl⟩
theorem ansI.vote {u : HV} {b x : Int32} {s o : Nat} : ansI (mVote u b x s o) := by unfold mVote; exact ansI.g (ansI.g (ansI.g ⟨_, rfl⟩))
noncomputable abbrev sRd (v : HV) : HV := hsc (mCmd v) 6 ((mCmd v).1 6 + 1)
noncomputable abbrev sSt (v : HV) : HV := mRunC (sRd v)
noncomputable def mLp : Nat → Nat → HV → Int32 × HV
  | 0, _, v => (1, v)
  | k + 1, j, v => if (sSt v).1 0 = 0 then mLp k (j + 1) (sSt v) else (0, hsc (sSt v) 8 (nI j))
abbrev rBeg (u : HV) : HV := hsc (hsc (cpR u 1 3) 3 1) 6 0
abbrev rEnd (v : HV) (t : Int32) : HV := hsc (hsc (hsc v 3 0) 5 0) 0 t
noncomputable def mRun (u : HV) : Res × HV :=
  if (mCC u).2.1 12 = 0 then
    (if (mLp (cN (mCC u).1) 0 (rBeg (mCC u).2)).1 = 0 then (rI 0, cpR (rEnd (mLp (cN (mCC u).1) 0 (rBeg (mCC u).2)).2 2) 3 1)
     else (rI (mCC u).1, mRem (rEnd (mLp (cN (mCC u).1) 0 (rBeg (mCC u).2)).2 0) 3 (cN (u.1 1))))
  else (rI 0, hsc (hsc (hsc (mCC u).2 7 ((mCC u).2.1 6)) 5 0) 0 1)
theorem Tx.sc {u v : HV} (h : Tx u v) {s : Nat} {x : Int32} (hs : s = 6 ∨ s = 12) : Tx u (hsc v s x) := ⟨fun k h6 h12 => by rw [hsc_n (by rcases hs with rfl | rfl <;> assumption)]; exact h.1 k h6 h12, h.2⟩
/-- reading a command leaves rows and the other scalars, but 9, 10, 11, 13 -/
def Ty (u v : HV) : Prop := (∀ s, s ≠ 6 → s ≠ 12 → s ≠ 9 → s ≠ 10 → s ≠ 11 → s ≠ 13 → v.1 s = u.1 s) ∧ v.2 = u.2
theorem Ty.rf {u : HV} : Ty u u := ⟨fun _ _ _ _ _ _ _ => rfl, rfl⟩
theorem Ty.tr {u v w : HV} (h : Ty u v) (h2 : Ty v w) : Ty u w := ⟨fun s a b c d e f => (h2.1 s a b c d e f).trans (h.1 s a b c d e f), h2.2.trans h.2⟩
theorem Tx.y {u v : HV} (h : Tx u v) : Ty u v := ⟨fun s a b _ _ _ _ => h.1 s a b, h.2⟩
theorem Ty.sc {u v : HV} (h : Ty u v) {s : Nat} {x : Int32} (hs : s = 6 ∨ s = 12 ∨ s = 9 ∨ s = 10 ∨ s = 11 ∨ s = 13) : Ty u (hsc v s x) := ⟨fun k a b c d e f => by rw [hsc_n (by rcases hs with rfl | rfl | rfl | rfl | rfl | rfl <;> assumption)]; exact h.1 k a b c d e f, h.2⟩
theorem Ty.oth1 {u : HV} : Ty u (mOth1 u) := ((Tx.rb (Or.inl rfl)).y).sc (by decide)
theorem Ty.other {u : HV} (x : Int32) : Ty u (mOther x u) := by
  unfold mOther
  split
  · exact Ty.oth1.tr ((Tx.rb (Or.inr rfl)).y.sc (by decide))
  split
  · exact Ty.oth1.tr ((Tx.rb (Or.inr rfl)).y.sc (by decide))
  split
  · exact (Ty.oth1.tr ((Tx.rdn (Or.inl rfl)).y.sc (by decide))).tr ((Tx.rb (Or.inr rfl)).y.sc (by decide))
  split
  · exact Ty.oth1
  split
  · exact Ty.oth1
  · exact Ty.oth1.tr ((Tx.rdn (Or.inl rfl)).y.sc (by decide))
theorem Ty.ar1 {u : HV} : Ty u (mAr1 u) := (Tx.rb (Or.inr rfl)).y.sc (by decide)
theorem Ty.ar3 {u : HV} {c1 d1 d2 c3 : Int32} (h1 : d1 = 1 ∨ d1 = 2) (h2 : d2 = 1 ∨ d2 = 2) : Ty u (mAr3 u c1 d1 d2 c3) :=
  ((((Tx.rb h1).y.sc (by decide)).tr ((Tx.rb h2).y.sc (by decide))).tr ((Tx.rb (Or.inr rfl)).y.sc (by decide)))
theorem Ty.arg {u : HV} (x : Int32) : Ty u (mArg x u) := by
  unfold mArg
  split
  · exact Ty.ar3 (Or.inl rfl) (Or.inr rfl)
  split
  · exact Ty.ar3 (Or.inr rfl) (Or.inr rfl)
  split
  · exact Ty.ar1
  split
  · exact Ty.ar1
  split
  · exact Ty.ar1
  split
  · exact Ty.ar3 (Or.inr rfl) (Or.inl rfl)
  · exact Ty.other x
theorem Ty.cmd {u : HV} : Ty u (mCmd u) := ((Ty.rf.sc (by decide)).tr (Tx.kw _).y).tr (Ty.arg _)
theorem Ty.cnt : ∀ (k : Nat) (c : Int32) {v : HV}, Ty v (mCnt k c v).2
  | 0, _, _ => Ty.rf
  | k + 1, c, v => by
    by_cases m : mMore v
    · rw [mCnt_y m]; exact ((Tx.must 59).y.tr Ty.cmd).tr (Ty.cnt k (c + 1))
    · rw [mCnt_n m]; exact Ty.rf
theorem Ty.cc {u : HV} : Ty u (mCC u).2 := ((Ty.rf.sc (by decide)).sc (by decide)).tr (Ty.cmd.tr (Ty.cnt 63 1))
/-- what holds within a run -/
def WI (q : Nat) (K : Nat) (v : HV) : Prop := XInv q v ∧ RI v ∧ v.1 3 = 1 ∧ v.1 1 = nI K
theorem WI.rd {q K : Nat} {v : HV} (h : WI q K v) (hq : 60 ≤ q) (hq2 : q < 190) : WI (q + 1) K (sRd v) := by
  obtain ⟨h1, h2, h3, h4⟩ := h
  have hc := h1.cmd hq (by omega)
  have ty := Ty.cmd (u := v)
  refine ⟨?_, ?_, ?_, ?_⟩
  · obtain ⟨a1, ⟨p, hp, e⟩, a3, a4⟩ := hc
    exact ⟨a1, ⟨p + 1, by omega, by show (mCmd v).1 6 + 1 = _; rw [e, nI_1]⟩, a3, a4⟩
  · show RInv ((mCmd v).2.1 1)
    rw [ty.2]; exact h2
  · show (mCmd v).1 3 = 1
    rw [ty.1 3 (by decide) (by decide) (by decide) (by decide) (by decide) (by decide)]; exact h3
  · show (mCmd v).1 1 = nI K
    rw [ty.1 1 (by decide) (by decide) (by decide) (by decide) (by decide) (by decide)]; exact h4
theorem WI.k {q K : Nat} {v : HV} (h : WI q K v) (hK : K ≤ 8) : KInv v := ⟨K, hK, h.2.2.2⟩
theorem WI.t {q K : Nat} {v : HV} (h : WI q K v) : ¬ v.1 3 = 0 := by rw [h.2.2.1]; decide
theorem WI.kp {q K : Nat} {v w : HV} (h : WI q K v) (k : Kp v w) : WI q K w := by
  obtain ⟨h1, h2, h3, h4⟩ := h
  obtain ⟨k1, k2, k3⟩ := k
  refine ⟨?_, k3, by rw [k1 3 (by decide)]; exact h3, by rw [k1 1 (by decide)]; exact h4⟩
  obtain ⟨a1, a2, a3, a4⟩ := h1
  exact ⟨by rw [k1 5 (by decide)]; exact a1, by rw [k1 6 (by decide)]; exact a2, by rw [k2 14 (by decide)]; exact a3, by rw [k1 12 (by decide)]; exact a4⟩
theorem WI.st {q K : Nat} {v : HV} (h : WI q K v) (hq : 60 ≤ q) (hq2 : q < 190) : WI (q + 1) K (sSt v) := (h.rd hq hq2).kp (Kp.do_ (h.rd hq hq2).2.1 (h.rd hq hq2).t _ _ _ _)

def mUnd (u : HV) : HV := cpR (hsc (u0 u) 1 (u.1 1 - 1)) (5 + cN (u.1 1 - 1)) 1
noncomputable def mUndo (u : HV) : Res × HV := mG (u.1 1 = 0) 1 zI u (rI (u.1 1 - 1), mUnd u)
noncomputable def mSave (u : HV) : Res × HV := (rI ((cpR (hsc (u0 u) 2 1) 1 2).2.1 1 1), cpR (hsc (u0 u) 2 1) 1 2)
noncomputable def mRestore (u : HV) : Res × HV := mG (u.1 2 = 0) 1 zI u (rI ((cpR (u0 u) 2 1).2.1 1 1), hsc (cpR (u0 u) 2 1) 1 0)
/-- exception E is the one of number k in the list (counted from n) -/
def WEx : List String → Nat → String → Int32 → Prop
  | [], _, _, _ => False
  | c :: cs, n, E, k => (E = c ∧ k = nI n) ∨ WEx cs (n + 1) E k
def WIn (cs : List String) (P : Value → Prop) (y : Res) : Prop := (∃ v, y = .inl (some v) ∧ P v) ∨ ∃ E k, y = .inr E ∧ WEx cs 1 E k
def WAns (cs : List String) (ok : Value → Prop) (y r : Res) : Prop := (∃ v, y = .inl (some v) ∧ r = rI 0 ∧ ok v) ∨ ∃ E k, y = .inr E ∧ WEx cs 1 E k ∧ r = rI k
def isI (v : Value) : Prop := ∃ n, v = .int n
def isL (v : Value) : Prop := ∃ n, v = .long n
def isD (v : Value) : Prop := ∃ n, v = .double n
theorem BRep.agree {Γ : Gm} {A : Nat → Nat} {w : PV} {M M' : Hp} (hB : BRep Γ A w M) (h : ∀ i, i < 315 → M' (A i) = M (A i)) : BRep Γ A w M' := by
  obtain ⟨h1, h2, h3, h4, h5, h6, h7⟩ := hB
  exact ⟨fun k hk => ⟨fun i hi => (h _ (by omega)).trans ((h1 k hk).1 i hi), (h1 k hk).2⟩, fun k hk => ⟨fun i hi => (h _ (by omega)).trans ((h2 k hk).1 i hi), (h2 k hk).2⟩, ⟨fun i hi => (h _ (by omega)).trans (h3.1 i hi), h3.2⟩, ⟨fun i hi => (h _ (by omega)).trans (h4.1 i hi), h4.2⟩, (h _ (by decide)).trans h5, (h _ (by decide)).trans h6, h7⟩
theorem BRep.off {Γ : Gm} {A : Nat → Nat} {w : PV} {M : Hp} {o : Nat} {e : va_E} (hB : BRep Γ A w M) (ho : ∀ i, i < 315 → o ≠ A i) : BRep Γ A w (hup M o e) := hB.agree fun i hi => hup_n fun h => ho i hi h.symm
theorem WIn.val {cs : List String} {P : Value → Prop} {y : Res} {v : Option Value} (h : WIn cs P y) (e : .inl v = y) : ∃ u, v = some u ∧ P u := by
  rcases h with ⟨u, h1, h2⟩ | ⟨E, k, h1, -⟩
  · have := e.trans h1; cases this; exact ⟨u, rfl, h2⟩
  · have := e.trans h1; cases this
theorem WIn.int {cs : List String} {y : Res} {v : Option Value} (h : WIn cs isI y) (e : .inl v = y) : ∃ n : Int32, v = some (.int n) := by
  obtain ⟨u, h1, n, rfl⟩ := h.val e; exact ⟨n, h1⟩
theorem WIn.long {cs : List String} {y : Res} {v : Option Value} (h : WIn cs isL y) (e : .inl v = y) : ∃ n : Int64, v = some (.long n) := by
  obtain ⟨u, h1, n, rfl⟩ := h.val e; exact ⟨n, h1⟩
theorem WEx.hd {c : String} {cs : List String} {n : Nat} {k : Int32} (h : k = nI n) : WEx (c :: cs) n c k := Or.inl ⟨rfl, h⟩
/-- both answer alike: the same value and no number, or an exception and its number -/
def SmV (P : Value → Prop) (cs : List String) (x : Res × PV) (y : Res × HV) : Prop := ∃ z, P z ∧ y.1 = .inl (some z) ∧ (x.1 = .inl (some z) ∧ y.2.1 0 = 0 ∨ ∃ E, x.1 = .inr E ∧ WEx cs 1 E (y.2.1 0))
def SmQ (x : Res × PV) (y : Res × HV) : Prop := ∃ z : Int32, x.1 = rI z ∧ y.1 = rI z
theorem WEx.mem {cs : List String} {n : Nat} {E : String} {k : Int32} (h : WEx cs n E k) : E ∈ cs := by
  induction cs generalizing n with
  | nil => exact h.elim
  | cons c cs ih => rcases h with ⟨rfl, -⟩ | h; exact List.mem_cons_self; exact List.mem_cons_of_mem _ (ih h)
theorem lg_cmp_self (x : Int64) : lg_cmp x x = 0 := by
  have h : ¬ x > x := Int64.lt_irrefl
  unfold lg_cmp
  rw [if_neg h, if_pos rfl]
/-- what both sides hold that the methods ask for -/
def LG (w : PV) (u : HV) : Prop := BInv w ∧ RI u ∧ KInv u ∧ XInv 200 u ∧ (∃ W : Nat, W ≤ 40 ∧ u.1 4 = nI W) ∧ (∀ j, j < 40 → narrow .char (.int (u.2.1 13 j)) = .int (u.2.1 13 j)) ∧ (∀ b : Nat, b < 8 → DOK u b) ∧ (∀ b : Nat, b < 8 → ¬ rAll u b = 0 → vf_n32 (rShX u b) ∧ Op.cmpValue (FP.fcmp (rShX u b) (rShX u b)) .l = 0) ∧ (¬ u.2.1 1 0 = 0 → vf_n64 (rMwX u)) ∧ (∀ b, hasB (w.1 0) b → ¬ shB (w.1 0) b = 0 → ShF (w.1 0) b) ∧ (¬ (w.1 0).1 0 = 0 → MwOK (w.1 0))
def SC_addMember (R : PV → HV → Prop) (w : PV) (u : HV) : Prop := ∀ x1 x2 : Int32, SmV isI [eIdx, eArg, eSta] (pAddMember w x1 x2) (mAddMember u x1 x2) ∧ R (pAddMember w x1 x2).2 (mAddMember u x1 x2).2
def SC_enter (R : PV → HV → Prop) (w : PV) (u : HV) : Prop := ∀ x1 : Int32, SmV isI [eIdx, eSta] (pEnter w x1) (mEnter u x1) ∧ R (pEnter w x1).2 (mEnter u x1).2
def SC_leave (R : PV → HV → Prop) (w : PV) (u : HV) : Prop := ∀ x1 : Int32, SmV isI [eIdx, eSta] (pLeave w x1) (mLeave u x1) ∧ R (pLeave w x1).2 (mLeave u x1).2
def SC_setQuorum (R : PV → HV → Prop) (w : PV) (u : HV) : Prop := ∀ x1 : Int32, SmV isI [eArg] (pSetQuorum w x1) (mSetQuorum u x1) ∧ R (pSetQuorum w x1).2 (mSetQuorum u x1).2
def SC_memberCount (R : PV → HV → Prop) (w : PV) (u : HV) : Prop := SmQ (pMemberCount w) (mMemberCount u) ∧ R (pMemberCount w).2 (mMemberCount u).2
def SC_wardOf (R : PV → HV → Prop) (w : PV) (u : HV) : Prop := ∀ x1 : Int32, SmV isI [eIdx] (pWardOf w x1) (mWardOf u x1) ∧ R (pWardOf w x1).2 (mWardOf u x1).2
def SC_weightOf (R : PV → HV → Prop) (w : PV) (u : HV) : Prop := ∀ x1 : Int32, SmV isI [eIdx] (pWeightOf w x1) (mWeightOf u x1) ∧ R (pWeightOf w x1).2 (mWeightOf u x1).2
def SC_isPresent (R : PV → HV → Prop) (w : PV) (u : HV) : Prop := ∀ x1 : Int32, SmV isI [eIdx] (pIsPresent w x1) (mIsPresent u x1) ∧ R (pIsPresent w x1).2 (mIsPresent u x1).2
def SC_presentMask (R : PV → HV → Prop) (w : PV) (u : HV) : Prop := SmQ (pPresentMask w) (mPresentMask u) ∧ R (pPresentMask w).2 (mPresentMask u).2
def SC_quorum (R : PV → HV → Prop) (w : PV) (u : HV) : Prop := SmQ (pQuorum w) (mQuorum u) ∧ R (pQuorum w).2 (mQuorum u).2
def SC_isQuorate (R : PV → HV → Prop) (w : PV) (u : HV) : Prop := SmQ (pIsQuorate w) (mIsQuorate u) ∧ R (pIsQuorate w).2 (mIsQuorate u).2
def SC_wardWeight (R : PV → HV → Prop) (w : PV) (u : HV) : Prop := ∀ x1 : Int32, SmV isI [eIdx] (pWardWeight w x1) (mWardWeight u x1) ∧ R (pWardWeight w x1).2 (mWardWeight u x1).2
def SC_strongestWard (R : PV → HV → Prop) (w : PV) (u : HV) : Prop := SmQ (pStrongestWard w) (mStrongestWard u) ∧ R (pStrongestWard w).2 (mStrongestWard u).2
def SC_introduce (R : PV → HV → Prop) (w : PV) (u : HV) : Prop := ∀ x1 x2 x3 : Int32, SmV isI [eIdx, eArg, eSta, eUns] (pIntroduce w x1 x2 x3) (mIntroduce u x1 x2 x3) ∧ R (pIntroduce w x1 x2 x3).2 (mIntroduce u x1 x2 x3).2
def SC_billCount (R : PV → HV → Prop) (w : PV) (u : HV) : Prop := SmQ (pBillCount w) (mBillCount u) ∧ R (pBillCount w).2 (mBillCount u).2
def SC_isOpen (R : PV → HV → Prop) (w : PV) (u : HV) : Prop := ∀ x1 : Int32, SmV isI [eIdx] (pIsOpen w x1) (mIsOpen u x1) ∧ R (pIsOpen w x1).2 (mIsOpen u x1).2
def SC_isPassed (R : PV → HV → Prop) (w : PV) (u : HV) : Prop := ∀ x1 : Int32, SmV isI [eIdx] (pIsPassed w x1) (mIsPassed u x1) ∧ R (pIsPassed w x1).2 (mIsPassed u x1).2
def SC_readings (R : PV → HV → Prop) (w : PV) (u : HV) : Prop := ∀ x1 : Int32, SmV isI [eIdx] (pReadings w x1) (mReadings u x1) ∧ R (pReadings w x1).2 (mReadings u x1).2
def SC_clauses (R : PV → HV → Prop) (w : PV) (u : HV) : Prop := ∀ x1 : Int32, SmV isL [eIdx] (pClauses w x1) (mClauses u x1) ∧ R (pClauses w x1).2 (mClauses u x1).2
def SC_clauseCount (R : PV → HV → Prop) (w : PV) (u : HV) : Prop := ∀ x1 : Int32, SmV isI [eIdx] (pClauseCount w x1) (mClauseCount u x1) ∧ R (pClauseCount w x1).2 (mClauseCount u x1).2
def SC_longestRun (R : PV → HV → Prop) (w : PV) (u : HV) : Prop := ∀ x1 : Int32, SmV isI [eIdx] (pLongestRun w x1) (mLongestRun u x1) ∧ R (pLongestRun w x1).2 (mLongestRun u x1).2
def SC_longestRunByShift (R : PV → HV → Prop) (w : PV) (u : HV) : Prop := ∀ x1 : Int32, SmV isI [eIdx] (pLongestRunByShift w x1) (mLongestRunByShift u x1) ∧ R (pLongestRunByShift w x1).2 (mLongestRunByShift u x1).2
def SC_billAtRank (R : PV → HV → Prop) (w : PV) (u : HV) : Prop := ∀ x1 : Int32, SmV isI [eEle] (pBillAtRank w x1) (mBillAtRank u x1) ∧ R (pBillAtRank w x1).2 (mBillAtRank u x1).2
def SC_voteFor (R : PV → HV → Prop) (w : PV) (u : HV) : Prop := ∀ x1 x2 : Int32, SmV isI [eIdx, eSta, eUns] (pVoteFor w x1 x2) (mVoteFor u x1 x2) ∧ R (pVoteFor w x1 x2).2 (mVoteFor u x1 x2).2
def SC_voteAgainst (R : PV → HV → Prop) (w : PV) (u : HV) : Prop := ∀ x1 x2 : Int32, SmV isI [eIdx, eSta, eUns] (pVoteAgainst w x1 x2) (mVoteAgainst u x1 x2) ∧ R (pVoteAgainst w x1 x2).2 (mVoteAgainst u x1 x2).2
def SC_weightFor (R : PV → HV → Prop) (w : PV) (u : HV) : Prop := ∀ x1 : Int32, SmV isI [eIdx] (pWeightFor w x1) (mWeightFor u x1) ∧ R (pWeightFor w x1).2 (mWeightFor u x1).2
def SC_weightForByDigits (R : PV → HV → Prop) (w : PV) (u : HV) : Prop := ∀ x1 : Int32, SmV isI [eIdx] (pWeightForByDigits w x1) (mWeightForByDigits u x1) ∧ R (pWeightForByDigits w x1).2 (mWeightForByDigits u x1).2
def SC_weightAgainst (R : PV → HV → Prop) (w : PV) (u : HV) : Prop := ∀ x1 : Int32, SmV isI [eIdx] (pWeightAgainst w x1) (mWeightAgainst u x1) ∧ R (pWeightAgainst w x1).2 (mWeightAgainst u x1).2
def SC_closeReading (R : PV → HV → Prop) (w : PV) (u : HV) : Prop := ∀ x1 : Int32, SmV isI [eIdx, eSta, eUns] (pCloseReading w x1) (mCloseReading u x1) ∧ R (pCloseReading w x1).2 (mCloseReading u x1).2
def SC_propose (R : PV → HV → Prop) (w : PV) (u : HV) : Prop := ∀ x1 x2 x3 : Int32, SmV isI [eIdx, eSta, eUns] (pPropose w x1 x2 x3) (mPropose u x1 x2 x3) ∧ R (pPropose w x1 x2 x3).2 (mPropose u x1 x2 x3).2
def SC_support (R : PV → HV → Prop) (w : PV) (u : HV) : Prop := ∀ x1 x2 x3 : Int32, SmV isI [eIdx, eSta, eEle, eUns] (pSupport w x1 x2 x3) (mSupport u x1 x2 x3) ∧ R (pSupport w x1 x2 x3).2 (mSupport u x1 x2 x3).2
def SC_decide (R : PV → HV → Prop) (w : PV) (u : HV) : Prop := ∀ x1 : Int32, SmV isI [eIdx, eSta, eEle, eUns] (pDecide w x1) (mDecide u x1) ∧ R (pDecide w x1).2 (mDecide u x1).2
def SC_pendingCount (R : PV → HV → Prop) (w : PV) (u : HV) : Prop := ∀ x1 : Int32, SmV isI [eIdx] (pPendingCount w x1) (mPendingCount u x1) ∧ R (pPendingCount w x1).2 (mPendingCount u x1).2
def SC_amendedClause (R : PV → HV → Prop) (w : PV) (u : HV) : Prop := ∀ x1 x2 : Int32, SmV isI [eIdx, eEle] (pAmendedClause w x1 x2) (mAmendedClause u x1 x2) ∧ R (pAmendedClause w x1 x2).2 (mAmendedClause u x1 x2).2
def SC_supportWeight (R : PV → HV → Prop) (w : PV) (u : HV) : Prop := ∀ x1 x2 : Int32, SmV isI [eIdx, eEle] (pSupportWeight w x1 x2) (mSupportWeight u x1 x2) ∧ R (pSupportWeight w x1 x2).2 (mSupportWeight u x1 x2).2
def SC_ride (R : PV → HV → Prop) (w : PV) (u : HV) : Prop := ∀ x1 x2 x3 : Int32, SmV isI [eIdx, eArg, eSta, eUns] (pRide w x1 x2 x3) (mRide u x1 x2 x3) ∧ R (pRide w x1 x2 x3).2 (mRide u x1 x2 x3).2
def SC_delay (R : PV → HV → Prop) (w : PV) (u : HV) : Prop := ∀ x1 : Int32, SmV isI [eIdx] (pDelay w x1) (mDelay u x1) ∧ R (pDelay w x1).2 (mDelay u x1).2
def SC_rust (R : PV → HV → Prop) (w : PV) (u : HV) : Prop := ∀ x1 : Int32, SmV isI [eIdx] (pRust w x1) (mRust u x1) ∧ R (pRust w x1).2 (mRust u x1).2
def SC_ridesUntilFall (R : PV → HV → Prop) (w : PV) (u : HV) : Prop := ∀ x1 x2 : Int32, SmV isI [eIdx, eArg, eSta] (pRidesUntilFall w x1 x2) (mRidesUntilFall u x1 x2) ∧ R (pRidesUntilFall w x1 x2).2 (mRidesUntilFall u x1 x2).2
def SC_passedCount (R : PV → HV → Prop) (w : PV) (u : HV) : Prop := SmQ (pPassedCount w) (mPassedCount u) ∧ R (pPassedCount w).2 (mPassedCount u).2
def SC_fallenCount (R : PV → HV → Prop) (w : PV) (u : HV) : Prop := SmQ (pFallenCount w) (mFallenCount u) ∧ R (pFallenCount w).2 (mFallenCount u).2
def SC_acceptedCount (R : PV → HV → Prop) (w : PV) (u : HV) : Prop := SmQ (pAcceptedCount w) (mAcceptedCount u) ∧ R (pAcceptedCount w).2 (mAcceptedCount u).2
def SC_append (R : PV → HV → Prop) (w : PV) (u : HV) : Prop := ∀ x1 : Int32, SmV isI [eArg, eSta] (pAppend w (i2cc x1)) (mAppend u (i2cc x1)) ∧ R (pAppend w (i2cc x1)).2 (mAppend u (i2cc x1)).2
def SC_run (R : PV → HV → Prop) (w : PV) (u : HV) : Prop := SmV isI [eArg, eSta] (pRun w) (mRun u) ∧ R (pRun w).2 (mRun u).2
def SC_errorPosition (R : PV → HV → Prop) (w : PV) (u : HV) : Prop := SmV isI [eEle] (pErrorPosition w) (mErrorPosition u) ∧ R (pErrorPosition w).2 (mErrorPosition u).2
def SC_failedCommand (R : PV → HV → Prop) (w : PV) (u : HV) : Prop := SmV isI [eEle] (pFailedCommand w) (mFailedCommand u) ∧ R (pFailedCommand w).2 (mFailedCommand u).2
def SC_describeBill (R : PV → HV → Prop) (w : PV) (u : HV) : Prop := ∀ x1 : Int32, SmV isI [eIdx] (pDescribeBill w x1) (mDescribeBill u x1) ∧ R (pDescribeBill w x1).2 (mDescribeBill u x1).2
def SC_lineAt (R : PV → HV → Prop) (w : PV) (u : HV) : Prop := ∀ x1 : Int32, SmV isI [eIdx] (pLineAt w x1) (mLineAt u x1) ∧ R (pLineAt w x1).2 (mLineAt u x1).2
def SC_meanWeight (R : PV → HV → Prop) (w : PV) (u : HV) : Prop := SmV isD [eAri] (pMeanWeight w) (mMeanWeight u) ∧ R (pMeanWeight w).2 (mMeanWeight u).2
def SC_shareBits (R : PV → HV → Prop) (w : PV) (u : HV) : Prop := ∀ x1 : Int32, SmV isI [eIdx, eAri] (pShareBits w x1) (mShareBits u x1) ∧ R (pShareBits w x1).2 (mShareBits u x1).2
def SC_isConsistent (R : PV → HV → Prop) (w : PV) (u : HV) : Prop := SmQ (pIsConsistent w) (mIsConsistent u) ∧ R (pIsConsistent w).2 (mIsConsistent u).2
def SC_undo (R : PV → HV → Prop) (w : PV) (u : HV) : Prop := SmV isI [eSta] (pUndo w) (mUndo u) ∧ R (pUndo w).2 (mUndo u).2
def SC_save (R : PV → HV → Prop) (w : PV) (u : HV) : Prop := SmQ (pSave w) (mSave u) ∧ R (pSave w).2 (mSave u).2
def SC_restore (R : PV → HV → Prop) (w : PV) (u : HV) : Prop := SmV isI [eSta] (pRestore w) (mRestore u) ∧ R (pRestore w).2 (mRestore u).2
def Simu (R : PV → HV → Prop) : Prop := ∀ w u, R w u → LG w u ∧ SC_addMember R w u ∧ SC_enter R w u ∧ SC_leave R w u ∧ SC_setQuorum R w u ∧ SC_memberCount R w u ∧ SC_wardOf R w u ∧ SC_weightOf R w u ∧ SC_isPresent R w u ∧ SC_presentMask R w u ∧ SC_quorum R w u ∧ SC_isQuorate R w u ∧ SC_wardWeight R w u ∧ SC_strongestWard R w u ∧ SC_introduce R w u ∧ SC_billCount R w u ∧ SC_isOpen R w u ∧ SC_isPassed R w u ∧ SC_readings R w u ∧ SC_clauses R w u ∧ SC_clauseCount R w u ∧ SC_longestRun R w u ∧ SC_longestRunByShift R w u ∧ SC_billAtRank R w u ∧ SC_voteFor R w u ∧ SC_voteAgainst R w u ∧ SC_weightFor R w u ∧ SC_weightForByDigits R w u ∧ SC_weightAgainst R w u ∧ SC_closeReading R w u ∧ SC_propose R w u ∧ SC_support R w u ∧ SC_decide R w u ∧ SC_pendingCount R w u ∧ SC_amendedClause R w u ∧ SC_supportWeight R w u ∧ SC_ride R w u ∧ SC_delay R w u ∧ SC_rust R w u ∧ SC_ridesUntilFall R w u ∧ SC_passedCount R w u ∧ SC_fallenCount R w u ∧ SC_acceptedCount R w u ∧ SC_append R w u ∧ SC_run R w u ∧ SC_errorPosition R w u ∧ SC_failedCommand R w u ∧ SC_describeBill R w u ∧ SC_lineAt R w u ∧ SC_meanWeight R w u ∧ SC_shareBits R w u ∧ SC_isConsistent R w u ∧ SC_undo R w u ∧ SC_save R w u ∧ SC_restore R w u
