/-! ===== the reference's public methods ===== -/
noncomputable def mG (c : Prop) (n : Int32) (z : Option Value) (u : HV) (k : Res × HV) : Res × HV := @ite _ c (Classical.propDecidable _) (.inl z, hsc u 0 n) k
theorem mG_y {c : Prop} {n : Int32} {z : Option Value} {u : HV} {k : Res × HV} (h : c) : mG c n z u k = (.inl z, hsc u 0 n) := @if_pos _ (Classical.propDecidable _) h _ _ _
theorem mG_n {c : Prop} {n : Int32} {z : Option Value} {u : HV} {k : Res × HV} (h : ¬ c) : mG c n z u k = k := @if_neg _ (Classical.propDecidable _) h _ _ _
theorem MMu.y {Γ : Gm} {a : Nat → Nat} {c : Prop} {n : Int32} {z : Option Value} {u : HV} {k : Res × HV} {M M' : Hp} {r : Res} (h : c) (q : MMu Γ a (.inl z, hsc u 0 n) M r M') : MMu Γ a (mG c n z u k) M r M' := by rw [mG_y h]; exact q
theorem MMu.n {Γ : Gm} {a : Nat → Nat} {c : Prop} {n : Int32} {z : Option Value} {u : HV} {k : Res × HV} {M M' : Hp} {r : Res} (h : ¬ c) (q : MMu Γ a k M r M') : MMu Γ a (mG c n z u k) M r M' := by rw [mG_n h]; exact q
abbrev rPut (u : HV) (b k : Nat) (v : Int32) : HV := hset u 1 (53 + 16 * b + k) v
abbrev isM (u : HV) (x : Int32) : Prop := btw x 0 (u.2.1 1 0 - 1)
abbrev isBl (u : HV) (x : Int32) : Prop := btw x 0 (u.2.1 1 1 - 1)
abbrev prs (u : HV) (x : Int32) : Prop := shr (u.2.1 1 2) x &&& 1 = 1
abbrev quo (u : HV) : Prop := u.2.1 1 3 ≤ jbc (u.2.1 1 2)
abbrev rWt (u : HV) (x : Int32) : Int32 := rSum u x (cN (u.2.1 1 0))
abbrev zI : Option Value := some (.int 0)
/-- numbers below a count -/
theorem btw_nat {x : Int32} {B : Nat} (hB : B < 2 ^ 31) (h : btw x 0 (nI B - 1)) : ∃ m : Nat, m < B ∧ cN x = m ∧ x = nI m := by
  obtain ⟨h1, h2⟩ := h
  have e0 : (0 : Int32).toInt = 0 := rfl
  have e1 : (1 : Int32).toInt = 1 := rfl
  have eB : (nI B).toInt = B := nI_toInt hB
  have h3 : (nI B - 1).toInt = (B : Int) - 1 := by
    rw [Int32.toInt_sub, e1, eB]
    exact Int.bmod_eq_of_le (by omega) (by omega)
  have h4 := Int32.le_iff_toInt_le.mp h1
  have h5 := Int32.le_iff_toInt_le.mp h2
  rw [h3] at h5
  rw [e0] at h4
  have e : x = nI x.toInt.toNat := by
    apply Int32.toInt_inj.mp
    rw [nI_toInt (by omega)]
    omega
  exact ⟨x.toInt.toNat, by omega, by rw [e, cN_nI (by omega), ← e], e⟩
theorem RInv.put {r : Nat → Int32} (h : RInv r) {b k : Nat} {v : Int32} (hk : k < 16) (h7 : k ≠ 7) : RInv (upd r (53 + 16 * b + k) v) := by
  obtain ⟨h1, h2, h3⟩ := h
  refine ⟨?_, ?_, fun c hc => ?_⟩
  · rw [upd_n (by omega)]; exact h1
  · rw [upd_n (by omega)]; exact h2
  · rw [upd_n (by omega)]; exact h3 c hc
theorem RInv.mem {r : Nat → Int32} (h : RInv r) {x : Int32} (c : btw x 0 (r 0 - 1)) : ∃ m : Nat, m < 24 ∧ cN x = m ∧ x = nI m := by
  obtain ⟨B, hB, e⟩ := h.1
  rw [e] at c
  obtain ⟨m, h1, h2⟩ := btw_nat (by omega) c
  exact ⟨m, by omega, h2⟩
theorem RInv.bil {r : Nat → Int32} (h : RInv r) {x : Int32} (c : btw x 0 (r 1 - 1)) : ∃ m : Nat, m < 8 ∧ cN x = m ∧ x = nI m := by
  obtain ⟨B, hB, e⟩ := h.2.1
  rw [e] at c
  obtain ⟨m, h1, h2⟩ := btw_nat (by omega) c
  exact ⟨m, by omega, h2⟩
theorem RInv.pos {r : Nat → Int32} (h : RInv r) {b : Nat} (hb : b < 8) {x : Int32} (c : btw x 0 (r (53 + 16 * b + 7) - 1)) : ∃ m : Nat, m < 4 ∧ cN x = m ∧ x = nI m := by
  obtain ⟨B, hB, e⟩ := h.2.2 b hb
  rw [e] at c
  obtain ⟨m, h1, h2⟩ := btw_nat (by omega) c
  exact ⟨m, by omega, h2⟩
theorem hset_mn {u : HV} {i j k : Nat} {v : Int32} (h : k ≠ j) : (hset u i j v).2.1 i k = u.2.1 i k := by rw [hset_s, upd_n h]
theorem cpR_n {u : HV} {i j k : Nat} (h : k ≠ j) : (cpR u i j).2.1 k = u.2.1 k := har_n h
theorem mSh_now {u : HV} : ∀ n, n ≤ 8 → (mSh u n).2.1 1 = u.2.1 1
  | 0, _ => rfl
  | n + 1, h => by
    show (cpR (mSh u n) (5 + (n + 1)) (5 + n)).2.1 1 = _
    rw [cpR_n (by omega), mSh_now n (by omega)]
def mChg (u : HV) : HV := if u.1 3 = 0 then mRem u 1 (cN (u.1 1)) else u
theorem mRem_now {u : HV} {i K : Nat} : (mRem u i K).2.1 1 = u.2.1 1 := by
  unfold mRem
  split
  · show (cpR (mSh u 7) i 12).2.1 1 = _
    rw [cpR_n (by decide), mSh_now 7 (by decide)]
  · show (cpR u i (5 + K)).2.1 1 = _
    rw [cpR_n (by omega)]
theorem mChg_now {u : HV} : (mChg u).2.1 1 = u.2.1 1 := by
  unfold mChg
  split
  · exact mRem_now
  · rfl
abbrev u0 (u : HV) : HV := hsc u 0 0
abbrev uC (u : HV) : HV := mChg (hsc u 0 0)
theorem uC_now {u : HV} : (uC u).2.1 1 = u.2.1 1 := mChg_now
def KInv (u : HV) : Prop := ∃ K : Nat, K ≤ 8 ∧ u.1 1 = nI K
def mFin (u : HV) (b : Nat) (s : Int32) : HV := rPut (rPut (rPut (rPut u b 0 s) b 7 0) b 5 0) b 6 0
def mTog (u : HV) (b : Nat) (c : Int32) : HV := rPut u b (if 32 ≤ c then 2 else 1) (rB u b (if 32 ≤ c then 2 else 1) ^^^ shl 1 (irm c 32))
def rHas (u : HV) (b : Nat) (c : Int32) : Prop := ush (rB u b (if 32 ≤ c then 2 else 1)) (irm c 32) &&& 1 = 1
def rMore (u : HV) (x y : Nat) : Int32 := rB u x 3 - rB u y 3
def rLess (u : HV) (x y : Nat) : Int32 := rB u y 4 / 60 - rB u x 4 / 60
def rAhd (u : HV) (x y : Nat) : Prop := if rMore u x y = 0 then (if rLess u x y = 0 then nI x < nI y else ¬ rLess u x y ≤ 0) else ¬ rMore u x y ≤ 0
