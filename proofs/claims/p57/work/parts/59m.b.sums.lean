/-! ===== the pure part: bits ===== -/
theorem b_1 (i : Nat) : bt 1 i = decide (i = 0) := by
  by_cases h : i < 32
  · exact (show ∀ i, i < 32 → bt 1 i = decide (i = 0) by decide +kernel) i h
  · rw [b_big (by omega), decide_eq_false (by omega)]
theorem and1_t {x : Int32} (h : bt x 0 = true) : x &&& 1 = 1 := b_ext fun i hi => by
  rw [b_and, b_1]
  by_cases e : i = 0
  · subst e; rw [h]; rfl
  · rw [decide_eq_false e, Bool.and_false]
theorem and1_f {x : Int32} (h : bt x 0 = false) : x &&& 1 = 0 := b_ext fun i hi => by
  rw [b_and, b_1, b_0]
  by_cases e : i = 0
  · subst e; rw [h]; rfl
  · rw [decide_eq_false e, Bool.and_false]
theorem and1_1 {x : Int32} : x &&& 1 = 1 ↔ bt x 0 = true := by
  constructor
  · intro h
    cases c : bt x 0 with
    | true => rfl
    | false => rw [and1_f c] at h; exact absurd h (by decide)
  · exact and1_t
theorem and1_n0 {x : Int32} : ¬ x &&& 1 = 0 ↔ bt x 0 = true := by
  constructor
  · intro h
    cases c : bt x 0 with
    | true => rfl
    | false => exact absurd (and1_f c) h
  · intro h; rw [and1_t h]; decide
theorem bt_ush {s : Int32} {n : Nat} (hn : n < 32) (i : Nat) : bt (ush s (nI n)) i = bt s (n + i) := b_ushr n hn s i
theorem bt_shr {s : Int32} {n : Nat} (hn : n < 32) : bt (shr s (nI n)) 0 = bt s n := by
  have h := b_sshr n hn s (i := 0) (by decide)
  rw [Nat.add_zero, if_pos hn] at h
  exact h
/-- a member is in a set: both readings of a bit -/
theorem inS_bt {s : Int32} {n : Nat} (hn : n < 32) : inS s (nI n) ↔ bt s n = true := by
  show ¬ ush s (nI n) &&& 1 = 0 ↔ _
  rw [and1_n0, bt_ush hn]
  rfl
theorem prs_bt {s : Int32} {n : Nat} (hn : n < 32) : shr s (nI n) &&& 1 = 1 ↔ bt s n = true := by rw [and1_1, bt_shr hn]
theorem inS_shr {s : Int32} {n : Nat} (hn : n < 32) : inS s (nI n) ↔ shr s (nI n) &&& 1 = 1 := (inS_bt hn).trans (prs_bt hn).symm
/-! ===== ranges ===== -/
theorem btw_lt {x : Int32} {m : Nat} (hm : m < 2 ^ 31) : btw x 0 (nI m - 1) ↔ 0 ≤ x ∧ x < nI m := by
  have e0 : (0 : Int32).toInt = 0 := rfl
  have e1 : (1 : Int32).toInt = 1 := rfl
  have eB : (nI m).toInt = m := nI_toInt hm
  have h3 : (nI m - 1).toInt = (m : Int) - 1 := by
    rw [Int32.toInt_sub, e1, eB]
    exact Int.bmod_eq_of_le (by omega) (by omega)
  show (0 ≤ x ∧ x ≤ nI m - 1) ↔ _
  rw [Int32.le_iff_toInt_le, Int32.le_iff_toInt_le, Int32.lt_iff_toInt_lt, h3, e0, eB]
  omega
theorem btw_lit {x a b c : Int32} (h : c.toInt = b.toInt + 1) : btw x a b ↔ a ≤ x ∧ x < c := by
  show (a ≤ x ∧ x ≤ b) ↔ _
  rw [Int32.le_iff_toInt_le, Int32.le_iff_toInt_le, Int32.lt_iff_toInt_lt]
  omega
theorem isC_btw {x : Int32} : isC x ↔ btw x 0 63 := (btw_lit (by decide)).symm
theorem isW_btw {x : Int32} : isW x ↔ btw x 0 3 := (btw_lit (by decide)).symm
theorem nlt_le {a b : Int32} : ¬ a < b ↔ b ≤ a := Int32.not_lt
theorem nle_lt {a b : Int32} : ¬ a ≤ b ↔ b < a := Int32.not_le
theorem out_btw {x a b : Int32} : (x < a ∨ b < x) ↔ ¬ btw x a b := by
  show _ ↔ ¬ (a ≤ x ∧ x ≤ b)
  rw [Int32.le_iff_toInt_le, Int32.le_iff_toInt_le, Int32.lt_iff_toInt_lt, Int32.lt_iff_toInt_lt]
  omega
/-! ===== sums of weights ===== -/
theorem rSum_row {r r' : HV} (h : r.2.1 1 = r'.2.1 1) (s : Int32) : ∀ n, rSum r s n = rSum r' s n
  | 0 => rfl
  | n + 1 => by
    show (if _ then rSum r s n + r.2.1 1 _ else rSum r s n + 0) = (if _ then rSum r' s n + r'.2.1 1 _ else rSum r' s n + 0)
    rw [rSum_row h s n, h]
theorem rWt_row {r r' : HV} (h : r.2.1 1 = r'.2.1 1) (s : Int32) : rWt r s = rWt r' s := by
  show rSum r s (cN (r.2.1 1 0)) = rSum r' s (cN (r'.2.1 1 0))
  rw [rSum_row h, h]
theorem rWard_row {r r' : HV} (h : r.2.1 1 = r'.2.1 1) (x : Int32) : ∀ n, rWard r x n = rWard r' x n
  | 0 => rfl
  | n + 1 => by
    show (if (shr (r.2.1 1 2) (nI n) &&& 1 = 1) ∧ r.2.1 1 (5 + 2 * n + 0) = x then rWard r x n + r.2.1 1 (5 + 2 * n + 1) else rWard r x n + 0) = (if (shr (r'.2.1 1 2) (nI n) &&& 1 = 1) ∧ r'.2.1 1 (5 + 2 * n + 0) = x then rWard r' x n + r'.2.1 1 (5 + 2 * n + 1) else rWard r' x n + 0)
    rw [rWard_row h x n, h]
theorem rCnt_row {r r' : HV} (h : r.2.1 1 = r'.2.1 1) (x : Int32) : ∀ n, rCnt r x n = rCnt r' x n
  | 0 => rfl
  | n + 1 => by
    show (if r.2.1 1 (53 + 16 * n + 0) = x then rCnt r x n + 1 else rCnt r x n + 0) = (if r'.2.1 1 (53 + 16 * n + 0) = x then rCnt r' x n + 1 else rCnt r' x n + 0)
    rw [rCnt_row h x n, h]
theorem i_add0 (x : Int32) : x + 0 = x := Int32.add_zero x
theorem wSum_r {w : Nat → Int32} {r : HV} (h : ∀ k, k < 24 → r.2.1 1 (5 + 2 * k + 1) = w k) (s : Int32) : ∀ n, n ≤ 24 → wSum w s n = rSum r s n
  | 0, _ => rfl
  | n + 1, hn => by
    show (if inS s (nI n) then wSum w s n + w n else wSum w s n) = (if shr s (nI n) &&& 1 = 1 then rSum r s n + r.2.1 1 (5 + 2 * n + 1) else rSum r s n + 0)
    rw [wSum_r h s n (by omega), h n (by omega), i_add0]
    by_cases c : inS s (nI n)
    · rw [if_pos c, if_pos ((inS_shr (by omega)).mp c)]
    · rw [if_neg c, if_neg (fun q => c ((inS_shr (by omega)).mpr q))]
theorem wSum_cut {w : Nat → Int32} {m : Nat} (hz : ∀ k, m ≤ k → k < 24 → w k = 0) (s : Int32) : ∀ j, m + j ≤ 24 → wSum w s (m + j) = wSum w s m
  | 0, _ => rfl
  | j + 1, hj => by
    show (if inS s (nI (m + j)) then wSum w s (m + j) + w (m + j) else wSum w s (m + j)) = _
    rw [wSum_cut hz s j (by omega), hz (m + j) (by omega) (by omega), i_add0]
    exact ite_self _
theorem wWard_r {wd w : Nat → Int32} {r : HV} (h : ∀ k, k < 24 → r.2.1 1 (5 + 2 * k + 1) = w k) (h0 : ∀ k, k < 24 → r.2.1 1 (5 + 2 * k + 0) = wd k) (x : Int32) : ∀ n, n ≤ 24 → wWard wd w (r.2.1 1 2) x n = rWard r x n
  | 0, _ => rfl
  | n + 1, hn => by
    show (if inS (r.2.1 1 2) (nI n) ∧ wd n = x then wWard wd w (r.2.1 1 2) x n + w n else wWard wd w (r.2.1 1 2) x n) = (if (shr (r.2.1 1 2) (nI n) &&& 1 = 1) ∧ r.2.1 1 (5 + 2 * n + 0) = x then rWard r x n + r.2.1 1 (5 + 2 * n + 1) else rWard r x n + 0)
    rw [wWard_r h h0 x n (by omega), h n (by omega), h0 n (by omega), i_add0]
    by_cases c : inS (r.2.1 1 2) (nI n) ∧ wd n = x
    · rw [if_pos c, if_pos ⟨(inS_shr (by omega)).mp c.1, c.2⟩]
    · rw [if_neg c, if_neg (fun q => c ⟨(inS_shr (by omega)).mpr q.1, q.2⟩)]
theorem wWard_cut {wd w : Nat → Int32} {m : Nat} (hz : ∀ k, m ≤ k → k < 24 → w k = 0) (s x : Int32) : ∀ j, m + j ≤ 24 → wWard wd w s x (m + j) = wWard wd w s x m
  | 0, _ => rfl
  | j + 1, hj => by
    show (if inS s (nI (m + j)) ∧ wd (m + j) = x then wWard wd w s x (m + j) + w (m + j) else wWard wd w s x (m + j)) = _
    rw [wWard_cut hz s x j (by omega), hz (m + j) (by omega) (by omega), i_add0]
    exact ite_self _
theorem cntS_r {st : Nat → Int32} {r : HV} (h : ∀ b, b < 8 → r.2.1 1 (53 + 16 * b + 0) = st b) (x : Int32) : ∀ n, n ≤ 8 → cntS st x n = rCnt r x n
  | 0, _ => rfl
  | n + 1, hn => by
    show (if st n = x then cntS st x n + 1 else cntS st x n) = (if r.2.1 1 (53 + 16 * n + 0) = x then rCnt r x n + 1 else rCnt r x n + 0)
    rw [cntS_r h x n (by omega), h n (by omega), i_add0]
