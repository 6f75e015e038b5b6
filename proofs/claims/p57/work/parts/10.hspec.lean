/-! ===== what the House's methods answer, out of u ===== -/
/-- Integer.bitCount, Long.bitCount, as the JDK computes them -/
def jbc (x : Int32) : Int32 :=
  let a := x - (ush x 1 &&& 1431655765)
  let b := (a &&& 858993459) + (ush a 2 &&& 858993459)
  let c := (b + ush b 4) &&& 252645135
  let d := c + ush c 8
  let e := d + ush d 16
  e &&& 63
def jbl (x : Int64) : Int32 :=
  let a := x - (lus x 1 &&& 6148914691236517205)
  let b := (a &&& 3689348814741910323) + (lus a 2 &&& 3689348814741910323)
  let c := (b + lus b 4) &&& 1085102592571150095
  let d := c + lus c 8
  let e := d + lus d 16
  let f := e + lus e 32
  l2i f &&& 127
/-- member m is in the set s -/
abbrev inS (s m : Int32) : Prop := ¬ ush s m &&& 1 = 0
abbrev hasM (u : HV) (x : Int32) : Prop := 0 ≤ x ∧ x < u.1 0
abbrev hasB (u : HV) (x : Int32) : Prop := 0 ≤ x ∧ x < u.1 3
abbrev hasP (u : HV) (b x : Int32) : Prop := 0 ≤ x ∧ x < u.2.1 8 (cN b)
abbrev isC (x : Int32) : Prop := 0 ≤ x ∧ x < 64
abbrev isW (x : Int32) : Prop := 0 ≤ x ∧ x < 4
/-- the sums of the weights of the members below n that are in a set; that are present and of a ward -/
def wSum (w : Nat → Int32) (s : Int32) : Nat → Int32
  | 0 => 0
  | n + 1 => if inS s (nI n) then wSum w s n + w n else wSum w s n
def wWard (wd w : Nat → Int32) (s x : Int32) : Nat → Int32
  | 0 => 0
  | n + 1 => if inS s (nI n) ∧ wd n = x then wWard wd w s x n + w n else wWard wd w s x n
abbrev hW (u : HV) (s : Int32) : Int32 := wSum (u.2.1 2) s 24
abbrev hWW (u : HV) (x : Int32) : Int32 := wWard (u.2.1 1) (u.2.1 2) (u.1 1) x 24
/-- a mask: the members below n whose weight has the digit d -/
def mDig (w : Nat → Int32) (d : Int32) : Nat → Int32
  | 0 => 0
  | n + 1 => mDig w d n ||| shl (ush (w n) d &&& 1) (nI n)
def wDig (w : Nat → Int32) (s : Int32) : Nat → Int32
  | 0 => 0
  | n + 1 => wDig w s n + shl (jbc (s &&& mDig w (nI n) 24)) (nI n)
def cntS (st : Nat → Int32) (x : Int32) : Nat → Int32
  | 0 => 0
  | n + 1 => if st n = x then cntS st x n + 1 else cntS st x n
abbrev hRust (u : HV) (b : Nat) : Int32 := u.2.1 5 b / 60
def hAhd (u : HV) (x y : Int32) : Prop := if ¬ u.2.1 4 (cN x) = u.2.1 4 (cN y) then u.2.1 4 (cN y) < u.2.1 4 (cN x) else if ¬ hRust u (cN x) = hRust u (cN y) then hRust u (cN x) < hRust u (cN y) else x < y
noncomputable def hRank (u : HV) (b : Int32) : Nat → Int32
  | 0 => 0
  | n + 1 => @ite Int32 (hAhd u (nI n) b) (Classical.propDecidable _) (hRank u b n + 1) (hRank u b n)
theorem hRank_t {u : HV} {b : Int32} {n : Nat} (h : hAhd u (nI n) b) : hRank u b (n + 1) = hRank u b n + 1 := @if_pos _ (Classical.propDecidable _) h _ _ _
theorem hRank_f {u : HV} {b : Int32} {n : Nat} (h : ¬ hAhd u (nI n) b) : hRank u b (n + 1) = hRank u b n := @if_neg _ (Classical.propDecidable _) h _ _ _
/-- what stands against a change: 0 nothing, 1 no such number, 2 bad argument, 3 bad state, 4 no such position, 5 not allowed -/
def fAdmit (u : HV) (wd wt : Int32) : Int32 := if ¬ isW wd then 1 else if wt < 1 ∨ 7 < wt then 2 else if 24 ≤ u.1 0 then 3 else 0
def fComeIn (u : HV) (x : Int32) : Int32 := if ¬ hasM u x then 1 else if inS (u.1 1) x then 3 else 0
def fGoOut (u : HV) (x : Int32) : Int32 := if ¬ hasM u x then 1 else if inS (u.1 1) x then 0 else 3
def fQuorum (n : Int32) : Int32 := if n < 1 ∨ 24 < n then 2 else 0
def fBring (u : HV) (x f l : Int32) : Int32 := if ¬ hasM u x ∨ ¬ isC f ∨ ¬ isC l then 1 else if l < f then 2 else if 8 ≤ u.1 3 then 3 else if inS (u.1 1) x then 0 else 5
def fVote (u : HV) (b x : Int32) : Int32 := if ¬ hasB u b ∨ ¬ hasM u x then 1 else if u.2.1 3 (cN b) ≠ 0 then 3 else if inS (u.1 1) x then 0 else 5
abbrev hQuor (u : HV) : Prop := u.1 2 ≤ jbc (u.1 1)
def fEnd (u : HV) (b : Int32) : Int32 := if ¬ hasB u b then 1 else if u.2.1 3 (cN b) ≠ 0 then 3 else if hQuor u ∧ u.2.1 8 (cN b) = 0 then 0 else 5
def fMove (u : HV) (b x c : Int32) : Int32 := if ¬ hasB u b ∨ ¬ hasM u x ∨ ¬ isC c then 1 else if u.2.1 3 (cN b) ≠ 0 ∨ 4 ≤ u.2.1 8 (cN b) then 3 else if inS (u.1 1) x then 0 else 5
def fSecond (u : HV) (b p x : Int32) : Int32 := if ¬ hasB u b ∨ ¬ hasM u x then 1 else if u.2.1 3 (cN b) ≠ 0 then 3 else if ¬ hasP u b p then 4 else if inS (u.1 1) x then 0 else 5
def fDecide (u : HV) (b : Int32) : Int32 := if ¬ hasB u b then 1 else if u.2.1 3 (cN b) ≠ 0 then 3 else if u.2.1 8 (cN b) = 0 then 4 else if hQuor u then 0 else 5
def fHold (u : HV) (x b n : Int32) : Int32 := if ¬ hasM u x ∨ ¬ hasB u b then 1 else if n < 1 ∨ 30 < n then 2 else if u.2.1 3 (cN b) ≠ 0 then 3 else if inS (u.1 1) x then 0 else 5
/-- what holds of every House -/
def HInv (u : HV) : Prop := (0 ≤ u.1 0 ∧ u.1 0 ≤ 24) ∧ (0 ≤ u.1 3 ∧ u.1 3 ≤ 8) ∧ (∀ b, b < 8 → 0 ≤ u.2.1 8 b ∧ u.2.1 8 b ≤ 4)
theorem HInv.m {u : HV} (h : HInv u) {x : Int32} (c : hasM u x) : vp_in x 24 := vp_in_iff.mpr (by
  have h1 := Int32.le_iff_toInt_le.mp c.1
  have h2 := Int32.lt_iff_toInt_lt.mp c.2
  have h3 := Int32.le_iff_toInt_le.mp h.1.2
  have e1 : (0 : Int32).toInt = 0 := rfl
  have e2 : (24 : Int32).toInt = 24 := rfl
  omega)
theorem HInv.b {u : HV} (h : HInv u) {x : Int32} (c : hasB u x) : vp_in x 8 := vp_in_iff.mpr (by
  have h1 := Int32.le_iff_toInt_le.mp c.1
  have h2 := Int32.lt_iff_toInt_lt.mp c.2
  have h3 := Int32.le_iff_toInt_le.mp h.2.1.2
  have e1 : (0 : Int32).toInt = 0 := rfl
  have e2 : (8 : Int32).toInt = 8 := rfl
  omega)
theorem vin_lt {x : Int32} {n : Nat} (h : vp_in x n) : cN x < n := Nat.not_le.mp fun q => h (Or.inr q)
theorem HInv.p {u : HV} (h : HInv u) {b x : Int32} (vb : vp_in b 8) (c : hasP u b x) : vp_in x 4 := vp_in_iff.mpr (by
  have h1 := Int32.le_iff_toInt_le.mp c.1
  have h2 := Int32.lt_iff_toInt_lt.mp c.2
  have h3 := Int32.le_iff_toInt_le.mp (h.2.2 _ (vin_lt vb)).2
  have e1 : (0 : Int32).toInt = 0 := rfl
  have e2 : (4 : Int32).toInt = 4 := rfl
  omega)
/-! the changes, in the order of the writes -/
abbrev bit (x : Int32) : Int32 := shl 1 x
def aAdmit (u : HV) (wd wt : Int32) : HV :=
  let u1 := hset u 1 (cN (u.1 0)) wd
  let u2 := hset u1 2 (cN (u.1 0)) wt
  hsc u2 0 (u2.1 0 + 1)
def aComeIn (u : HV) (x : Int32) : HV := hsc u 1 (u.1 1 ||| bit x)
def aGoOut (u : HV) (x : Int32) : HV := hsc u 1 (u.1 1 &&& (bit x ^^^ (-1)))
def aQuorum (u : HV) (n : Int32) : HV := hsc u 2 n
def cMask (f la : Int32) : Int64 := lsl (-1) f &&& lus (-1) (63 - la)
def aBring (u : HV) (f la : Int32) : HV :=
  let u1 := hcl u (vp_updL u.2.2 (cN (u.1 3)) (cMask f la))
  hsc u1 3 (u1.1 3 + 1)
def aFor (u : HV) (b x : Int32) : HV :=
  let u1 := hset u 6 (cN b) (u.2.1 6 (cN b) ||| bit x)
  hset u1 7 (cN b) (u1.2.1 7 (cN b) &&& (bit x ^^^ (-1)))
def aAgainst (u : HV) (b x : Int32) : HV :=
  let u1 := hset u 7 (cN b) (u.2.1 7 (cN b) ||| bit x)
  hset u1 6 (cN b) (u1.2.1 6 (cN b) &&& (bit x ^^^ (-1)))
def aFinish (u : HV) (b s : Int32) : HV := hset (hset (hset (hset u 3 (cN b) s) 6 (cN b) 0) 7 (cN b) 0) 8 (cN b) 0
abbrev sucE (u : HV) (b : Int32) : Prop := hW u (u.2.1 7 (cN b)) < hW u (u.2.1 6 (cN b))
def aEnd0 (u : HV) (b : Int32) : HV := hset (hset u 6 (cN b) 0) 7 (cN b) 0
def aEnd1 (u : HV) (b : Int32) : HV := hset (aEnd0 u b) 4 (cN b) ((aEnd0 u b).2.1 4 (cN b) + 1)
def aEnd (u : HV) (b : Int32) : HV :=
  if ¬ sucE u b then aFinish (aEnd0 u b) b 2 else if (aEnd1 u b).2.1 4 (cN b) < 3 then aEnd1 u b else aFinish (aEnd1 u b) b 1
def aMove (u : HV) (b x c : Int32) : HV :=
  let u1 := hset u (12 + cN b) (cN (u.2.1 8 (cN b))) c
  let u2 := hset u1 (20 + cN b) (cN (u.2.1 8 (cN b))) (bit x)
  hset u2 8 (cN b) (u2.2.1 8 (cN b) + 1)
def aSecond (u : HV) (b p x : Int32) : HV := hset u (20 + cN b) (cN p) (u.2.1 (20 + cN b) (cN p) ||| bit x)
abbrev accD (u : HV) (b : Int32) : Prop := hW u (u.1 1) < 2 * hW u (u.2.1 (20 + cN b) 0)
def aShift1 (v : HV) (b : Int32) (n : Nat) : HV :=
  let v1 := hset v (12 + cN b) n (v.2.1 (12 + cN b) (n + 1))
  hset v1 (20 + cN b) n (v1.2.1 (20 + cN b) (n + 1))
def aShift (u : HV) (b : Int32) : Nat → HV
  | 0 => u
  | n + 1 => aShift1 (aShift u b n) b n
def aDec0 (u : HV) (b : Int32) : HV :=
  let u1 := hcl u (vp_updL u.2.2 (cN b) (u.2.2 (cN b) ^^^ lsl 1 (u.2.1 (12 + cN b) 0)))
  hsc u1 4 (u1.1 4 + 1)
def aDec1 (u : HV) (b : Int32) : HV := hset u 8 (cN b) (u.2.1 8 (cN b) - 1)
def aDecide (u : HV) (b : Int32) : HV := aShift (aDec1 (if accD u b then aDec0 u b else u) b) b 3
def aHold0 (u : HV) (b n : Int32) : HV := hset u 5 (cN b) (u.2.1 5 (cN b) + n)
def aHold (u : HV) (b n : Int32) : HV := if hRust (aHold0 u b n) (cN b) < 3 then aHold0 u b n else aFinish (aHold0 u b n) b 2
abbrev Mu (Γ : Gm) (a : Nat → Nat) (v : Option Value) (u' : HV) (M : Hp) : Res → Hp → Prop := fun r M' => r = .inl v ∧ HRep Γ a u' M' ∧ Fr a 28 M M'

theorem HInv.nb {u : HV} (h : HInv u) : ∃ B : Nat, B ≤ 8 ∧ u.1 3 = nI B := by
  obtain ⟨B, h1, h2⟩ := nI_of2 (n := 8) (M := 8) rfl (Int32.not_lt.mpr h.2.1.1) h.2.1.2
  exact ⟨B, h1, h2⟩
theorem HInv.nm {u : HV} (h : HInv u) : ∃ B : Nat, B ≤ 24 ∧ u.1 0 = nI B := by
  obtain ⟨B, h1, h2⟩ := nI_of2 (n := 24) (M := 24) rfl (Int32.not_lt.mpr h.1.1) h.1.2
  exact ⟨B, h1, h2⟩
