/-! ===== the reference's reader of texts ===== -/
def XInv (q : Nat) (u : HV) : Prop := (∃ n : Nat, n ≤ 60 ∧ u.1 5 = nI n) ∧ (∃ p : Nat, p ≤ q ∧ u.1 6 = nI p) ∧ (∀ j, j < 60 → isCh (u.2.1 14 j)) ∧ (u.1 12 = 0 ∨ u.1 12 = 1)
theorem XInv.mono {q r : Nat} {u : HV} (h : XInv q u) (hq : q ≤ r) : XInv r u := by
  obtain ⟨h1, ⟨p, hp, e⟩, h3⟩ := h
  exact ⟨h1, ⟨p, by omega, e⟩, h3⟩
theorem XInv.ix {q : Nat} {u : HV} (h : XInv q u) (hq : q < 1000) (c : u.1 6 < u.1 5) : vp_in (u.1 6) 60 := by
  obtain ⟨⟨n, hn, e1⟩, ⟨p, hp, e2⟩, -⟩ := h
  rw [e2]
  refine vp_in_nI ?_ (by decide)
  rw [e1, e2] at c
  have := (nI_ltI (by omega) (by omega)).mp c
  omega
abbrev xCh (u : HV) : Int32 := u.2.1 14 (cN (u.1 6))
abbrev xAdv (u : HV) : HV := hsc u 6 (u.1 6 + 1)
abbrev xBad (u : HV) : HV := hsc u 12 1
abbrev rSees (u : HV) (lo hi : Int32) : Prop := u.1 12 = 0 ∧ u.1 6 < u.1 5 ∧ btw (xCh u) lo hi
def rSeen (u : HV) : Int32 := if u.1 12 = 0 ∧ u.1 6 < u.1 5 then xCh u else 32
theorem XInv.ch {q : Nat} {u : HV} (h : XInv q u) (hq : q < 1000) (c : u.1 6 < u.1 5) : isCh (xCh u) := h.2.2.1 _ (vin_lt (h.ix hq c))
theorem XInv.seen {q : Nat} {u : HV} (h : XInv q u) (hq : q < 1000) : isCh (rSeen u) := by
  unfold rSeen
  split
  · rename_i c
    exact h.ch hq c.2
  · exact ⟨32, by decide, rfl⟩
theorem XInv.adv {q : Nat} {u : HV} (h : XInv q u) (hq : 60 ≤ q) (hq2 : q < 1000) (c : u.1 6 < u.1 5) : XInv q (xAdv u) := by
  obtain ⟨⟨n, hn, e1⟩, ⟨p, hp, e2⟩, h3⟩ := h
  refine ⟨⟨n, hn, e1⟩, ⟨p + 1, ?_, ?_⟩, h3⟩
  · rw [e1, e2] at c
    have := (nI_ltI (by omega) (by omega)).mp c
    omega
  · show u.1 6 + 1 = _
    rw [e2, nI_1]
theorem XInv.bad {q : Nat} {u : HV} (h : XInv q u) : XInv q (xBad u) := ⟨h.1, h.2.1, h.2.2.1, Or.inr rfl⟩
theorem XInv.sc {q : Nat} {u : HV} (h : XInv q u) {s : Nat} {v : Int32} (h5 : s ≠ 5) (h6 : s ≠ 6) (h12 : s ≠ 12) : XInv q (hsc u s v) := by
  obtain ⟨h1, h2, h3, h4⟩ := h
  refine ⟨?_, ?_, h3, ?_⟩
  · rw [hsc_n (Ne.symm h5)]; exact h1
  · rw [hsc_n (Ne.symm h6)]; exact h2
  · rw [hsc_n (Ne.symm h12)]; exact h4
theorem hsc_id {u : HV} {s : Nat} {v : Int32} (h : u.1 s = v) : hsc u s v = u := by
  subst h
  unfold hsc
  refine Prod.ext ?_ rfl
  funext k
  show va_up u.1 s (u.1 s) k = u.1 k
  unfold va_up
  by_cases e : k = s
  · rw [if_pos e, e]
  · rw [if_neg e]
noncomputable def mMust (u : HV) (c : Int32) : HV := @ite _ (rSees u c c) (Classical.propDecidable _) (xAdv u) (xBad u)
theorem mMust_y {u : HV} {c : Int32} (h : rSees u c c) : mMust u c = xAdv u := @if_pos _ (Classical.propDecidable _) h _ _ _
theorem mMust_n {u : HV} {c : Int32} (h : ¬ rSees u c c) : mMust u c = xBad u := @if_neg _ (Classical.propDecidable _) h _ _ _
theorem XInv.must {q : Nat} {u : HV} (h : XInv q u) (hq : 60 ≤ q) (hq2 : q < 1000) (c : Int32) : XInv q (mMust u c) := by
  by_cases k : rSees u c c
  · rw [mMust_y k]; exact h.adv hq hq2 k.2.1
  · rw [mMust_n k]; exact h.bad
noncomputable def mRdN (d : Int32) (u : HV) : Int32 × HV := @ite _ (rSees u 48 57) (Classical.propDecidable _) (if d = 1 then (0 + xCh u - 48, xAdv u) else @ite _ (rSees (xAdv u) 48 57) (Classical.propDecidable _) (10 * (0 + xCh u - 48) + xCh (xAdv u) - 48, xAdv (xAdv u)) (0 + xCh u - 48, xAdv u)) (0, xBad u)
theorem mRdN_n {d : Int32} {u : HV} (h : ¬ rSees u 48 57) : mRdN d u = (0, xBad u) := @if_neg _ (Classical.propDecidable _) h _ _ _
theorem mRdN_1 {u : HV} (h : rSees u 48 57) : mRdN 1 u = (0 + xCh u - 48, xAdv u) := (@if_pos _ (Classical.propDecidable _) h _ _ _).trans (if_pos rfl)
theorem mRdN_2n {u : HV} (h : rSees u 48 57) (h2 : ¬ rSees (xAdv u) 48 57) : mRdN 2 u = (0 + xCh u - 48, xAdv u) := (@if_pos _ (Classical.propDecidable _) h _ _ _).trans ((if_neg (by decide)).trans (@if_neg _ (Classical.propDecidable _) h2 _ _ _))
theorem mRdN_2y {u : HV} (h : rSees u 48 57) (h2 : rSees (xAdv u) 48 57) : mRdN 2 u = (10 * (0 + xCh u - 48) + xCh (xAdv u) - 48, xAdv (xAdv u)) := (@if_pos _ (Classical.propDecidable _) h _ _ _).trans ((if_neg (by decide)).trans (@if_pos _ (Classical.propDecidable _) h2 _ _ _))
theorem XInv.rdn {q : Nat} {u : HV} (h : XInv q u) (hq : 60 ≤ q) (hq2 : q < 1000) {d : Int32} (hd : d = 1 ∨ d = 2) : XInv q (mRdN d u).2 := by
  by_cases k : rSees u 48 57
  · rcases hd with rfl | rfl
    · rw [mRdN_1 k]; exact h.adv hq hq2 k.2.1
    · by_cases k2 : rSees (xAdv u) 48 57
      · rw [mRdN_2y k k2]; exact (h.adv hq hq2 k.2.1).adv hq hq2 k2.2.1
      · rw [mRdN_2n k k2]; exact h.adv hq hq2 k.2.1
  · rw [mRdN_n k]; exact h.bad
noncomputable abbrev mRb (u : HV) (c d : Int32) : Int32 × HV := mRdN d (mMust u c)
theorem XInv.rb {q : Nat} {u : HV} (h : XInv q u) (hq : 60 ≤ q) (hq2 : q < 1000) {c d : Int32} (hd : d = 1 ∨ d = 2) : XInv q (mRb u c d).2 := (h.must hq hq2 c).rdn hq hq2 hd
/-- which keyword a first character picks -/
def kIx (x : Int32) : Nat := if x = 101 then 13 else if x = 108 then 14 else if x = 113 then 15 else if x = 98 then 16 else if x = 121 then 17 else if x = 110 then 18 else if x = 99 then 19 else if x = 97 then 20 else if x = 115 then 21 else if x = 100 then 22 else if x = 114 then 23 else 24
theorem kIx_lt (x : Int32) : kIx x < 25 := by
  unfold kIx
  repeat' split
  all_goals decide
theorem kIx_24 {x : Int32} (h : ∀ k, k ∈ ([101, 108, 113, 98, 121, 110, 99, 97, 115, 100, 114] : List Int32) → ¬ x = k) : kIx x = 24 := by
  unfold kIx
  rw [if_neg (h _ (by decide)), if_neg (h _ (by decide)), if_neg (h _ (by decide)), if_neg (h _ (by decide)), if_neg (h _ (by decide)), if_neg (h _ (by decide)), if_neg (h _ (by decide)), if_neg (h _ (by decide)), if_neg (h _ (by decide)), if_neg (h _ (by decide)), if_neg (h _ (by decide))]
abbrev kBy (x : Int32) : List Int32 := sByt.getD (kIx x) []
noncomputable def mKw : List Int32 → HV → HV
  | [], u => u
  | c :: cs, u => mKw cs (mMust u c)
theorem XInv.kw {q : Nat} (hq : 60 ≤ q) (hq2 : q < 1000) : ∀ (cs : List Int32) {u : HV}, XInv q u → XInv q (mKw cs u)
  | [], _, h => h
  | c :: cs, _, h => XInv.kw hq hq2 cs (h.must hq hq2 c)
/-- must and numbers leave the other scalars and all rows as they are -/
def Tx (u v : HV) : Prop := (∀ s, s ≠ 6 → s ≠ 12 → v.1 s = u.1 s) ∧ v.2 = u.2
theorem Tx.rf {u : HV} : Tx u u := ⟨fun _ _ _ => rfl, rfl⟩
theorem Tx.tr {u v w : HV} (h : Tx u v) (h2 : Tx v w) : Tx u w := ⟨fun s h6 h12 => (h2.1 s h6 h12).trans (h.1 s h6 h12), h2.2.trans h.2⟩
theorem Tx.adv {u : HV} : Tx u (xAdv u) := ⟨fun _ h _ => hsc_n h, rfl⟩
theorem Tx.bad {u : HV} : Tx u (xBad u) := ⟨fun _ _ h => hsc_n h, rfl⟩
theorem Tx.must {u : HV} (c : Int32) : Tx u (mMust u c) := by
  by_cases k : rSees u c c
  · rw [mMust_y k]; exact Tx.adv
  · rw [mMust_n k]; exact Tx.bad
theorem Tx.rdn {u : HV} {d : Int32} (hd : d = 1 ∨ d = 2) : Tx u (mRdN d u).2 := by
  by_cases k : rSees u 48 57
  · rcases hd with rfl | rfl
    · rw [mRdN_1 k]; exact Tx.adv
    · by_cases k2 : rSees (xAdv u) 48 57
      · rw [mRdN_2y k k2]; exact Tx.adv.tr Tx.adv
      · rw [mRdN_2n k k2]; exact Tx.adv
  · rw [mRdN_n k]; exact Tx.bad
theorem Tx.rb {u : HV} {c d : Int32} (hd : d = 1 ∨ d = 2) : Tx u (mRb u c d).2 := (Tx.must c).tr (Tx.rdn hd)
theorem Tx.kw : ∀ (cs : List Int32) {u : HV}, Tx u (mKw cs u)
  | [], _ => Tx.rf
  | c :: cs, _ => (Tx.must c).tr (Tx.kw cs)
abbrev mSet (s : Nat) (q : Int32 × HV) : HV := hsc q.2 s q.1
noncomputable def mOth1 (u : HV) : HV := mSet 9 (mRb u 32 1)
noncomputable def mOther (x : Int32) (u : HV) : HV :=
  if x = 121 then mSet 10 (mRb (mOth1 u) 32 2) else if x = 110 then mSet 10 (mRb (mOth1 u) 32 2)
  else if x = 115 then mSet 11 (mRb (mSet 10 (mRdN 1 (mOth1 u))) 32 2)
  else if x = 99 then mOth1 u else if x = 100 then mOth1 u else mSet 10 (mRdN 1 (mOth1 u))
noncomputable def mAr1 (u : HV) : HV := mSet 9 (mRb u 32 2)
noncomputable def mAr3 (u : HV) (c1 d1 d2 c3 : Int32) : HV := mSet 11 (mRb (mSet 10 (mRb (mSet 9 (mRb u 32 d1)) 32 d2)) c3 2)
noncomputable def mArg (x : Int32) (u : HV) : HV :=
  if x = 97 then mAr3 u 0 1 2 32 else if x = 98 then mAr3 u 0 2 2 45 else if x = 101 then mAr1 u else if x = 108 then mAr1 u else if x = 113 then mAr1 u else if x = 114 then mAr3 u 0 2 1 32 else mOther x u
noncomputable def mCmd (u : HV) : HV := mArg (rSeen u) (mKw (kBy (rSeen u)) (hsc u 13 (rSeen u)))
theorem XInv.oth1 {q : Nat} {u : HV} (h : XInv q u) (hq : 60 ≤ q) (hq2 : q < 1000) : XInv q (mOth1 u) := (h.rb hq hq2 (Or.inl rfl)).sc (by decide) (by decide) (by decide)
theorem XInv.other {q : Nat} {u : HV} (h : XInv q u) (hq : 60 ≤ q) (hq2 : q < 1000) (x : Int32) : XInv q (mOther x u) := by
  have h1 := h.oth1 hq hq2
  unfold mOther
  split
  · exact (h1.rb hq hq2 (Or.inr rfl)).sc (by decide) (by decide) (by decide)
  split
  · exact (h1.rb hq hq2 (Or.inr rfl)).sc (by decide) (by decide) (by decide)
  split
  · exact ((((h1.rdn hq hq2 (Or.inl rfl)).sc (by decide) (by decide) (by decide)).rb hq hq2 (Or.inr rfl))).sc (by decide) (by decide) (by decide)
  split
  · exact h1
  split
  · exact h1
  · exact (h1.rdn hq hq2 (Or.inl rfl)).sc (by decide) (by decide) (by decide)
theorem XInv.ar1 {q : Nat} {u : HV} (h : XInv q u) (hq : 60 ≤ q) (hq2 : q < 1000) : XInv q (mAr1 u) := (h.rb hq hq2 (Or.inr rfl)).sc (by decide) (by decide) (by decide)
theorem XInv.ar3 {q : Nat} {u : HV} (h : XInv q u) (hq : 60 ≤ q) (hq2 : q < 1000) {c1 d1 d2 c3 : Int32} (h1 : d1 = 1 ∨ d1 = 2) (h2 : d2 = 1 ∨ d2 = 2) : XInv q (mAr3 u c1 d1 d2 c3) :=
  (((((h.rb hq hq2 h1).sc (by decide) (by decide) (by decide)).rb hq hq2 h2).sc (by decide) (by decide) (by decide)).rb hq hq2 (Or.inr rfl)).sc (by decide) (by decide) (by decide)
theorem XInv.arg {q : Nat} {u : HV} (h : XInv q u) (hq : 60 ≤ q) (hq2 : q < 1000) (x : Int32) : XInv q (mArg x u) := by
  unfold mArg
  split
  · exact h.ar3 hq hq2 (Or.inl rfl) (Or.inr rfl)
  split
  · exact h.ar3 hq hq2 (Or.inr rfl) (Or.inr rfl)
  split
  · exact h.ar1 hq hq2
  split
  · exact h.ar1 hq hq2
  split
  · exact h.ar1 hq hq2
  split
  · exact h.ar3 hq hq2 (Or.inr rfl) (Or.inl rfl)
  · exact h.other hq hq2 x
theorem XInv.cmd {q : Nat} {u : HV} (h : XInv q u) (hq : 60 ≤ q) (hq2 : q < 1000) : XInv q (mCmd u) := (XInv.kw hq hq2 _ (h.sc (by decide) (by decide) (by decide))).arg hq hq2 _
