/-! ===== the reader of commands: what its methods answer, out of u ===== -/
abbrev isCh (x : Int32) : Prop := ∃ c : Nat, c < 128 ∧ x = nI c
theorem isCh.nar {x : Int32} (h : isCh x) : narrow .char (.int x) = .int x := by
  obtain ⟨c, hc, rfl⟩ := h
  exact (pk_charN (by omega)).1
theorem isCh.fit {x : Int32} (h : isCh x) : fits .char (.int x) = true := by
  obtain ⟨c, hc, rfl⟩ := h
  exact (pk_charN (by omega)).2
def TInv (u : HV) : Prop := (∃ n : Nat, n ≤ 60 ∧ u.1 0 = nI n) ∧ (∃ p : Nat, p ≤ 60 ∧ u.1 1 = nI p) ∧ (∀ j, j < 60 → isCh (u.2.1 1 j)) ∧ (∃ r : Nat, r ≤ 3 ∧ u.1 3 = nI r)
def tNx (u : HV) : Int32 := if u.1 1 < u.1 0 then u.2.1 1 (cN (u.1 1)) else 0
def tAdv (u : HV) : HV := hsc u 1 (u.1 1 + 1)
abbrev isDig (x : Int32) : Prop := 48 ≤ x ∧ x ≤ 57
def tSign (u : HV) (c : Int32) : HV := if tNx u = c then tAdv u else u
def tPut (u : HV) (n : Int32) : HV :=
  if u.1 3 < 3 then (let u1 := hset u 2 (cN (u.1 3)) n; hsc u1 3 (u1.1 3 + 1)) else u
def tNum (u : HV) (c : Int32) : HV :=
  let u1 := tAdv u
  if c = 78 ∧ isDig (tNx u1) then tPut (tAdv u1) ((tNx u - 48) * 10 + (tNx u1 - 48)) else tPut u1 (tNx u - 48)
def tOk (u : HV) (c : Int32) : Prop := if c = 68 ∨ c = 78 then isDig (tNx u) else tNx u = c
noncomputable def tPart (u : HV) (c : Int32) : HV := if c = 68 ∨ c = 78 then (@ite HV (isDig (tNx u)) (Classical.propDecidable _) (tNum u c) u) else tSign u c
noncomputable def tL : List Int32 → HV → HV
  | [], u => u
  | c :: cs, u => @ite HV (tOk u c) (Classical.propDecidable _) (tL cs (tPart u c)) (tPart u c)
def okL : List Int32 → HV → Prop
  | [], _ => True
  | c :: cs, u => tOk u c ∧ okL cs (tPart u c)
/-- which form a first character picks -/
def fIx (x : Int32) : Nat := if x = 109 then 0 else if x = 101 then 1 else if x = 108 then 2 else if x = 113 then 3 else if x = 98 then 4 else if x = 121 then 5 else if x = 110 then 6 else if x = 99 then 7 else if x = 97 then 8 else if x = 115 then 9 else if x = 100 then 10 else if x = 114 then 11 else 12
theorem fIx_lt (x : Int32) : fIx x < 25 := by
  unfold fIx
  repeat' split
  all_goals decide
def tBeg (u : HV) : HV := hsc (hsc u 2 (tNx u)) 3 0
abbrev fParts (x : Int32) : List Int32 := sByt.getD (fIx x) []
noncomputable def tCmd (u : HV) : HV := tL (fParts (tNx u)) (tBeg u)
def okCmd (u : HV) : Prop := okL (fParts (tNx u)) (tBeg u) ∧ fIx (tNx u) ≠ 12
noncomputable def tCnt : Nat → Int32 → HV → Int32 × HV
  | 0, _, u => (-1, u)
  | k + 1, c, u => @ite (Int32 × HV) (okCmd u) (Classical.propDecidable _) (if (tCmd u).1 1 = (tCmd u).1 0 then (c, tCmd u) else if tNx (tCmd u) = 59 then tCnt k (c + 1) (tAdv (tCmd u)) else (-1, tCmd u)) (-1, tCmd u)
abbrev TMu (Γ : Gm) (a : Nat → Nat) (v : Option Value) (u' : HV) (M : Hp) : Res → Hp → Prop := fun r M' => r = .inl v ∧ TRep Γ a u' M' ∧ Fr a 3 M M'
/-! what the steps keep -/
theorem TInv.ix {u : HV} (h : TInv u) (c : u.1 1 < u.1 0) : vp_in (u.1 1) 60 := by
  obtain ⟨⟨n, hn, e1⟩, ⟨p, hp, e2⟩, -⟩ := h
  rw [e2]
  refine vp_in_nI ?_ (by decide)
  rw [e1, e2] at c
  have := (nI_ltI (by omega) (by omega)).mp c
  omega
theorem TInv.nx {u : HV} (h : TInv u) : isCh (tNx u) := by
  unfold tNx
  split
  · rename_i c
    exact h.2.2.1 _ (vin_lt (h.ix c))
  · exact ⟨0, by decide, rfl⟩
theorem TInv.adv {u : HV} (h : TInv u) (c : ¬ tNx u = 0) : TInv (tAdv u) := by
  have c2 : u.1 1 < u.1 0 := by
    unfold tNx at c
    split at c
    · assumption
    · exact absurd rfl c
  obtain ⟨⟨n, hn, e1⟩, ⟨p, hp, e2⟩, h3, h4⟩ := h
  refine ⟨⟨n, hn, e1⟩, ⟨p + 1, ?_, ?_⟩, h3, h4⟩
  · rw [e1, e2] at c2
    have := (nI_ltI (by omega) (by omega)).mp c2
    omega
  · show u.1 1 + 1 = _
    rw [e2]
    exact nI_1 p
theorem TInv.dig {u : HV} (h : isDig (tNx u)) : ¬ tNx u = 0 := fun e => by
  rw [e] at h
  exact absurd h.1 (by decide)
theorem TInv.beg {u : HV} (h : TInv u) : TInv (tBeg u) := ⟨h.1, h.2.1, h.2.2.1, 0, by decide, rfl⟩
theorem TInv.put {u : HV} (h : TInv u) (n : Int32) : TInv (tPut u n) := by
  unfold tPut
  split
  · rename_i c
    obtain ⟨h1, h2, h3, ⟨r, hr, e⟩⟩ := h
    refine ⟨h1, h2, ?_, ⟨r + 1, ?_, ?_⟩⟩
    · exact h3
    · rw [e] at c
      have := (nI_ltI (a := r) (b := 3) (by omega) (by decide)).mp c
      omega
    · show u.1 3 + 1 = _
      rw [e]
      exact nI_1 r
  · exact h
theorem TInv.part {u : HV} (h : TInv u) {c : Int32} (hc : ¬ c = 0) : TInv (tPart u c) := by
  unfold tPart
  split
  · by_cases hd : isDig (tNx u)
    · rw [@if_pos _ (Classical.propDecidable _) hd]
      unfold tNum
      have h1 := h.adv (TInv.dig hd)
      dsimp only
      split
      · rename_i c2
        exact (h1.adv (TInv.dig c2.2)).put _
      · exact h1.put _
    · rw [@if_neg _ (Classical.propDecidable _) hd]
      exact h
  · unfold tSign
    split
    · rename_i c2
      exact h.adv (by rw [c2]; exact hc)
    · exact h
