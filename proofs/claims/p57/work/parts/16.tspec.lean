/-! ===== the reader of commands: what its methods answer, out of u ===== -/
abbrev isCh (x : Int32) : Prop := ∃ c : Nat, c < 128 ∧ x = nI c
theorem isCh.nar {x : Int32} (h : isCh x) : narrow .char (.int x) = .int x := by
  obtain ⟨c, hc, rfl⟩ := h
  exact (pk_charN (by omega)).1
theorem isCh.fit {x : Int32} (h : isCh x) : fits .char (.int x) = true := by
  obtain ⟨c, hc, rfl⟩ := h
  exact (pk_charN (by omega)).2
def TInv (u : HV) : Prop := (∃ n : Nat, n ≤ 60 ∧ u.1 0 = nI n) ∧ (∃ p : Nat, p ≤ 60 ∧ u.1 1 = nI p) ∧ (∀ j, j < 60 → isCh (u.2.1 1 j)) ∧ (∃ r : Nat, r ≤ 3 ∧ u.1 3 = nI r)
def tNx (u : HV) : Int32 := if u.1 1 < u.1 0 then u.2.1 1 (cN (u.1 1)) else 0
def tAdv (u : HV) : HV := hsc u 1 (u.1 1 + 1)
abbrev isDig (x : Int32) : Prop := 48 ≤ x ∧ x ≤ 57
def tSign (u : HV) (c : Int32) : HV := if tNx u = c then tAdv u else u
def tPut (u : HV) (n : Int32) : HV :=
  if u.1 3 < 3 then (let u1 := hset u 2 (cN (u.1 3)) n; hsc u1 3 (u1.1 3 + 1)) else u
def tNum (u : HV) (c : Int32) : HV :=
  let u1 := tAdv u
  if c = 78 ∧ isDig (tNx u1) then tPut (tAdv u1) ((tNx u - 48) * 10 + (tNx u1 - 48)) else tPut u1 (tNx u - 48)
def tOk (u : HV) (c : Int32) : Prop := if c = 68 ∨ c = 78 then isDig (tNx u) else tNx u = c
noncomputable def tPart (u : HV) (c : Int32) : HV := if c = 68 ∨ c = 78 then (@ite HV (isDig (tNx u)) (Classical.propDecidable _) (tNum u c) u) else tSign u c
noncomputable def tL : List Int32 → HV → HV
  | [], u => u
  | c :: cs, u => @ite HV (tOk u c) (Classical.propDecidable _) (tL cs (tPart u c)) (tPart u c)
def okL : List Int32 → HV → Prop
  | [], _ => True
  | c :: cs, u => tOk u c ∧ okL cs (tPart u c)
/-- which form a first character picks -/
def fIx (x : Int32) : Nat := if x = 109 then 0 else if x = 101 then 1 else if x = 108 then 2 else if x = 113 then 3 else if x = 98 then 4 else if x = 121 then 5 else if x = 110 then 6 else if x = 99 then 7 else if x = 97 then 8 else if x = 115 then 9 else if x = 100 then 10 else if x = 114 then 11 else 12
theorem fIx_lt (x : Int32) : fIx x < 44 := by
  unfold fIx
  repeat' split
  all_goals decide
def tBeg (u : HV) : HV := hsc (hsc u 2 (tNx u)) 3 0
abbrev fParts (x : Int32) : List Int32 := sByt.getD (fIx x) []
noncomputable def tCmd (u : HV) : HV := tL (fParts (tNx u)) (tBeg u)
def okCmd (u : HV) : Prop := okL (fParts (tNx u)) (tBeg u) ∧ fIx (tNx u) ≠ 12
noncomputable def tCnt : Nat → Int32 → HV → Int32 × HV
  | 0, _, u => (-1, u)
  | k + 1, c, u => @ite (Int32 × HV) (okCmd u) (Classical.propDecidable _) (if (tCmd u).1 1 = (tCmd u).1 0 then (c, tCmd u) else if tNx (tCmd u) = 59 then tCnt k (c + 1) (tAdv (tCmd u)) else (-1, tCmd u)) (-1, tCmd u)
abbrev TMu (Γ : Gm) (a : Nat → Nat) (v : Option Value) (u' : HV) (M : Hp) : Res → Hp → Prop := fun r M' => r = .inl v ∧ TRep Γ a u' M' ∧ Fr a 3 M M'
/-! what the steps keep -/
theorem TInv.ix {u : HV} (h : TInv u) (c : u.1 1 < u.1 0) : vp_in (u.1 1) 60 := by
  obtain ⟨⟨n, hn, e1⟩, ⟨p, hp, e2⟩, -⟩ := h
  rw [e2]
  refine vp_in_nI ?_ (by decide)
  rw [e1, e2] at c
  have := (nI_ltI (by omega) (by omega)).mp c
  omega
theorem TInv.nx {u : HV} (h : TInv u) : isCh (tNx u) := by
  unfold tNx
  split
  · rename_i c
    exact h.2.2.1 _ (vin_lt (h.ix c))
  · exact ⟨0, by decide, rfl⟩
theorem TInv.adv {u : HV} (h : TInv u) (c : ¬ tNx u = 0) : TInv (tAdv u) := by
  have c2 : u.1 1 < u.1 0 := by
    unfold tNx at c
    split at c
    · assumption
    · exact absurd rfl c
  obtain ⟨⟨n, hn, e1⟩, ⟨p, hp, e2⟩, h3, h4⟩ := h
  refine ⟨⟨n, hn, e1⟩, ⟨p + 1, ?_, ?_⟩, h3, h4⟩
  · rw [e1, e2] at c2
    have := (nI_ltI (by omega) (by omega)).mp c2
    omega
  · show u.1 1 + 1 = _
    rw [e2]
    exact nI_1 p
theorem TInv.dig {u : HV} (h : isDig (tNx u)) : ¬ tNx u = 0 := fun e => by
  rw [e] at h
  exact absurd h.1 (by decide)
theorem TInv.beg {u : HV} (h : TInv u) : TInv (tBeg u) := ⟨h.1, h.2.1, h.2.2.1, 0, by decide, rfl⟩
theorem TInv.put {u : HV} (h : TInv u) (n : Int32) : TInv (tPut u n) := by
  unfold tPut
  split
  · rename_i c
    obtain ⟨h1, h2, h3, ⟨r, hr, e⟩⟩ := h
    refine ⟨h1, h2, ?_, ⟨r + 1, ?_, ?_⟩⟩
    · exact h3
    · rw [e] at c
      have := (nI_ltI (a := r) (b := 3) (by omega) (by decide)).mp c
      omega
    · show u.1 3 + 1 = _
      rw [e]
      exact nI_1 r
  · exact h
theorem TInv.part {u : HV} (h : TInv u) {c : Int32} (hc : ¬ c = 0) : TInv (tPart u c) := by
  unfold tPart
  split
  · by_cases hd : isDig (tNx u)
    · rw [@if_pos _ (Classical.propDecidable _) hd]
      unfold tNum
      have h1 := h.adv (TInv.dig hd)
      dsimp only
      split
      · rename_i c2
        exact (h1.adv (TInv.dig c2.2)).put _
      · exact h1.put _
    · rw [@if_neg _ (Classical.propDecidable _) hd]
      exact h
  · unfold tSign
    split
    · rename_i c2
      exact h.adv (by rw [c2]; exact hc)
    · exact h
def tPutS (u : HV) (c : Int32) : HV := let u1 := hset u 1 (cN (u.1 0)) c; hsc u1 0 (u1.1 0 + 1)
theorem tOk_d {u : HV} {c : Int32} (h : c = 68 ∨ c = 78) : tOk u c = isDig (tNx u) := if_pos h
theorem tOk_s {u : HV} {c : Int32} (h1 : ¬ c = 68) (h2 : ¬ c = 78) : tOk u c = (tNx u = c) := if_neg (fun h => h.elim h1 h2)
theorem tPart_s {u : HV} {c : Int32} (h1 : ¬ c = 68) (h2 : ¬ c = 78) : tPart u c = tSign u c := if_neg (fun h => h.elim h1 h2)
theorem tPart_n {u : HV} {c : Int32} (h : c = 68 ∨ c = 78) (hd : ¬ isDig (tNx u)) : tPart u c = u := (if_pos h).trans (@if_neg _ (Classical.propDecidable _) hd _ _ _)
theorem tPart_d {u : HV} {c : Int32} (h : c = 68 ∨ c = 78) (hd : isDig (tNx u)) : tPart u c = tNum u c := (if_pos h).trans (@if_pos _ (Classical.propDecidable _) hd _ _ _)
theorem tNum_1 {u : HV} {c : Int32} (h : ¬ (c = 78 ∧ isDig (tNx (tAdv u)))) : tNum u c = tPut (tAdv u) (tNx u - 48) := if_neg h
theorem tNum_2 {u : HV} {c : Int32} (h : c = 78 ∧ isDig (tNx (tAdv u))) : tNum u c = tPut (tAdv (tAdv u)) ((tNx u - 48) * 10 + (tNx (tAdv u) - 48)) := if_pos h
theorem tPut_y {u : HV} {n : Int32} (h : u.1 3 < 3) : tPut u n = hsc (hset u 2 (cN (u.1 3)) n) 3 ((hset u 2 (cN (u.1 3)) n).1 3 + 1) := if_pos h
theorem tPut_n {u : HV} {n : Int32} (h : ¬ u.1 3 < 3) : tPut u n = u := if_neg h
theorem tSign_y {u : HV} {c : Int32} (h : tNx u = c) : tSign u c = tAdv u := if_pos h
theorem tSign_n {u : HV} {c : Int32} (h : ¬ tNx u = c) : tSign u c = u := if_neg h
theorem tL_y {u : HV} {c : Int32} {cs : List Int32} (h : tOk u c) : tL (c :: cs) u = tL cs (tPart u c) := @if_pos _ (Classical.propDecidable _) h _ _ _
theorem tL_n {u : HV} {c : Int32} {cs : List Int32} (h : ¬ tOk u c) : tL (c :: cs) u = tPart u c := @if_neg _ (Classical.propDecidable _) h _ _ _
theorem TInv.nr {u : HV} (h : TInv u) (c : u.1 3 < 3) : vp_in (u.1 3) 3 := by
  obtain ⟨-, -, -, ⟨r, hr, e⟩⟩ := h
  rw [e] at c ⊢
  have := (nI_ltI (a := r) (b := 3) (by omega) (by decide)).mp c
  exact vp_in_nI this (by decide)
theorem TInv.tL : ∀ (cs : List Int32) {u : HV}, (∀ c, c ∈ cs → ¬ c = 0) → TInv u → TInv (tL cs u)
  | [], _, _, h => h
  | c :: cs, u, hc, h => by
    have h1 := h.part (hc c (List.mem_cons_self ..))
    by_cases k : tOk u c
    · rw [tL_y k]; exact TInv.tL cs (fun c hm => hc c (List.mem_cons_of_mem _ hm)) h1
    · rw [tL_n k]; exact h1
theorem sB_nz : ∀ i, i < 44 → ∀ c, c ∈ sByt.getD i [] → ¬ c = 0 := by decide +kernel
theorem TInv.cmd {u : HV} (h : TInv u) : TInv (tCmd u) := TInv.tL _ (sB_nz _ (fIx_lt _)) h.beg
theorem TInv.rew {u : HV} (h : TInv u) : TInv (hsc u 1 0) := ⟨h.1, ⟨0, by decide, rfl⟩, h.2.2.1, h.2.2.2⟩
theorem tCnt_0 {c : Int32} {u : HV} : tCnt 0 c u = (-1, u) := rfl
theorem tCnt_n {k : Nat} {c : Int32} {u : HV} (h : ¬ okCmd u) : tCnt (k + 1) c u = (-1, tCmd u) := @if_neg _ (Classical.propDecidable _) h _ _ _
theorem tCnt_e {k : Nat} {c : Int32} {u : HV} (h : okCmd u) (h2 : (tCmd u).1 1 = (tCmd u).1 0) : tCnt (k + 1) c u = (c, tCmd u) := (@if_pos _ (Classical.propDecidable _) h _ _ _).trans (if_pos h2)
theorem tCnt_s {k : Nat} {c : Int32} {u : HV} (h : okCmd u) (h2 : ¬ (tCmd u).1 1 = (tCmd u).1 0) (h3 : tNx (tCmd u) = 59) : tCnt (k + 1) c u = tCnt k (c + 1) (tAdv (tCmd u)) := (@if_pos _ (Classical.propDecidable _) h _ _ _).trans ((if_neg h2).trans (if_pos h3))
theorem tCnt_x {k : Nat} {c : Int32} {u : HV} (h : okCmd u) (h2 : ¬ (tCmd u).1 1 = (tCmd u).1 0) (h3 : ¬ tNx (tCmd u) = 59) : tCnt (k + 1) c u = (-1, tCmd u) := (@if_pos _ (Classical.propDecidable _) h _ _ _).trans ((if_neg h2).trans (if_neg h3))
theorem TInv.sg {u : HV} (h : TInv u) (c : tNx u = 59) : TInv (tAdv u) := h.adv (by rw [c]; decide)
theorem TInv.cnt : ∀ (k : Nat) (c : Int32) {u : HV}, TInv u → TInv (tCnt k c u).2
  | 0, _, _, h => h
  | k + 1, c, u, h => by
    by_cases h1 : okCmd u
    · by_cases h2 : (tCmd u).1 1 = (tCmd u).1 0
      · rw [tCnt_e h1 h2]; exact h.cmd
      · by_cases h3 : tNx (tCmd u) = 59
        · rw [tCnt_s h1 h2 h3]; exact TInv.cnt k (c + 1) (h.cmd.sg h3)
        · rw [tCnt_x h1 h2 h3]; exact h.cmd
    · rw [tCnt_n h1]; exact h.cmd
theorem fIx_12 {x : Int32} (h : ∀ k, k ∈ ([109, 101, 108, 113, 98, 121, 110, 99, 97, 115, 100, 114] : List Int32) → ¬ x = k) : fIx x = 12 := by
  unfold fIx
  rw [if_neg (h _ (by decide)), if_neg (h _ (by decide)), if_neg (h _ (by decide)), if_neg (h _ (by decide)), if_neg (h _ (by decide)), if_neg (h _ (by decide)), if_neg (h _ (by decide)), if_neg (h _ (by decide)), if_neg (h _ (by decide)), if_neg (h _ (by decide)), if_neg (h _ (by decide)), if_neg (h _ (by decide))]
theorem fIx_le (x : Int32) : fIx x ≤ 12 := by
  unfold fIx
  repeat' split
  all_goals decide
theorem sN_0 : ∀ i, i ≤ 12 → (nI (sN i) = 0 ↔ i = 12) := by decide +kernel
theorem sB_drop : ∀ i, i < 44 → ∀ j, j < sN i → (sByt.getD i []).drop j = sB i j :: (sByt.getD i []).drop (j + 1) := by decide +kernel
theorem sB_end : ∀ i, i < 44 → (sByt.getD i []).drop (sN i) = [] := by decide +kernel
theorem sN_28 : ∀ i, i < 44 → nI (sN i) = nI (sN i) ∧ sN i < 2 ^ 31 := fun i hi => ⟨rfl, Nat.lt_trans (sN_lt i hi) (by decide)⟩
theorem nI_leJ {a b : Nat} (ha : a < 2 ^ 31) (hb : b < 2 ^ 31) : nI a ≤ nI b ↔ a ≤ b := by
  rw [← Int32.not_lt, nI_ltI hb ha]
  omega
