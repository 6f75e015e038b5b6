/-! ===== counting the commands ===== -/
/-- a text of exactly k commands from here -/
def WF : Nat → HV → Prop
  | 0, _ => False
  | 1, T => okCmd T
  | k + 2, T => okCmd T ∧ tNx (tCmd T) = 59 ∧ WF (k + 1) (tAdv (tCmd T))
def TE (T T' : HV) : Prop := T.1 0 = T'.1 0 ∧ T.1 1 = T'.1 1 ∧ T.2.1 1 = T'.2.1 1
theorem TE.nx {T T' : HV} (h : TE T T') : tNx T = tNx T' := by
  unfold tNx
  rw [h.1, h.2.1, h.2.2]
theorem TE.adv {T T' : HV} (h : TE T T') : TE (tAdv T) (tAdv T') := ⟨h.1, by show T.1 1 + 1 = T'.1 1 + 1; rw [h.2.1], h.2.2⟩
theorem TE.put1 {T T' : HV} (h : TE T T') (n : Int32) : TE (tPut T n) T' := by
  unfold tPut
  split
  · exact h
  · exact h
theorem TE.symm {T T' : HV} (h : TE T T') : TE T' T := ⟨h.1.symm, h.2.1.symm, h.2.2.symm⟩
theorem TE.put {T T' : HV} (h : TE T T') (n n' : Int32) : TE (tPut T n) (tPut T' n') := ((h.put1 n).symm.put1 n').symm
theorem TE.num {T T' : HV} (h : TE T T') (c : Int32) : TE (tNum T c) (tNum T' c) := by
  by_cases q : c = 78 ∧ isDig (tNx (tAdv T))
  · rw [tNum_2 q, tNum_2 (by rw [← h.adv.nx]; exact q)]
    exact h.adv.adv.put _ _
  · rw [tNum_1 q, tNum_1 (by rw [← h.adv.nx]; exact q)]
    exact h.adv.put _ _
theorem TE.ok {T T' : HV} (h : TE T T') (c : Int32) : tOk T c ↔ tOk T' c := by
  unfold tOk
  rw [h.nx]
theorem TE.part {T T' : HV} (h : TE T T') (c : Int32) : TE (tPart T c) (tPart T' c) := by
  by_cases cc : c = 68 ∨ c = 78
  · by_cases d : isDig (tNx T)
    · rw [tPart_d cc d, tPart_d cc (by rw [← h.nx]; exact d)]; exact h.num c
    · rw [tPart_n cc d, tPart_n cc (by rw [← h.nx]; exact d)]; exact h
  · have c1 : ¬ c = 68 := fun z => cc (Or.inl z)
    have c2 : ¬ c = 78 := fun z => cc (Or.inr z)
    rw [tPart_s c1 c2, tPart_s c1 c2]
    by_cases q : tNx T = c
    · rw [tSign_y q, tSign_y (by rw [← h.nx]; exact q)]; exact h.adv
    · rw [tSign_n q, tSign_n (by rw [← h.nx]; exact q)]; exact h
theorem TE.l : ∀ (cs : List Int32) {T T' : HV}, TE T T' → TE (tL cs T) (tL cs T') ∧ (okL cs T ↔ okL cs T')
  | [], _, _, h => ⟨h, Iff.rfl⟩
  | c :: cs, T, T', h => by
    have e := h.ok c
    obtain ⟨i1, i2⟩ := TE.l cs (h.part c)
    by_cases q : tOk T c
    · rw [tL_y q, tL_y (e.mp q)]
      exact ⟨i1, by show (tOk T c ∧ _) ↔ (tOk T' c ∧ _); rw [e, i2]⟩
    · rw [tL_n q, tL_n (fun z => q (e.mpr z))]
      exact ⟨h.part c, by show (tOk T c ∧ _) ↔ (tOk T' c ∧ _); rw [e, i2]⟩
theorem TE.cmd {T T' : HV} (h : TE T T') : TE (tCmd T) (tCmd T') ∧ (okCmd T ↔ okCmd T') := by
  unfold tCmd okCmd
  rw [h.nx]
  have hb : TE (tBeg T) (tBeg T') := ⟨h.1, h.2.1, h.2.2⟩
  obtain ⟨i1, i2⟩ := TE.l (fParts (tNx T')) hb
  exact ⟨i1, by rw [i2]⟩
theorem TE.wf : ∀ (k : Nat) {T T' : HV}, TE T T' → WF k T → WF k T'
  | 0, _, _, _, h => h
  | 1, _, _, e, h => e.cmd.2.mp h
  | k + 2, _, _, e, h => ⟨e.cmd.2.mp h.1, e.cmd.1.nx.symm.trans h.2.1, TE.wf (k + 1) e.cmd.1.adv h.2.2⟩
theorem mMore_n {v : HV} (h : v.1 12 = 1) : ¬ mMore v := fun z => by have := z.1; rw [h] at this; exact absurd this (by decide)
theorem mCnt_0 {c : Int32} {v : HV} : mCnt 0 c v = (c, v) := rfl
theorem mCnt_w {c : Int32} {v : HV} (h : v.1 12 = 1) : ∀ k, mCnt k c v = (c, v)
  | 0 => rfl
  | k + 1 => mCnt_n (mMore_n h)
theorem PT.sg {p : Nat} {T v : HV} (h : PT p T v) : rSees v 59 59 ↔ tNx T = 59 :=
  (h.sees (by decide)).trans ⟨fun z => Int32.le_antisymm z.2 z.1, fun z => by rw [z]; exact ⟨Int32.le_refl _, Int32.le_refl _⟩⟩
theorem cnt_eq : ∀ (k k' c p : Nat) {T v : HV}, PT p T v → 1 ≤ k → 60 ≤ p + k → 60 ≤ p + k' → c + k ≤ 1000 →
    (∃ c' T1 v1, c ≤ c' ∧ c' ≤ c + k ∧ tCnt k (nI c) T = (nI c', T1) ∧ mCnt k' (nI c) (mCmd v) = (nI c', v1) ∧ v1.1 12 = 0 ∧ WF (c' - c + 1) T) ∨
    (∃ T1 c' v1, tCnt k (nI c) T = (-1, T1) ∧ mCnt k' (nI c) (mCmd v) = (c', v1) ∧ WX T1 v1)
  | 0, _, _, _, _, _, _, h, _, _, _ => absurd h (by decide)
  | k + 1, k', c, p, T, v, h, _, hk, hk', hc => by
    rcases cmd_eq h with ⟨h1, -, p', hp, h2⟩ | ⟨h1, h2⟩
    · obtain ⟨⟨n, hn, hpn, e0, e5⟩, ⟨e1, e6⟩, hr, hw⟩ := id h2.1
      by_cases ce : (tCmd T).1 1 = (tCmd T).1 0
      · rw [tCnt_e h1 ce]
        have nm : ¬ mMore (mCmd v) := fun z => by
          have z2 := z.2
          rw [e5, e6] at z2
          rw [e0, e1] at ce
          have := (nI_ltI (by omega) (by omega)).mp z2
          have := (nI_eq (by omega) (by omega)).mp ce
          omega
        refine Or.inl ⟨c, _, mCmd v, Nat.le_refl _, by omega, rfl, ?_, hw, by rw [Nat.sub_self]; exact h1⟩
        cases k' with
        | zero => rfl
        | succ k' => exact mCnt_n nm
      · have hlt : p' < n := by
          have : p' ≠ n := fun z => ce (by rw [e0, e1, z])
          omega
        have hm : mMore (mCmd v) := ⟨hw, by rw [e5, e6]; exact (nI_ltI (by omega) (by omega)).mpr hlt⟩
        obtain ⟨k2, rfl⟩ : ∃ k2, k' = k2 + 1 := ⟨k' - 1, by omega⟩
        rw [mCnt_y hm, nI_1]
        by_cases cs : tNx (tCmd T) = 59
        · have hs := h2.1.sg.mpr cs
          have ha := h2.1.adv (by rw [cs]; decide)
          rw [tCnt_s h1 ce cs, mMust_y hs, nI_1]
          rcases cnt_eq k k2 (c + 1) (p' + 1) ha (by omega) (by omega) (by omega) (by omega) with ⟨c', T1, v1, q1, q2, q3, q4, q5, q6⟩ | q
          · refine Or.inl ⟨c', T1, v1, by omega, by omega, q3, q4, q5, ?_⟩
            have e : c' - c + 1 = (c' - (c + 1)) + 2 := by omega
            rw [e]
            exact ⟨h1, cs, q6⟩
          · exact Or.inr q
        · rw [tCnt_x h1 ce cs]
          have hs : ¬ rSees (mCmd v) 59 59 := fun z => cs (h2.1.sg.mp z)
          have w : WX (tCmd T) (mMust (mCmd v) 59) := by
            rw [mMust_n hs]
            exact ⟨rfl, by show (mCmd v).1 6 = _; rw [e6, e1]⟩
          exact Or.inr ⟨_, _, _, rfl, mCnt_w w.cmd.1 k2, w.cmd⟩
    · rw [tCnt_n h1, mCnt_w h2.1 k']
      exact Or.inr ⟨_, _, _, rfl, rfl, h2⟩
/-! ===== carrying the commands out ===== -/
/-- the arguments that a keyword's command takes -/
theorem do_eq {m n : Nat} {h u : HV} (q : HSn m n h (u.2.1 1)) (x a b c a' b' c' : Int32) (hx : x ∈ ([109, 101, 108, 113, 98, 121, 110, 99, 97, 115, 100, 114] : List Int32)) (ha : 1 ≤ cntL (fParts x) → a = a') (hb : 2 ≤ cntL (fParts x) → b = b') (hc : 3 ≤ cntL (fParts x) → c = c') :
    (cFault h x a b c = 0 ∧ O1 (uC u) (mDo u x a' b' c') ∧ HS (cDo h x a b c) ((mDo u x a' b' c').2.1 1)) ∨ (¬ cFault h x a b c = 0 ∧ ∃ z, ¬ z = 0 ∧ mDo u x a' b' c' = hsc u 0 z) := by
  have fin : ∀ {cs : List String} {f r : Int32} {h' : HV} {y : Res × HV}, ChOK cs f h' r u y → (f = 0 ∧ O1 (uC u) y.2 ∧ HS h' (y.2.2.1 1)) ∨ (¬ f = 0 ∧ ∃ z, ¬ z = 0 ∧ y.2 = hsc u 0 z) := by
    intro cs f r h' y k
    rcases k with ⟨e, v, rfl, o, s⟩ | ⟨e, z, rfl, e2, -⟩
    · exact Or.inl ⟨e, o, s⟩
    · exact Or.inr ⟨fun z9 => e (ok0_0 z9), z, e2, rfl⟩
  simp only [List.mem_cons, List.not_mem_nil, or_false] at hx
  rcases hx with rfl | rfl | rfl | rfl | rfl | rfl | rfl | rfl | rfl | rfl | rfl | rfl
  · obtain rfl := ha (by decide); obtain rfl := hb (by decide); exact fin (ch_addMember q a b)
  · obtain rfl := ha (by decide); exact fin (ch_enter q a)
  · obtain rfl := ha (by decide); exact fin (ch_leave q a)
  · obtain rfl := ha (by decide); exact fin (ch_setQuorum q a)
  · obtain rfl := ha (by decide); obtain rfl := hb (by decide); obtain rfl := hc (by decide); exact fin (ch_introduce q a b c)
  · obtain rfl := ha (by decide); obtain rfl := hb (by decide); exact fin (ch_voteFor q a b)
  · obtain rfl := ha (by decide); obtain rfl := hb (by decide); exact fin (ch_voteAgainst q a b)
  · obtain rfl := ha (by decide); exact fin (ch_closeReading q a)
  · obtain rfl := ha (by decide); obtain rfl := hb (by decide); obtain rfl := hc (by decide); exact fin (ch_propose q a b c)
  · obtain rfl := ha (by decide); obtain rfl := hb (by decide); obtain rfl := hc (by decide); exact fin (ch_support q a b c)
  · obtain rfl := ha (by decide); exact fin (ch_decide q a)
  · obtain rfl := ha (by decide); obtain rfl := hb (by decide); obtain rfl := hc (by decide); exact fin (ch_ride q a b c)
