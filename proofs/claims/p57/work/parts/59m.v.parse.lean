/-! ===== both readers of a text, step by step ===== -/
def PT (p : Nat) (T v : HV) : Prop := (∃ n : Nat, n ≤ 60 ∧ p ≤ n ∧ T.1 0 = nI n ∧ v.1 5 = nI n) ∧ (T.1 1 = nI p ∧ v.1 6 = nI p) ∧ (∀ j, j < 60 → v.2.1 14 j = T.2.1 1 j) ∧ v.1 12 = 0
def PX (x : Int32) (k p : Nat) (T v : HV) : Prop := PT p T v ∧ T.1 3 = nI k ∧ (∀ i, i < k → T.2.1 2 i = v.1 (9 + i)) ∧ T.1 2 = x ∧ v.1 13 = x
def WX (T v : HV) : Prop := v.1 12 = 1 ∧ v.1 6 = T.1 1
theorem PT.nx {p : Nat} {T v : HV} (h : PT p T v) : (v.1 6 < v.1 5 ∧ tNx T = xCh v) ∨ (¬ v.1 6 < v.1 5 ∧ tNx T = 0) := by
  obtain ⟨⟨n, hn, hpn, e0, e5⟩, ⟨e1, e6⟩, hr, hw⟩ := h
  unfold tNx
  rw [e0, e1, e5, e6]
  by_cases c : p < n
  · have c1 : nI p < nI n := (nI_ltI (by omega) (by omega)).mpr c
    refine Or.inl ⟨c1, ?_⟩
    rw [if_pos c1]
    show _ = v.2.1 14 (cN (v.1 6))
    rw [e6, cN_nI (by omega), hr p (by omega)]
  · have c1 : ¬ nI p < nI n := fun z => c ((nI_ltI (by omega) (by omega)).mp z)
    exact Or.inr ⟨c1, if_neg c1⟩
theorem PT.sees {p : Nat} {T v : HV} (h : PT p T v) {lo hi : Int32} (hlo : 0 < lo) : rSees v lo hi ↔ lo ≤ tNx T ∧ tNx T ≤ hi := by
  rcases h.nx with ⟨c, e⟩ | ⟨c, e⟩
  · rw [e]
    exact ⟨fun z => z.2.2, fun z => ⟨h.2.2.2, c, z⟩⟩
  · rw [e]
    exact ⟨fun z => absurd z.2.1 c, fun z => absurd z.1 (Int32.not_le.mpr hlo)⟩
theorem PT.ch {p : Nat} {T v : HV} (h : PT p T v) (c : ¬ tNx T = 0) : v.1 6 < v.1 5 ∧ xCh v = tNx T := by
  rcases h.nx with ⟨c1, e⟩ | ⟨c1, e⟩
  · exact ⟨c1, e.symm⟩
  · exact absurd e c
theorem PT.adv {p : Nat} {T v : HV} (h : PT p T v) (c : ¬ tNx T = 0) : PT (p + 1) (tAdv T) (xAdv v) := by
  have c1 := (h.ch c).1
  obtain ⟨⟨n, hn, hpn, e0, e5⟩, ⟨e1, e6⟩, hr, hw⟩ := h
  rw [e5, e6] at c1
  have c2 := (nI_ltI (by omega) (by omega)).mp c1
  refine ⟨⟨n, hn, by omega, e0, e5⟩, ⟨?_, ?_⟩, hr, hw⟩
  · show T.1 1 + 1 = _; rw [e1, nI_1]
  · show v.1 6 + 1 = _; rw [e6, nI_1]
theorem PX.adv {x : Int32} {k p : Nat} {T v : HV} (h : PX x k p T v) (c : ¬ tNx T = 0) : PX x k (p + 1) (tAdv T) (xAdv v) := by
  obtain ⟨h1, h2, h3, h4, h5⟩ := h
  refine ⟨h1.adv c, h2, fun i hi => ?_, h4, h5⟩
  show T.2.1 2 i = (hsc v 6 _).1 (9 + i)
  rw [hsc_n (by omega)]
  exact h3 i hi
theorem PX.put {x y z : Int32} {k p : Nat} {T v : HV} (h : PX x k p T v) (hk : k < 3) (e : y = z) : PX x (k + 1) p (tPut T y) (hsc v (9 + k) z) := by
  subst e
  obtain ⟨⟨⟨n, hn, hpn, e0, e5⟩, ⟨e1, e6⟩, hr, hw⟩, h2, h3, h4, h5⟩ := h
  have c : T.1 3 < 3 := by rw [h2]; exact (nI_ltI (b := 3) (by omega) (by decide)).mpr hk
  rw [tPut_y c, h2, cN_nI (by omega)]
  have e3 : (hset T 2 k y).1 3 = nI k := h2
  rw [e3, nI_1]
  refine ⟨⟨⟨n, hn, hpn, e0, ?_⟩, ⟨e1, ?_⟩, hr, ?_⟩, rfl, fun i hi => ?_, h4, ?_⟩
  · rw [hsc_n (by omega)]; exact e5
  · rw [hsc_n (by omega)]; exact e6
  · rw [hsc_n (by omega)]; exact hw
  · show upd (T.2.1 2) k y i = _
    by_cases q : i = k
    · subst q; rw [upd_s, hsc_s]
    · rw [upd_n q, hsc_n (by omega)]; exact h3 i (by omega)
  · rw [hsc_n (by omega)]; exact h5
theorem WX.must {T v : HV} (h : WX T v) (c : Int32) : WX T (mMust v c) := by
  have n : ¬ rSees v c c := fun z => by have := z.1; rw [h.1] at this; exact absurd this (by decide)
  rw [mMust_n n]
  exact ⟨rfl, h.2⟩
theorem WX.rdn {T v : HV} (h : WX T v) (d : Int32) : WX T (mRdN d v).2 := by
  have n : ¬ rSees v 48 57 := fun z => by have := z.1; rw [h.1] at this; exact absurd this (by decide)
  rw [mRdN_n n]
  exact ⟨rfl, h.2⟩
theorem WX.set {T v : HV} (h : WX T v) {s : Nat} {x : Int32} (h1 : s ≠ 6) (h2 : s ≠ 12) : WX T (hsc v s x) := ⟨(hsc_n (Ne.symm h2)).trans h.1, (hsc_n (Ne.symm h1)).trans h.2⟩
theorem WX.mset {T : HV} {s : Nat} {q : Int32 × HV} (h : WX T q.2) (h1 : s ≠ 6) (h2 : s ≠ 12) : WX T (mSet s q) := h.set h1 h2
theorem WX.rb {T v : HV} (h : WX T v) (c d : Int32) : WX T (mRb v c d).2 := (h.must c).rdn d
theorem WX.kw {T : HV} : ∀ (cs : List Int32) {v : HV}, WX T v → WX T (mKw cs v)
  | [], _, h => h
  | c :: cs, _, h => WX.kw cs (h.must c)
theorem WX.oth1 {T v : HV} (h : WX T v) : WX T (mOth1 v) := (h.rb 32 1).mset (by decide) (by decide)
theorem WX.other {T v : HV} (h : WX T v) (x : Int32) : WX T (mOther x v) := by
  have h1 := h.oth1
  unfold mOther
  split
  · exact (h1.rb 32 2).mset (by decide) (by decide)
  split
  · exact (h1.rb 32 2).mset (by decide) (by decide)
  split
  · exact (((h1.rdn 1).mset (by decide) (by decide)).rb 32 2).mset (by decide) (by decide)
  split
  · exact h1
  split
  · exact h1
  · exact (h1.rdn 1).mset (by decide) (by decide)
theorem WX.ar1 {T v : HV} (h : WX T v) : WX T (mAr1 v) := (h.rb 32 2).mset (by decide) (by decide)
theorem WX.ar3 {T v : HV} (h : WX T v) (c1 d1 d2 c3 : Int32) : WX T (mAr3 v c1 d1 d2 c3) := ((((((h.rb 32 d1).mset (by decide) (by decide)).rb 32 d2).mset (by decide) (by decide)).rb c3 2)).mset (by decide) (by decide)
theorem WX.arg {T v : HV} (h : WX T v) (x : Int32) : WX T (mArg x v) := by
  unfold mArg
  split
  · exact h.ar3 _ _ _ _
  split
  · exact h.ar3 _ _ _ _
  split
  · exact h.ar1
  split
  · exact h.ar1
  split
  · exact h.ar1
  split
  · exact h.ar3 _ _ _ _
  · exact h.other x
theorem WX.cmd {T v : HV} (h : WX T v) : WX T (mCmd v) := (WX.kw _ (h.set (by decide) (by decide))).arg _
/-- the reference's reading, along the class's form -/
noncomputable def refL : List Int32 → Nat → HV → HV
  | [], _, v => v
  | c :: cs, k, v => if c = 68 then refL cs (k + 1) (mSet (9 + k) (mRdN 1 v)) else if c = 78 then refL cs (k + 1) (mSet (9 + k) (mRdN 2 v)) else refL cs k (mMust v c)
def cntL : List Int32 → Nat
  | [] => 0
  | c :: cs => (if c = 68 ∨ c = 78 then 1 else 0) + cntL cs
theorem WX.refL {T : HV} : ∀ (cs : List Int32) (k : Nat) {v : HV}, k + cntL cs ≤ 3 → WX T v → WX T (refL cs k v)
  | [], _, _, _, h => h
  | c :: cs, k, v, hk, h => by
    have hk2 : k + ((if c = 68 ∨ c = 78 then 1 else 0) + cntL cs) ≤ 3 := hk
    show WX T (if c = 68 then _ else if c = 78 then _ else _)
    by_cases c1 : c = 68
    · rw [if_pos (Or.inl c1)] at hk2
      rw [if_pos c1]
      exact WX.refL cs (k + 1) (by omega) ((h.rdn 1).mset (by omega) (by omega))
    · rw [if_neg c1]
      by_cases c2 : c = 78
      · rw [if_pos (Or.inr c2)] at hk2
        rw [if_pos c2]
        exact WX.refL cs (k + 1) (by omega) ((h.rdn 2).mset (by omega) (by omega))
      · rw [if_neg (by rintro (z | z); exact c1 z; exact c2 z)] at hk2
        rw [if_neg c2]
        exact WX.refL cs k (by omega) (h.must c)
theorem dig_eq (x y : Int32) : 10 * (0 + x - 48) + y - 48 = (x - 48) * 10 + (y - 48) := by
  rw [Int32.zero_add, Int32.mul_comm, Int32.sub_eq_add_neg (a := (x - 48) * 10 + y), Int32.sub_eq_add_neg (a := y), Int32.add_assoc]
theorem PX.step {x : Int32} {k p : Nat} {T v : HV} (h : PX x k p T v) (c : Int32) (hc : 0 < c) (hk : (if c = 68 ∨ c = 78 then 1 else 0) + k ≤ 3) :
    (tOk T c ∧ ∃ p', p + 1 ≤ p' ∧ PX x (k + (if c = 68 ∨ c = 78 then 1 else 0)) p' (tPart T c) (if c = 68 then mSet (9 + k) (mRdN 1 v) else if c = 78 then mSet (9 + k) (mRdN 2 v) else mMust v c)) ∨
    (¬ tOk T c ∧ WX (tPart T c) (if c = 68 then mSet (9 + k) (mRdN 1 v) else if c = 78 then mSet (9 + k) (mRdN 2 v) else mMust v c)) := by
  have s9 := h.1.sees (lo := 48) (hi := 57) (by decide)
  by_cases cc : c = 68 ∨ c = 78
  · rw [if_pos cc] at hk ⊢
    rw [tOk_d cc]
    by_cases hd : isDig (tNx T)
    · have hs : rSees v 48 57 := s9.mpr hd
      have hx := (h.1.ch (TInv.dig hd)).2
      refine Or.inl ⟨hd, ?_⟩
      rw [tPart_d cc hd]
      have ha := h.adv (TInv.dig hd)
      have one : ∀ q : ¬ (c = 78 ∧ isDig (tNx (tAdv T))), PX x (k + 1) (p + 1) (tNum T c) (hsc (xAdv v) (9 + k) (0 + xCh v - 48)) := fun q => by
        rw [tNum_1 q]
        exact ha.put (by omega) (by rw [hx, Int32.zero_add])
      by_cases c1 : c = 68
      · rw [if_pos c1, mRdN_1 hs]
        exact ⟨p + 1, Nat.le_refl _, one (fun z => by rw [c1] at z; exact absurd z.1 (by decide))⟩
      · have c2 : c = 78 := cc.resolve_left c1
        rw [if_neg c1, if_pos c2]
        by_cases hd2 : isDig (tNx (tAdv T))
        · have hs2 : rSees (xAdv v) 48 57 := (ha.1.sees (by decide)).mpr hd2
          have hx2 := (ha.1.ch (TInv.dig hd2)).2
          rw [mRdN_2y hs hs2, tNum_2 ⟨c2, hd2⟩]
          exact ⟨p + 1 + 1, by omega, (ha.adv (TInv.dig hd2)).put (by omega) (by rw [hx, hx2, dig_eq])⟩
        · have hs2 : ¬ rSees (xAdv v) 48 57 := fun z => hd2 ((ha.1.sees (by decide)).mp z)
          rw [mRdN_2n hs hs2]
          exact ⟨p + 1, Nat.le_refl _, one (fun z => hd2 z.2)⟩
    · have hs : ¬ rSees v 48 57 := fun z => hd (s9.mp z)
      refine Or.inr ⟨hd, ?_⟩
      rw [tPart_n cc hd, mRdN_n hs, mRdN_n hs]
      have w : WX T (xBad v) := ⟨rfl, by show v.1 6 = _; rw [h.1.2.1.2, h.1.2.1.1]⟩
      have w2 : WX T (mSet (9 + k) (0, xBad v)) := w.set (by omega) (by omega)
      split
      · exact w2
      · rw [if_pos (by rcases cc with z | z; contradiction; exact z)]; exact w2
  · have c1 : ¬ c = 68 := fun z => cc (Or.inl z)
    have c2 : ¬ c = 78 := fun z => cc (Or.inr z)
    rw [if_neg cc, if_neg c1, if_neg c2, tOk_s c1 c2, tPart_s c1 c2]
    have s := h.1.sees (lo := c) (hi := c) hc
    have s2 : rSees v c c ↔ tNx T = c := s.trans ⟨fun z => Int32.le_antisymm z.2 z.1, fun z => by rw [z]; exact ⟨Int32.le_refl c, Int32.le_refl c⟩⟩
    by_cases q : tNx T = c
    · have nz : ¬ tNx T = 0 := fun z => by rw [z] at q; rw [← q] at hc; exact absurd hc (by decide)
      rw [tSign_y q, mMust_y (s2.mpr q)]
      exact Or.inl ⟨q, p + 1, Nat.le_refl _, h.adv nz⟩
    · rw [tSign_n q, mMust_n (fun z => q (s2.mp z))]
      exact Or.inr ⟨q, rfl, by show v.1 6 = _; rw [h.1.2.1.2, h.1.2.1.1]⟩
theorem refL_c {c : Int32} {cs : List Int32} {k : Nat} {v : HV} : refL (c :: cs) k v = refL cs (k + (if c = 68 ∨ c = 78 then 1 else 0)) (if c = 68 then mSet (9 + k) (mRdN 1 v) else if c = 78 then mSet (9 + k) (mRdN 2 v) else mMust v c) := by
  show (if c = 68 then _ else if c = 78 then _ else _) = _
  by_cases c1 : c = 68
  · rw [if_pos c1, if_pos (Or.inl c1), if_pos c1]
  · by_cases c2 : c = 78
    · rw [if_neg c1, if_pos c2, if_pos (Or.inr c2), if_neg c1, if_pos c2]
    · rw [if_neg c1, if_neg c2, if_neg (by rintro (z | z); exact c1 z; exact c2 z), if_neg c1, if_neg c2, Nat.add_zero]
theorem par {x : Int32} : ∀ (cs : List Int32) (k p : Nat) {T v : HV}, (∀ c, c ∈ cs → 0 < c) → k + cntL cs ≤ 3 → PX x k p T v →
    (okL cs T ∧ ∃ p', p + cs.length ≤ p' ∧ PX x (k + cntL cs) p' (tL cs T) (refL cs k v)) ∨ (¬ okL cs T ∧ WX (tL cs T) (refL cs k v))
  | [], k, p, _, _, _, _, h => Or.inl ⟨trivial, p, Nat.le_refl _, h⟩
  | c :: cs, k, p, T, v, hc, hk, h => by
    have hk2 : k + ((if c = 68 ∨ c = 78 then 1 else 0) + cntL cs) ≤ 3 := hk
    have e2 : k + cntL (c :: cs) = k + (if c = 68 ∨ c = 78 then 1 else 0) + cntL cs := by show k + ((if c = 68 ∨ c = 78 then 1 else 0) + cntL cs) = _; omega
    rw [refL_c, e2]
    rcases h.step c (hc c (List.mem_cons_self ..)) (by omega) with ⟨h1, p', hp', h2⟩ | ⟨h1, h2⟩
    · rw [tL_y h1]
      rcases par cs (k + (if c = 68 ∨ c = 78 then 1 else 0)) p' (fun c hm => hc c (List.mem_cons_of_mem _ hm)) (by omega) h2 with ⟨g1, p2, g2, g3⟩ | ⟨g1, g2⟩
      · exact Or.inl ⟨⟨h1, g1⟩, p2, by rw [List.length_cons]; omega, g3⟩
      · exact Or.inr ⟨fun z => g1 z.2, g2⟩
    · rw [tL_n h1]
      exact Or.inr ⟨fun z => h1 z.1, WX.refL cs _ (by omega) h2⟩
theorem fIx_key (x : Int32) (h : fIx x ≠ 12) : x ∈ ([109, 101, 108, 113, 98, 121, 110, 99, 97, 115, 100, 114] : List Int32) := by
  refine Classical.byContradiction fun c => h ?_
  have k : ∀ z : Int32, z ∈ ([109, 101, 108, 113, 98, 121, 110, 99, 97, 115, 100, 114] : List Int32) → ¬ x = z := fun z hz e => c (e ▸ hz)
  unfold fIx
  rw [if_neg (k _ (by decide)), if_neg (k _ (by decide)), if_neg (k _ (by decide)), if_neg (k _ (by decide)), if_neg (k _ (by decide)), if_neg (k _ (by decide)), if_neg (k _ (by decide)), if_neg (k _ (by decide)), if_neg (k _ (by decide)), if_neg (k _ (by decide)), if_neg (k _ (by decide)), if_neg (k _ (by decide))]
theorem key_ok : ∀ x, x ∈ ([109, 101, 108, 113, 98, 121, 110, 99, 97, 115, 100, 114] : List Int32) → (∀ c, c ∈ fParts x → 0 < c) ∧ cntL (fParts x) ≤ 3 ∧ 1 ≤ (fParts x).length ∧ ¬ x = 0 := by decide +kernel
theorem mCmd_e {v : HV} {x : Int32} (hx : x ∈ ([109, 101, 108, 113, 98, 121, 110, 99, 97, 115, 100, 114] : List Int32)) (h : rSeen v = x) : mCmd v = refL (fParts x) 0 (hsc v 13 x) := by
  unfold mCmd
  rw [h]
  simp only [List.mem_cons, List.not_mem_nil, or_false] at hx
  rcases hx with rfl | rfl | rfl | rfl | rfl | rfl | rfl | rfl | rfl | rfl | rfl | rfl <;> rfl
theorem kBy_o {x : Int32} (h : x = 32 ∨ fIx x = 12) : kBy x = [109, 101, 109, 98, 101, 114] ∧ ¬ x = 109 := by
  have k : ∀ z : Int32, z ∈ ([109, 101, 108, 113, 98, 121, 110, 99, 97, 115, 100, 114] : List Int32) → ¬ x = z := fun z hz e => by
    subst e
    rcases h with h | h
    · subst h; exact absurd hz (by decide)
    · simp only [List.mem_cons, List.not_mem_nil, or_false] at hz
      rcases hz with rfl | rfl | rfl | rfl | rfl | rfl | rfl | rfl | rfl | rfl | rfl | rfl <;> exact absurd h (by decide)
  refine ⟨?_, k 109 (by decide)⟩
  show mByt.getD (kIx x) [] = _
  rw [kIx_24 (fun z hz => k z (by simp only [List.mem_cons, List.not_mem_nil, or_false] at hz ⊢; rcases hz with z | z | z | z | z | z | z | z | z | z | z <;> simp [z]))]
  rfl
/-- one command -/
theorem cmd_eq {p : Nat} {T v : HV} (h : PT p T v) : (okCmd T ∧ tNx T ∈ ([109, 101, 108, 113, 98, 121, 110, 99, 97, 115, 100, 114] : List Int32) ∧ ∃ p', p + 1 ≤ p' ∧ PX (tNx T) (cntL (fParts (tNx T))) p' (tCmd T) (mCmd v)) ∨ (¬ okCmd T ∧ WX (tCmd T) (mCmd v)) := by
  by_cases c : fIx (tNx T) = 12
  · refine Or.inr ⟨fun z => z.2 c, ?_⟩
    have e1 : tCmd T = tBeg T := by
      show tL (sByt.getD (fIx (tNx T)) []) (tBeg T) = _
      rw [c]; rfl
    have hs : rSeen v = 32 ∨ fIx (rSeen v) = 12 := by
      unfold rSeen
      split
      · rename_i z
        rcases h.nx with ⟨-, e⟩ | ⟨z2, -⟩
        · rw [← e]; exact Or.inr c
        · exact absurd z.2 z2
      · exact Or.inl rfl
    obtain ⟨k1, k2⟩ := kBy_o hs
    have nx : ¬ tNx T = 109 := fun z => by rw [z] at c; exact absurd c (by decide)
    have ns : ¬ rSees (hsc v 13 (rSeen v)) 109 109 := fun z => by
      have z2 : rSees v 109 109 := z
      have := (h.sees (lo := 109) (hi := 109) (by decide)).mp z2
      exact nx (Int32.le_antisymm this.2 this.1)
    rw [e1]
    show WX (tBeg T) (mArg (rSeen v) (mKw (kBy (rSeen v)) (hsc v 13 (rSeen v))))
    rw [k1]
    refine WX.arg (WX.kw [101, 109, 98, 101, 114] ?_) _
    rw [mMust_n ns]
    exact ⟨rfl, by show v.1 6 = T.1 1; rw [h.2.1.2, h.2.1.1]⟩
  · have hk := fIx_key _ c
    obtain ⟨h1, h2, h3, h4⟩ := key_ok _ hk
    have hsn : rSeen v = tNx T := by
      obtain ⟨c1, e⟩ := h.ch h4
      unfold rSeen
      rw [if_pos ⟨h.2.2.2, c1⟩, e]
    have hb : PX (tNx T) 0 p (tBeg T) (hsc v 13 (tNx T)) := ⟨h, rfl, fun i hi => absurd hi (Nat.not_lt_zero i), rfl, rfl⟩
    rw [mCmd_e hk hsn]
    rcases par (fParts (tNx T)) 0 p h1 (by omega) hb with ⟨g1, p', g2, g3⟩ | ⟨g1, g2⟩
    · rw [Nat.zero_add] at g3
      exact Or.inl ⟨⟨g1, c⟩, hk, p', by omega, g3⟩
    · exact Or.inr ⟨fun z => g1 z.1, g2⟩
