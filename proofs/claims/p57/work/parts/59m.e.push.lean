/-! ===== a change kept for undo, on both sides ===== -/
theorem cpR_s {u : HV} {i j : Nat} : (cpR u i j).2.1 j = cpN (u.2.1 i) (u.2.1 j) 181 := har_s ..
theorem mSh_hi {u : HV} : ∀ n j, n ≤ j → (mSh u n).2.1 (5 + j) = u.2.1 (5 + j)
  | 0, _, _ => rfl
  | n + 1, j, h => by
    show (cpR (mSh u n) (5 + (n + 1)) (5 + n)).2.1 (5 + j) = _
    rw [cpR_n (by omega), mSh_hi n j (by omega)]
theorem mSh_lo {u : HV} : ∀ n j, j < n → ∀ i, i < 181 → (mSh u n).2.1 (5 + j) i = u.2.1 (5 + (j + 1)) i
  | 0, _, h, _, _ => absurd h (Nat.not_lt_zero _)
  | n + 1, j, h, i, hi => by
    show (cpR (mSh u n) (5 + (n + 1)) (5 + n)).2.1 (5 + j) i = _
    by_cases c : j = n
    · subst c
      rw [cpR_s, cp_row _ _ i hi, mSh_hi j (j + 1) (by omega)]
    · rw [cpR_n (by omega), mSh_lo n j (by omega) i hi]
theorem mSh_o {u : HV} {i : Nat} (h : i < 5 ∨ 12 < i) : ∀ n, n ≤ 8 → (mSh u n).2.1 i = u.2.1 i
  | 0, _ => rfl
  | n + 1, hn => by
    show (cpR (mSh u n) (5 + (n + 1)) (5 + n)).2.1 i = _
    rw [cpR_n (by omega), mSh_o h n (by omega)]
theorem mSh_sc {u : HV} {s : Nat} (h : s ≠ 1) : ∀ n, (mSh u n).1 s = u.1 s
  | 0 => hsc_n h
  | n + 1 => mSh_sc h n
theorem mRem_sc {u : HV} {i K s : Nat} (h : s ≠ 1) : (mRem u i K).1 s = u.1 s := by
  unfold mRem
  by_cases c : K = 8
  · rw [if_pos c, hsc_n h]; exact mSh_sc h 7
  · rw [if_neg c, hsc_n h]; rfl
theorem mRem_o {u : HV} {i K j : Nat} (hK : K ≤ 8) (h : j < 5 ∨ 12 < j) : (mRem u i K).2.1 j = u.2.1 j := by
  unfold mRem
  by_cases c : K = 8
  · rw [if_pos c]
    show (cpR (mSh u 7) i 12).2.1 j = _
    rw [cpR_n (by omega), mSh_o h 7 (by decide)]
  · rw [if_neg c]
    show (cpR u i (5 + K)).2.1 j = _
    rw [cpR_n (by omega)]
theorem mRem_k {u : HV} {i K : Nat} (hK : K ≤ 8) : (mRem u i K).1 1 = nI (if K = 8 then 8 else K + 1) := by
  unfold mRem
  by_cases c : K = 8
  · rw [if_pos c, if_pos c]; rfl
  · rw [if_neg c, if_neg c]; rfl
/-- the rows of history behind a push of row i -/
theorem mRem_h {u : HV} {i K : Nat} (hi : i < 5) (hK : K ≤ 8) : ∀ j, j < (if K = 8 then 8 else K + 1) → ∀ x, x < 181 → (mRem u i K).2.1 (5 + j) x = if j + 1 = (if K = 8 then 8 else K + 1) then u.2.1 i x else if K = 8 then u.2.1 (5 + (j + 1)) x else u.2.1 (5 + j) x := by
  intro j hj x hx
  unfold mRem
  by_cases c : K = 8
  · rw [if_pos c] at hj ⊢
    rw [if_pos c, if_pos c]
    show (cpR (mSh u 7) i 12).2.1 (5 + j) x = _
    by_cases cj : j = 7
    · subst cj
      rw [if_pos (by decide), cpR_s, cp_row _ _ x hx, mSh_o (Or.inl hi) 7 (by decide)]
    · rw [if_neg (by omega), cpR_n (by omega), mSh_lo 7 j (by omega) x hx]
  · rw [if_neg c] at hj ⊢
    rw [if_neg c, if_neg c]
    show (cpR u i (5 + K)).2.1 (5 + j) x = _
    by_cases cj : j = K
    · subst cj
      rw [if_pos rfl, cpR_s, cp_row _ _ x hx]
    · rw [if_neg (by omega), cpR_n (by omega)]
/-- the ring of eight against the shifted rows -/
theorem RHist.push {w : PV} {u v : HV} {h : HV} {i : Nat} (q : RHist w u) (hi : i < 5) (hs : HS h (u.2.1 i)) (h1 : v.1 1 = (mRem u i (cN (u.1 1))).1 1) (h2 : ∀ j, 5 ≤ j → j < 13 → v.2.1 j = (mRem u i (cN (u.1 1))).2.1 j) : RHist (wRem w h) v := by
  obtain ⟨K, N, hK, hN, a1, a2, a3, a4⟩ := q
  have eK : cN (u.1 1) = K := by rw [a2, cN_nI (by omega)]
  have eN : cN (w.2.2.2.2 1) = N := by rw [a3, cN_nI (by omega)]
  rw [eK] at h1 h2
  refine ⟨if K = 8 then 8 else K + 1, (N + 1) % 8, by split <;> omega, by omega, ?_, h1.trans (mRem_k hK), ?_, fun j hj => ?_⟩
  · show (if (8 : Int32) < w.2.2.2.2 2 + 1 then 8 else w.2.2.2.2 2 + 1) = _
    rw [a1, nI_1]
    by_cases c : K = 8
    · subst c; rw [if_pos (by decide), if_pos rfl]; rfl
    · rw [if_neg (fun e => by have := (nI_ltI (a := 8) (by decide) (by omega)).mp e; omega), if_neg c]
  · show (if w.2.2.2.2 1 = 7 then 0 else w.2.2.2.2 1 + 1) = _
    rw [a3, nI_1]
    by_cases c : N = 7
    · subst c; rfl
    · rw [if_neg (show ¬ nI N = (7 : Int32) from fun e => c ((nI_eq (b := 7) (by omega) (by decide)).mp e)), Nat.mod_eq_of_lt (by omega)]
  · have e1 : (wRem w h).2.1 = fun k => if k = N then h else w.2.1 k := by
      show (fun k => if k = cN (w.2.2.2.2 1) then h else w.2.1 k) = _
      rw [eN]
    rw [e1]
    have hj8 : j < 8 := by revert hj; split <;> omega
    refine HS.row (r := if j + 1 = (if K = 8 then 8 else K + 1) then u.2.1 i else if K = 8 then u.2.1 (5 + (j + 1)) else u.2.1 (5 + j)) ?_ (fun x hx => ?_)
    · by_cases c : j + 1 = (if K = 8 then 8 else K + 1)
      · rw [if_pos c]
        have e2 : ((N + 1) % 8 + 8 - (if K = 8 then 8 else K + 1) + j) % 8 = N := by rw [← c]; omega
        show HS (if _ = N then h else _) _
        rw [e2, if_pos rfl]
        exact hs
      · rw [if_neg c]
        by_cases c8 : K = 8
        · rw [if_pos c8] at hj c ⊢
          rw [if_pos c8]
          show HS (if _ = N then h else w.2.1 _) _
          rw [if_neg (by omega)]
          have e3 : ((N + 1) % 8 + 8 - 8 + j) % 8 = (N + 8 - K + (j + 1)) % 8 := by omega
          rw [e3]
          exact a4 (j + 1) (by omega)
        · rw [if_neg c8] at hj c ⊢
          rw [if_neg c8]
          show HS (if _ = N then h else w.2.1 _) _
          rw [if_neg (by omega)]
          have e3 : ((N + 1) % 8 + 8 - (K + 1) + j) % 8 = (N + 8 - K + j) % 8 := by omega
          rw [e3]
          exact a4 j (by omega)
    · rw [h2 (5 + j) (by omega) (by omega), mRem_h hi hK j hj x hx]
      by_cases ca : j + 1 = (if K = 8 then 8 else K + 1)
      · rw [if_pos ca, if_pos ca]
      · rw [if_neg ca, if_neg ca]
        by_cases c8 : K = 8
        · rw [if_pos c8, if_pos c8]
        · rw [if_neg c8, if_neg c8]
theorem uC_out {u : HV} (h3 : u.1 3 = 0) : uC u = mRem (hsc u 0 0) 1 (cN (u.1 1)) := by
  show mChg (hsc u 0 0) = _
  unfold mChg
  rw [if_pos (show (hsc u 0 0).1 3 = 0 from h3)]
  rfl
/-- both sides behind a change -/
theorem Rel.chg {w : PV} {u v h' : HV} (h : Rel w u) (ho : O1 (uC u) v) (hs : HS h' (v.2.1 1)) : Rel (wH (wRem w (w.1 0)) 0 h') v := by
  obtain ⟨hs0, hh, ⟨f1, f2⟩, ⟨t1, t2, t3, t4, t5⟩, ⟨l1, ⟨n, l2, l3, l4, l5⟩, l6⟩, ⟨e1, e2, e3, e4⟩, h3, hx, hy⟩ := h
  obtain ⟨o1, o2⟩ := ho
  have hK : cN (u.1 1) ≤ 8 := by obtain ⟨K, N, hK, -, -, a2, -⟩ := hh; rw [a2, cN_nI (by omega)]; exact hK
  rw [uC_out h3] at o1 o2
  have s : ∀ k, k ≠ 0 → k ≠ 1 → v.1 k = u.1 k := fun k k0 k1 => by
    rw [o1, mRem_sc k1]; exact hsc_n k0
  have o : ∀ k, k ≠ 1 → (k < 5 ∨ 12 < k) → v.2.1 k = u.2.1 k := fun k k0 k1 => by
    rw [o2 k k0, mRem_o hK k1]; rfl
  refine ⟨hs, RHist.push (u := hsc u 0 0) (i := 1) hh (by decide) hs0 (by rw [o1]; rfl) (fun j hj _ => o2 j (by omega)), ⟨f1.trans (s 2 (by decide) (by decide)).symm, fun c => ?_⟩, ⟨t1, ?_, ?_, ?_, ?_⟩, ⟨l1, ⟨n, l2, l3, ?_, ?_⟩, ?_⟩, ⟨?_, ?_, ?_, ?_⟩, ?_, fun k hk => ?_, fun k hk => ?_⟩
  · rw [o 2 (by decide) (by decide)]
    exact f2 (by rw [← s 2 (by decide) (by decide)]; exact c)
  · rw [s 5 (by decide) (by decide)]; exact t2
  · rw [o 14 (by decide) (by decide)]; exact t3
  · rw [s 6 (by decide) (by decide)]; exact t4
  · rw [s 12 (by decide) (by decide)]; exact t5
  · rw [s 4 (by decide) (by decide)]; exact l4
  · rw [o 13 (by decide) (by decide)]; exact l5
  · rw [o 13 (by decide) (by decide)]; exact l6
  · rw [s 7 (by decide) (by decide)]; exact e1
  · rw [s 8 (by decide) (by decide)]; exact e2
  · rw [s 7 (by decide) (by decide)]; exact e3
  · rw [s 8 (by decide) (by decide)]; exact e4
  · rw [s 3 (by decide) (by decide)]; exact h3
  · show HX (if k = 0 then h' else w.1 k)
    by_cases c : k = 0
    · rw [if_pos c]; exact ⟨_, hs⟩
    · rw [if_neg c]; exact hx k hk
  · show HX (if k = cN (w.2.2.2.2 1) then w.1 0 else w.2.1 k)
    by_cases c : k = cN (w.2.2.2.2 1)
    · rw [if_pos c]; exact hx 0 (by decide)
    · rw [if_neg c]; exact hy k hk
/-! ===== a change: its fault, its answer, its House ===== -/
def ChOK (cs : List String) (f : Int32) (h' : HV) (a : Int32) (u : HV) (y : Res × HV) : Prop :=
  (f = 0 ∧ ∃ v, y = (rI a, v) ∧ O1 (uC u) v ∧ HS h' (v.2.1 1)) ∨ (¬ ok0 f ∧ ∃ n, y = (.inl zI, hsc u 0 n) ∧ ¬ n = 0 ∧ WEx cs 1 (exn f) n)
theorem pCh_0 {w : PV} {r : Int32} {u' : HV} : pCh 0 w r u' = (rI r, wH (wRem w (w.1 0)) 0 u') := pG_y (ok0_0 rfl)
theorem sm_ch {cs : List String} {f a : Int32} {w : PV} {u h' : HV} {y : Res × HV} (h : Rel w u) (c : ChOK cs f h' a u y) : SmV isI cs (pCh f w a h') y ∧ Rel (pCh f w a h').2 y.2 := by
  rcases c with ⟨rfl, v, rfl, ho, hs⟩ | ⟨hf, n, rfl, -, hw⟩
  · rw [pCh_0]
    refine ⟨sm_val rfl ?_, h.chg ho hs⟩
    show v.1 0 = 0
    rw [ho.1, uC_out h.2.2.2.2.2.2.1, mRem_sc (by decide)]
    rfl
  · have e : pCh f w a h' = (.inr (exn f), w) := pG_n hf
    rw [e]
    exact ⟨sm_exc isI_0 hw, h.z n⟩
theorem ChOK.x {cs : List String} {f a k n : Int32} {u h' : HV} {y : Res × HV} (hf : f = k) (hk : ¬ ok0 k) (hn : ¬ n = 0) (hw : WEx cs 1 (exn k) n) (hy : y = (.inl zI, hsc u 0 n)) : ChOK cs f h' a u y := by
  subst hf; exact Or.inr ⟨hk, n, hy, hn, hw⟩
theorem ChOK.y {cs : List String} {f a : Int32} {u h' v : HV} {y : Res × HV} (hf : f = 0) (hy : y = (rI a, v)) (ho : O1 (uC u) v) (hs : HS h' (v.2.1 1)) : ChOK cs f h' a u y := Or.inl ⟨hf, v, hy, ho, hs⟩
theorem nok1 : ¬ ok0 1 := by decide
theorem nok2 : ¬ ok0 2 := by decide
theorem nok3 : ¬ ok0 3 := by decide
theorem nok4 : ¬ ok0 4 := by decide
theorem nok5 : ¬ ok0 5 := by decide
theorem ne01 : ¬ (1 : Int32) = 0 := by decide
theorem ne02 : ¬ (2 : Int32) = 0 := by decide
theorem ne03 : ¬ (3 : Int32) = 0 := by decide
theorem ne04 : ¬ (4 : Int32) = 0 := by decide
