/-! ===== sums of weights as numbers; by digits; by wards ===== -/
def sm (s : Int32) (V : Nat → Nat) : Nat → Nat
  | 0 => 0
  | n + 1 => sm s V n + (if bt s n then V n else 0)
theorem wSum_n {w : Nat → Int32} {V : Nat → Nat} (h : ∀ k, k < 24 → w k = nI (V k)) (s : Int32) : ∀ n, n ≤ 24 → wSum w s n = nI (sm s V n)
  | 0, _ => rfl
  | n + 1, hn => by
    show (if inS s (nI n) then wSum w s n + w n else wSum w s n) = nI (sm s V n + (if bt s n then V n else 0))
    rw [wSum_n h s n (by omega), h n (by omega)]
    by_cases c : inS s (nI n)
    · rw [if_pos c, if_pos ((inS_bt (by omega)).mp c), nI_add]
    · rw [if_neg c, if_neg (fun z => c ((inS_bt (by omega)).mpr z)), Nat.add_zero]
theorem sm_le {s : Int32} {V : Nat → Nat} (h : ∀ k, k < 24 → V k ≤ 7) : ∀ n, n ≤ 24 → sm s V n ≤ 7 * n
  | 0, _ => Nat.le_refl 0
  | n + 1, hn => by
    show sm s V n + (if bt s n then V n else 0) ≤ 7 * (n + 1)
    have h1 := sm_le (s := s) h n (by omega)
    have h2 := h n (by omega)
    split <;> omega
theorem dig_bit : ∀ v, v < 8 → ∀ d, d < 3 → ush (nI v) (nI d) &&& 1 = if v.testBit d then 1 else 0 := by decide +kernel
theorem shl_0 : ∀ n, n < 32 → shl 0 (nI n) = 0 := by decide +kernel
theorem mDig_b {w : Nat → Int32} {V : Nat → Nat} (h : ∀ k, k < 24 → w k = nI (V k) ∧ V k < 8) {d : Nat} (hd : d < 3) : ∀ n, n ≤ 24 → ∀ i, i < 32 → bt (mDig w (nI d) n) i = (decide (i < n) && (V i).testBit d)
  | 0, _, i, _ => by
    rw [decide_eq_false (Nat.not_lt_zero i), Bool.false_and]
    exact b_0 i
  | n + 1, hn, i, hi => by
    show bt (mDig w (nI d) n ||| shl (ush (w n) (nI d) &&& 1) (nI n)) i = _
    obtain ⟨h1, h2⟩ := h n (by omega)
    rw [b_or, mDig_b h hd n (by omega) i hi, h1, dig_bit _ h2 d hd]
    by_cases c : (V n).testBit d = true
    · rw [if_pos c, b_sh1 (by omega) hi]
      by_cases e : i = n
      · subst e
        rw [decide_eq_false (Nat.lt_irrefl i), decide_eq_true rfl, decide_eq_true (Nat.lt_succ_self i), c]; rfl
      · have e9 : i < n ↔ i < n + 1 := by omega
        rw [decide_eq_false e, Bool.or_false, decide_eq_decide.mpr e9]
    · rw [if_neg c, shl_0 n (by omega), b_0, Bool.or_false]
      by_cases e : i = n
      · subst e
        rw [Bool.eq_false_iff.mpr c, Bool.and_false, Bool.and_false]
      · have e9 : i < n ↔ i < n + 1 := by omega
        rw [decide_eq_decide.mpr e9]
theorem ct_zero (p : Nat → Bool) : ∀ n, (∀ i, i < n → p i = false) → ct p n = 0
  | 0, _ => rfl
  | n + 1, h => by
    show ct p n + (if p n then 1 else 0) = 0
    rw [ct_zero p n fun i hi => h i (by omega), h n (Nat.lt_succ_self n)]
    rfl
theorem dig_ct {w : Nat → Int32} {V : Nat → Nat} (h : ∀ k, k < 24 → w k = nI (V k) ∧ V k < 8) {d : Nat} (hd : d < 3) (s : Int32) : jbc (s &&& mDig w (nI d) 24) = nI (ct (fun i => bt s i && (V i).testBit d) 24) := by
  rw [jbc_ct, show (32 : Nat) = 24 + 8 from rfl, ct_add]
  congr 1
  have e1 : ct (fun i => bt (s &&& mDig w (nI d) 24) (24 + i)) 8 = 0 := ct_zero _ 8 fun i hi => by
    show bt (s &&& mDig w (nI d) 24) (24 + i) = false
    rw [b_and, mDig_b h hd 24 (Nat.le_refl _) (24 + i) (by omega), decide_eq_false (by omega), Bool.false_and, Bool.and_false]
  rw [e1, Nat.add_zero]
  exact ct_cong 24 fun i hi => by rw [b_and, mDig_b h hd 24 (Nat.le_refl _) i (by omega), decide_eq_true hi, Bool.true_and]
theorem dig_v : ∀ v, v < 8 → (if v.testBit 0 then 1 else 0) + 2 * (if v.testBit 1 then 1 else 0) + 4 * (if v.testBit 2 then 1 else 0) = v := by decide +kernel
theorem dig_sum {s : Int32} {V : Nat → Nat} (h : ∀ k, k < 24 → V k < 8) : ∀ n, n ≤ 24 → ct (fun i => bt s i && (V i).testBit 0) n + 2 * ct (fun i => bt s i && (V i).testBit 1) n + 4 * ct (fun i => bt s i && (V i).testBit 2) n = sm s V n
  | 0, _ => rfl
  | n + 1, hn => by
    show (ct (fun i => bt s i && (V i).testBit 0) n + (if bt s n && (V n).testBit 0 then 1 else 0)) + 2 * (ct (fun i => bt s i && (V i).testBit 1) n + (if bt s n && (V n).testBit 1 then 1 else 0)) + 4 * (ct (fun i => bt s i && (V i).testBit 2) n + (if bt s n && (V n).testBit 2 then 1 else 0)) = sm s V n + (if bt s n then V n else 0)
    rw [← dig_sum h n (by omega)]
    have hv := dig_v (V n) (h n (by omega))
    cases c : bt s n with
    | true =>
      rw [Bool.true_and, Bool.true_and, Bool.true_and, if_pos rfl]
      omega
    | false =>
      rw [Bool.false_and, Bool.false_and, Bool.false_and]
      simp
theorem shl_n : ∀ c, c < 33 → ∀ d, d < 3 → shl (nI c) (nI d) = nI (c * 2 ^ d) := by decide +kernel
theorem wDig_e {w : Nat → Int32} {V : Nat → Nat} (h : ∀ k, k < 24 → w k = nI (V k) ∧ V k < 8) (s : Int32) : wDig w s 3 = wSum w s 24 := by
  rw [wSum_n (fun k hk => (h k hk).1) s 24 (Nat.le_refl _), ← dig_sum (fun k hk => (h k hk).2) 24 (Nat.le_refl _)]
  show 0 + shl (jbc (s &&& mDig w (nI 0) 24)) (nI 0) + shl (jbc (s &&& mDig w (nI 1) 24)) (nI 1) + shl (jbc (s &&& mDig w (nI 2) 24)) (nI 2) = _
  have l := fun d => ct_le (fun i => bt s i && (V i).testBit d) 24
  have l0 := l 0
  have l1 := l 1
  have l2 := l 2
  rw [dig_ct h (by decide), dig_ct h (by decide), dig_ct h (by decide), shl_n _ (by omega) 0 (by decide), shl_n _ (by omega) 1 (by decide), shl_n _ (by omega) 2 (by decide)]
  show nI 0 + _ + _ + _ = _
  rw [nI_add, nI_add, nI_add]
  congr 1
  omega
theorem HSn.wt {m n : Nat} {h : HV} {r : Nat → Int32} (q : HSn m n h r) : ∃ V : Nat → Nat, (∀ k, k < 24 → h.2.1 2 k = nI (V k) ∧ V k < 8) ∧ ∀ k, m ≤ k → k < 24 → V k = 0 := by
  have key : ∀ k, ∃ v, k < 24 → (h.2.1 2 k = nI v ∧ v < 8) ∧ (m ≤ k → v = 0) := fun k => by
    by_cases hk : k < 24
    · obtain ⟨⟨v, hv, e⟩, -, hz⟩ := (q.2.2.2.2.1 k hk).2.2
      exact ⟨v, fun _ => ⟨⟨e, by omega⟩, fun z => (nI_eq (by omega) (by decide)).mp (e.symm.trans (hz z))⟩⟩
    · exact ⟨0, fun z => absurd z hk⟩
  obtain ⟨V, hV⟩ := Classical.axiomOfChoice key
  exact ⟨V, fun k hk => (hV k hk).1, fun k h1 h2 => (hV k h2).2 h1⟩
theorem HSn.dig {m n : Nat} {h : HV} {r : Nat → Int32} (q : HSn m n h r) (s : Int32) : wDig (h.2.1 2) s 3 = hW h s := by
  obtain ⟨V, hV, -⟩ := q.wt
  exact wDig_e hV s
theorem HSn.wt_le {m n : Nat} {h : HV} {r : Nat → Int32} (q : HSn m n h r) (s : Int32) : ∃ a, a ≤ 168 ∧ hW h s = nI a := by
  obtain ⟨V, hV, -⟩ := q.wt
  exact ⟨sm s V 24, sm_le (fun k hk => by have := (hV k hk).2; omega) 24 (Nat.le_refl _), wSum_n (fun k hk => (hV k hk).1) s 24 (Nat.le_refl _)⟩
theorem sc_weightForByDigits {w : PV} {u : HV} (h : Rel w u) : SC_weightForByDigits Rel w u := fun x =>
  sm_b1 h x (f := fun k => wDig ((w.1 0).2.1 2) ((w.1 0).2.1 6 k) 3) (g := fun k => rWt (u0 u) (u.2.1 1 (53 + 16 * k + 5))) fun m n q k hk => by
    show wDig ((w.1 0).2.1 2) ((w.1 0).2.1 6 k) 3 = rWt (u0 u) (u.2.1 1 (53 + 16 * k + 5))
    rw [rWt_u0, (q.bl hk).1.2.2.2.1, q.dig, q.eW]
def smw (s : Int32) (D : Nat → Nat) (V : Nat → Nat) (x : Nat) : Nat → Nat
  | 0 => 0
  | n + 1 => smw s D V x n + (if bt s n = true ∧ D n = x then V n else 0)
theorem wWard_n {wd w : Nat → Int32} {D V : Nat → Nat} (h : ∀ k, k < 24 → w k = nI (V k)) (hD : ∀ k, k < 24 → V k = 0 ∨ (wd k = nI (D k) ∧ D k < 4)) (s : Int32) {x : Nat} (hx : x < 4) : ∀ n, n ≤ 24 → wWard wd w s (nI x) n = nI (smw s D V x n)
  | 0, _ => rfl
  | n + 1, hn => by
    show (if inS s (nI n) ∧ wd n = nI x then wWard wd w s (nI x) n + w n else wWard wd w s (nI x) n) = nI (smw s D V x n + (if bt s n = true ∧ D n = x then V n else 0))
    rw [wWard_n h hD s hx n (by omega), h n (by omega)]
    have e1 : inS s (nI n) ↔ bt s n = true := inS_bt (by omega)
    rcases hD n (by omega) with h0 | ⟨hd, hd4⟩
    · rw [h0, ite_self, Nat.add_zero]
      show (if _ then nI (smw s D V x n) + nI 0 else nI (smw s D V x n)) = _
      rw [nI_add, Nat.add_zero, ite_self]
    · have e2 : wd n = nI x ↔ D n = x := by rw [hd]; exact nI_eq (by omega) (by omega)
      by_cases c : inS s (nI n) ∧ wd n = nI x
      · rw [if_pos c, if_pos ⟨e1.mp c.1, e2.mp c.2⟩, nI_add]
      · rw [if_neg c, if_neg (fun z => c ⟨e1.mpr z.1, e2.mpr z.2⟩), Nat.add_zero]
theorem smw_sum {s : Int32} {D V : Nat → Nat} (hD : ∀ k, k < 24 → V k = 0 ∨ D k < 4) : ∀ n, n ≤ 24 → smw s D V 0 n + smw s D V 1 n + smw s D V 2 n + smw s D V 3 n = sm s V n
  | 0, _ => rfl
  | n + 1, hn => by
    show (smw s D V 0 n + (if bt s n = true ∧ D n = 0 then V n else 0)) + (smw s D V 1 n + (if bt s n = true ∧ D n = 1 then V n else 0)) + (smw s D V 2 n + (if bt s n = true ∧ D n = 2 then V n else 0)) + (smw s D V 3 n + (if bt s n = true ∧ D n = 3 then V n else 0)) = sm s V n + (if bt s n then V n else 0)
    rw [← smw_sum hD n (by omega)]
    cases c : bt s n with
    | false => simp
    | true =>
      rcases hD n (by omega) with h0 | h4
      · rw [h0]; simp
      · rcases (show D n = 0 ∨ D n = 1 ∨ D n = 2 ∨ D n = 3 by omega) with e | e | e | e <;> (rw [e]; simp; omega)
theorem cons_all {m n : Nat} {h : HV} {r : Nat → Int32} (q : HSn m n h r) : consP h := by
  refine ⟨fun i hi => ?_, ?_⟩
  · rw [q.2.2.1.1, cN_nI (by have := q.1.2; omega)] at hi
    have h8 : i < 8 := Nat.lt_of_lt_of_le hi q.1.2
    refine ⟨(q.dig _).symm, (runFM _).symm, ?_⟩
    rw [cN_nI (by omega)]
    exact (q.bl h8).2.2.2.2.2.2.1
  · obtain ⟨V, hV, hz⟩ := q.wt
    have key : ∀ k, ∃ d, k < 24 → (V k = 0 ∨ (h.2.1 1 k = nI d ∧ d < 4)) := fun k => by
      by_cases hk : k < m
      · by_cases hk' : k < 24
        · obtain ⟨-, hw, -⟩ := (q.2.2.2.2.1 k hk').2.2
          obtain ⟨d, hd, e⟩ := hw hk
          exact ⟨d, fun _ => Or.inr ⟨e, hd⟩⟩
        · exact ⟨0, fun z => absurd z hk'⟩
      · exact ⟨0, fun z => Or.inl (hz k (by omega) z)⟩
    obtain ⟨D, hD⟩ := Classical.axiomOfChoice key
    have a := fun x (hx : x < 4) => wWard_n (wd := h.2.1 1) (w := h.2.1 2) (fun k hk => (hV k hk).1) hD (h.1 1) hx 24 (Nat.le_refl _)
    have a0 := a 0 (by decide)
    have a1 := a 1 (by decide)
    have a2 := a 2 (by decide)
    have a3 := a 3 (by decide)
    show nI 0 + wWard (h.2.1 1) (h.2.1 2) (h.1 1) (nI 0) 24 + wWard (h.2.1 1) (h.2.1 2) (h.1 1) (nI 1) 24 + wWard (h.2.1 1) (h.2.1 2) (h.1 1) (nI 2) 24 + wWard (h.2.1 1) (h.2.1 2) (h.1 1) (nI 3) 24 = wSum (h.2.1 2) (h.1 1) 24
    rw [a0, a1, a2, a3, nI_add, nI_add, nI_add, nI_add, wSum_n (fun k hk => (hV k hk).1) _ 24 (Nat.le_refl _), ← smw_sum (D := D) (fun k hk => (hD k hk).imp id fun z => z.2) 24 (Nat.le_refl _), Nat.zero_add]
theorem sc_isConsistent {w : PV} {u : HV} (h : Rel w u) : SC_isConsistent Rel w u := by
  obtain ⟨m, n, q⟩ := h.1
  exact sm_q h (bI_t (cons_all q))
