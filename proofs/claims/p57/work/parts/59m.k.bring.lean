/-! ===== a bill brought in ===== -/
theorem sClr_r {v : HV} {b : Nat} : ∀ n j, (sClr v b n).2.1 1 (53 + 16 * b + j) = if j < n then 0 else v.2.1 1 (53 + 16 * b + j)
  | 0, j => by rw [if_neg (by omega)]; rfl
  | n + 1, j => by
    show upd ((sClr v b n).2.1 1) (53 + 16 * b + n) 0 (53 + 16 * b + j) = _
    by_cases c : j = n
    · subst c; rw [upd_s, if_pos (by omega)]
    · rw [upd_n (by omega), sClr_r n j]
      by_cases c2 : j < n
      · rw [if_pos c2, if_pos (by omega)]
      · rw [if_neg c2, if_neg (by omega)]
theorem sClr_o {v : HV} {b i : Nat} : ∀ n, n ≤ 16 → (i < 53 + 16 * b ∨ 53 + 16 * b + 16 ≤ i) → (sClr v b n).2.1 1 i = v.2.1 1 i
  | 0, _, _ => rfl
  | n + 1, hn, h => by
    show upd ((sClr v b n).2.1 1) (53 + 16 * b + n) 0 i = _
    rw [upd_n (by omega), sClr_o n (by omega) h]
theorem sTgs_o {v : HV} {b f i : Nat} (hi : i ≠ 53 + 16 * b + 1 ∧ i ≠ 53 + 16 * b + 2) : ∀ n, f + n ≤ 64 → (sTgs v b f n).2.1 1 i = v.2.1 1 i
  | 0, _ => rfl
  | n + 1, hn => by
    obtain ⟨k, x, hk, e, -⟩ := mTog_e (v := sTgs v b f n) (b := b) (c := f + n) (by omega)
    show (mTog (sTgs v b f n) b (nI (f + n))).2.1 1 i = _
    rw [e, upd_n (by rcases hk with rfl | rfl <;> omega), sTgs_o hi n (by omega)]
theorem sTgs_b {v : HV} {b f : Nat} (h1 : v.2.1 1 (53 + 16 * b + 1) = 0) (h2 : v.2.1 1 (53 + 16 * b + 2) = 0) : ∀ n, f + n ≤ 64 → ∀ i, i < 64 → bl (cl64 ((sTgs v b f n).2.1 1 (53 + 16 * b + 2)) ((sTgs v b f n).2.1 1 (53 + 16 * b + 1))) i = (decide (f ≤ i) && decide (i < f + n))
  | 0, _, i, hi => by
    show bl (cl64 (v.2.1 1 (53 + 16 * b + 2)) (v.2.1 1 (53 + 16 * b + 1))) i = _
    rw [h1, h2, cl64_bl _ _ hi, b_0, b_0, ite_self]
    by_cases c : f ≤ i
    · rw [decide_eq_false (show ¬ i < f + 0 by omega), Bool.and_false]
    · rw [decide_eq_false c, Bool.false_and]
  | n + 1, hn, i, hi => by
    obtain ⟨k, x, hk, -, e⟩ := mTog_e (v := sTgs v b f n) (b := b) (c := f + n) (by omega)
    show bl (cl64 ((mTog (sTgs v b f n) b (nI (f + n))).2.1 1 (53 + 16 * b + 2)) ((mTog (sTgs v b f n) b (nI (f + n))).2.1 1 (53 + 16 * b + 1))) i = _
    rw [e, l_xor, sTgs_b h1 h2 n (by omega) i hi, l_sh1 (by omega) hi]
    by_cases c : i = f + n
    · subst c
      rw [decide_eq_true (show f ≤ f + n by omega), decide_eq_false (show ¬ f + n < f + n by omega), decide_eq_true rfl, decide_eq_true (show f + n < f + (n + 1) by omega)]; rfl
    · rw [decide_eq_false c, Bool.xor_false]
      have e9 : i < f + n ↔ i < f + (n + 1) := by omega
      rw [decide_eq_decide.mpr e9]
theorem cMask_b {f la i : Nat} (hf : f < 64) (hl : la < 64) (hi : i < 64) : bl (cMask (nI f) (nI la)) i = (decide (f ≤ i) && decide (i < la + 1)) := by
  have e : (63 : Int32) - nI la = nI (63 - la) := by
    have e1 : nI (63 - la) + nI la = nI 63 := by rw [nI_add]; congr 1; omega
    show nI 63 - nI la = _
    rw [← e1]
    exact Int32.add_sub_cancel _ _
  unfold cMask
  rw [e, l_and, l_shl hf _ hi, l_ushr (by omega)]
  congr 1
  · by_cases c : f ≤ i
    · rw [l_m1 _ (by omega), Bool.and_true]
    · rw [decide_eq_false c, Bool.false_and]
  · by_cases c : i < la + 1
    · rw [l_m1 _ (by omega), decide_eq_true c]
    · rw [l_big (by omega), decide_eq_false c]
theorem hs_bring {m n f la : Nat} {h v : HV} (q : HSn m n h (v.2.1 1)) (hn : n < 8) (hf : f ≤ la) (hl : la < 64) : HSn m (n + 1) (aBring h (nI f) (nI la)) ((sBrg v (nI f) (nI la)).2.1 1) := by
  obtain ⟨q0, ⟨q1, q1'⟩, ⟨q2, q2'⟩, ⟨q3, q4, q5⟩, q6, q7⟩ := q
  have ea : aBring h (nI f) (nI la) = hsc (hcl h (vp_updL h.2.2 n (cMask (nI f) (nI la)))) 3 (nI (n + 1)) := by
    show hsc (hcl h (vp_updL h.2.2 (cN (h.1 3)) (cMask (nI f) (nI la)))) 3 (h.1 3 + 1) = _
    rw [q2, cN_nI (by omega), nI_1]
  have ev : sBrg v (nI f) (nI la) = sTgs (sClr (hset v 1 1 (nI (n + 1))) n 16) n f (la + 1 - f) := by
    show sTgs (sClr (hset v 1 1 (v.2.1 1 1 + 1)) (cN (v.2.1 1 1)) 16) (cN (v.2.1 1 1)) (cN (nI f)) (cN (nI la) + 1 - cN (nI f)) = _
    rw [q2', cN_nI (by omega), cN_nI (by omega), cN_nI (by omega), nI_1]
  generalize hw : sBrg v (nI f) (nI la) = w at ev ⊢
  have ro : ∀ i, (i < 53 + 16 * n ∨ 53 + 16 * n + 16 ≤ i) → i ≠ 1 → w.2.1 1 i = v.2.1 1 i := fun i hi h1 => by
    rw [ev, sTgs_o ⟨by omega, by omega⟩ _ (by omega), sClr_o 16 (by decide) hi, hset_s, upd_n h1]
  have r1 : w.2.1 1 1 = nI (n + 1) := by
    rw [ev, sTgs_o ⟨by omega, by omega⟩ _ (by omega), sClr_o 16 (by decide) (Or.inl (by omega)), hset_s, upd_s]
  have rb : ∀ j, j < 16 → j ≠ 1 → j ≠ 2 → w.2.1 1 (53 + 16 * n + j) = 0 := fun j hj h1 h2 => by
    rw [ev, sTgs_o ⟨by omega, by omega⟩ _ (by omega), sClr_r, if_pos hj]
  have rc : cMask (nI f) (nI la) = cl64 (w.2.1 1 (53 + 16 * n + 2)) (w.2.1 1 (53 + 16 * n + 1)) := l_ext fun i hi => by
    rw [cMask_b (by omega) hl hi, ev, sTgs_b (by rw [sClr_r, if_pos (by decide)]) (by rw [sClr_r, if_pos (by decide)]) _ (by omega) i hi, show f + (la + 1 - f) = la + 1 by omega]
  rw [ea]
  refine ⟨⟨q0.1, by omega⟩, ⟨q1, ?_⟩, ⟨rfl, r1⟩, ⟨?_, ?_, ?_⟩, fun k hk => ?_, fun b hb => ?_⟩
  · rw [ro 0 (Or.inl (by omega)) (by decide)]; exact q1'
  · rw [ro 2 (Or.inl (by omega)) (by decide)]; exact q3
  · rw [ro 3 (Or.inl (by omega)) (by decide)]; exact q4
  · rw [ro 4 (Or.inl (by omega)) (by decide)]; exact q5
  · rw [ro _ (Or.inl (by omega)) (by omega), ro _ (Or.inl (by omega)) (by omega)]; exact q6 k hk
  · by_cases c : b = n
    · subst c
      obtain ⟨-, -, -, -, -, -, -, hz⟩ := q7 b hb
      obtain ⟨z3, z4, z5, z6, z7, z8⟩ := hz (Nat.le_refl b)
      refine BL.of (ρ := fun k => w.2.1 1 (53 + 16 * b + k)) (st := 0) (rd := 0) (dl := 0) (fo := 0) (ag := 0) (pe := 0) (cl := cMask (nI f) (nI la)) (am := h.2.1 (12 + b)) (su := h.2.1 (20 + b)) ?_ z3 z4 z5 z6 z7 z8 ?_ rfl rfl rfl
      · exact BV.mk (Nat.lt_succ_self b) ⟨rb 0 (by decide) (by decide) (by decide), rb 3 (by decide) (by decide) (by decide), rb 4 (by decide) (by decide) (by decide), rb 5 (by decide) (by decide) (by decide), rb 6 (by decide) (by decide) (by decide), rb 7 (by decide) (by decide) (by decide)⟩ rc ⟨0, by decide, rfl, fun q hq => absurd hq (Nat.not_lt_zero _)⟩ (Or.inl rfl) ⟨0, by decide, rfl, fun _ => by decide⟩ ⟨0, by decide, rfl, fun _ => by decide⟩ (i_0and 0)
      · show (if b = b then _ else _) = _; exact if_pos rfl
    · exact (q7 b hb).same (fun z => by omega) (fun k hk => ro _ (by omega) (by omega)) (fun _ _ _ => rfl) (by show (if b = n then _ else h.2.2 b) = _; exact if_neg c) rfl rfl
