/-! ===== readers of bills ===== -/
theorem HSn.bl {m n : Nat} {h : HV} {r : Nat → Int32} (q : HSn m n h r) {b : Nat} (hb : b < 8) : BL n h r b := q.2.2.2.2.2 b hb
/-- a reader of one bill's cell -/
theorem sm_b1 {w : PV} {u : HV} (h : Rel w u) (x : Int32) {f : Nat → Int32} {g : Nat → Int32} (e : ∀ m n, HSn m n (w.1 0) (u.2.1 1) → ∀ k, k < 8 → f k = g k) : SmV isI [eIdx] (pG (hasB (w.1 0) x) eIdx w (rI (f (cN x)), w)) (mG (¬ isBl u x) 1 zI u (rI (g (cN x)), u0 u)) ∧ Rel (pG (hasB (w.1 0) x) eIdx w (rI (f (cN x)), w)).2 (mG (¬ isBl u x) 1 zI u (rI (g (cN x)), u0 u)).2 := by
  obtain ⟨m, n, q⟩ := h.1
  refine sm_r1 h (q.gB x) fun c => ?_
  obtain ⟨k, -, hk, rfl⟩ := q.bil c
  rw [cN_nI (by omega)]
  exact e m n q k hk
theorem sc_isOpen {w : PV} {u : HV} (h : Rel w u) : SC_isOpen Rel w u := fun x =>
  sm_b1 h x (f := fun k => bI ((w.1 0).2.1 3 k = 0)) (g := fun k => bI (u.2.1 1 (53 + 16 * k + 0) = 0)) fun m n q k hk => bI_cong (by rw [(q.bl hk).1.1])
theorem sc_isPassed {w : PV} {u : HV} (h : Rel w u) : SC_isPassed Rel w u := fun x =>
  sm_b1 h x (f := fun k => bI ((w.1 0).2.1 3 k = 1)) (g := fun k => bI (u.2.1 1 (53 + 16 * k + 0) = 1)) fun m n q k hk => bI_cong (by rw [(q.bl hk).1.1])
theorem sc_readings {w : PV} {u : HV} (h : Rel w u) : SC_readings Rel w u := fun x =>
  sm_b1 h x (f := fun k => (w.1 0).2.1 4 k) (g := fun k => u.2.1 1 (53 + 16 * k + 3)) fun m n q k hk => (q.bl hk).1.2.1.symm
theorem sc_delay {w : PV} {u : HV} (h : Rel w u) : SC_delay Rel w u := fun x =>
  sm_b1 h x (f := fun k => (w.1 0).2.1 5 k) (g := fun k => u.2.1 1 (53 + 16 * k + 4)) fun m n q k hk => (q.bl hk).1.2.2.1.symm
theorem sc_rust {w : PV} {u : HV} (h : Rel w u) : SC_rust Rel w u := fun x =>
  sm_b1 h x (f := fun k => (w.1 0).2.1 5 k / 60) (g := fun k => u.2.1 1 (53 + 16 * k + 4) / 60) fun m n q k hk => by show (w.1 0).2.1 5 k / 60 = u.2.1 1 (53 + 16 * k + 4) / 60; rw [(q.bl hk).1.2.2.1]
theorem sc_pendingCount {w : PV} {u : HV} (h : Rel w u) : SC_pendingCount Rel w u := fun x =>
  sm_b1 h x (f := fun k => (w.1 0).2.1 8 k) (g := fun k => u.2.1 1 (53 + 16 * k + 7)) fun m n q k hk => (q.bl hk).1.2.2.2.2.2.symm
theorem rWt_u0 (u : HV) (s : Int32) : rWt (u0 u) s = rWt u s := rWt_row (r := u0 u) (r' := u) rfl s
theorem sc_weightFor {w : PV} {u : HV} (h : Rel w u) : SC_weightFor Rel w u := fun x =>
  sm_b1 h x (f := fun k => hW (w.1 0) ((w.1 0).2.1 6 k)) (g := fun k => rWt (u0 u) (u.2.1 1 (53 + 16 * k + 5))) fun m n q k hk => by
    show hW (w.1 0) ((w.1 0).2.1 6 k) = rWt (u0 u) (u.2.1 1 (53 + 16 * k + 5))
    rw [rWt_u0, (q.bl hk).1.2.2.2.1, q.eW]
theorem sc_weightAgainst {w : PV} {u : HV} (h : Rel w u) : SC_weightAgainst Rel w u := fun x =>
  sm_b1 h x (f := fun k => hW (w.1 0) ((w.1 0).2.1 7 k)) (g := fun k => rWt (u0 u) (u.2.1 1 (53 + 16 * k + 6))) fun m n q k hk => by
    show hW (w.1 0) ((w.1 0).2.1 7 k) = rWt (u0 u) (u.2.1 1 (53 + 16 * k + 6))
    rw [rWt_u0, (q.bl hk).1.2.2.2.2.1, q.eW]
theorem sc_clauses {w : PV} {u : HV} (h : Rel w u) : SC_clauses Rel w u := by
  obtain ⟨m, n, q⟩ := h.1
  intro x
  refine ⟨sm_gate (q.gB x) wex1 ⟨0, rfl⟩ fun c _ => ?_, rel_gate (q.gB x) (h.z 1) fun _ _ => h.z 0⟩
  obtain ⟨k, -, hk, rfl⟩ := q.bil c
  refine ⟨.long (rCl u (cN (nI k))), ⟨_, rfl⟩, rfl, Or.inl ⟨?_, rfl⟩⟩
  have e : (w.1 0).2.2 (cN (nI k)) = rCl u (cN (nI k)) := by rw [cN_nI (by omega)]; exact (q.bl hk).2.1
  show (.inl (some (.long ((w.1 0).2.2 (cN (nI k))))) : Res) = _
  rw [e]
/-- two gates on a position of a bill -/
theorem sm_pend {w : PV} {u : HV} (h : Rel w u) {b x : Int32} {f g : Int32} (e : ∀ m n, HSn m n (w.1 0) (u.2.1 1) → hasB (w.1 0) b → hasP (w.1 0) b x → f = g) : SmV isI [eIdx, eEle] (pG (hasB (w.1 0) b ∧ hasP (w.1 0) b x) (ePend (w.1 0) b) w (rI f, w)) (mG (¬ isBl u b) 1 zI u (mG (¬ btw x 0 (rB u (cN b) 7 - 1)) 2 zI u (rI g, u0 u))) ∧ Rel (pG (hasB (w.1 0) b ∧ hasP (w.1 0) b x) (ePend (w.1 0) b) w (rI f, w)).2 (mG (¬ isBl u b) 1 zI u (mG (¬ btw x 0 (rB u (cN b) 7 - 1)) 2 zI u (rI g, u0 u))).2 := by
  obtain ⟨m, n, q⟩ := h.1
  have hg := q.gB b
  by_cases c : hasB (w.1 0) b
  · have hp : hasP (w.1 0) b x ↔ ¬ ¬ btw x 0 (rB u (cN b) 7 - 1) := by
      obtain ⟨k, -, hk, rfl⟩ := q.bil c
      exact q.gP hk x
    rw [mG_n (hg.mp c)]
    have ee : ePend (w.1 0) b = eEle := by unfold ePend; rw [if_pos c]
    rw [ee]
    have hg2 : (hasB (w.1 0) b ∧ hasP (w.1 0) b x) ↔ ¬ ¬ btw x 0 (rB u (cN b) 7 - 1) := ⟨fun z => hp.mp z.2, fun z => ⟨c, hp.mpr z⟩⟩
    exact ⟨sm_gate hg2 wex2 isI_0 fun h1 _ => sm_val (e m n q h1.1 h1.2) rfl, rel_gate hg2 (h.z 2) fun _ _ => h.z 0⟩
  · have c2 : ¬ isBl u b := Classical.byContradiction fun z => c (hg.mpr z)
    rw [mG_y c2, pG_n (fun z => c z.1)]
    have ee : ePend (w.1 0) b = eIdx := by unfold ePend; rw [if_neg c]
    rw [ee]
    exact ⟨sm_exc isI_0 wex1, h.z 1⟩
theorem sc_amendedClause {w : PV} {u : HV} (h : Rel w u) : SC_amendedClause Rel w u := fun b x => sm_pend h fun m n q c1 c2 => by
  obtain ⟨k, -, hk, rfl⟩ := q.bil c1
  obtain ⟨j, p, hj, hp, ep, rfl⟩ := q.pos hk c2
  obtain ⟨p', hp', ep', ha⟩ := (q.bl hk).2.2.1
  have e : p' = p := (nI_eq (by omega) (by omega)).mp (ep'.symm.trans ep)
  subst e
  show (w.1 0).2.1 (12 + cN (nI k)) (cN (nI j)) = u.2.1 1 (53 + 16 * cN (nI k) + (8 + 2 * cN (nI j)))
  rw [cN_nI (by omega), cN_nI (by omega)]
  exact (ha j hj).1.symm
theorem sc_supportWeight {w : PV} {u : HV} (h : Rel w u) : SC_supportWeight Rel w u := fun b x => sm_pend h fun m n q c1 c2 => by
  obtain ⟨k, -, hk, rfl⟩ := q.bil c1
  obtain ⟨j, p, hj, hp, ep, rfl⟩ := q.pos hk c2
  obtain ⟨p', hp', ep', ha⟩ := (q.bl hk).2.2.1
  have e : p' = p := (nI_eq (by omega) (by omega)).mp (ep'.symm.trans ep)
  subst e
  show hW (w.1 0) ((w.1 0).2.1 (20 + cN (nI k)) (cN (nI j))) = rWt (u0 u) (u.2.1 1 (53 + 16 * cN (nI k) + (8 + 2 * cN (nI j) + 1)))
  rw [cN_nI (by omega), cN_nI (by omega), rWt_u0, (ha j hj).2.1, q.eW]
theorem sc_ridesUntilFall {w : PV} {u : HV} (h : Rel w u) : SC_ridesUntilFall Rel w u := by
  obtain ⟨m, n, q⟩ := h.1
  intro b x
  have key : hasB (w.1 0) b → (w.1 0).2.1 3 (cN b) = rB u (cN b) 0 ∧ (w.1 0).2.1 5 (cN b) = rB u (cN b) 4 := fun c => by
    obtain ⟨k, -, hk, rfl⟩ := q.bil c
    rw [cN_nI (by omega)]
    exact ⟨(q.bl hk).1.1.symm, (q.bl hk).1.2.2.1.symm⟩
  refine ⟨sm_gate (q.gB b) wex1 isI_0 fun c _ => sm_gate Classical.not_not.symm wex2 isI_0 fun _ _ => sm_gate ?_ wex3 isI_0 fun _ _ => sm_val ?_ rfl, rel_gate (q.gB b) (h.z 1) fun c _ => rel_gate Classical.not_not.symm (h.z 2) fun _ _ => rel_gate ?_ (h.z 3) fun _ _ => h.z 0⟩
  · rw [(key c).1]; exact Classical.not_not.symm
  · rw [(key c).2]
  · rw [(key c).1]; exact Classical.not_not.symm
theorem ge0_n1 {x : Int32} (h : -1 ≤ x) : ¬ x = -1 ↔ ¬ ¬ 0 ≤ x := by
  rw [Classical.not_not]
  have e0 : (0 : Int32).toInt = 0 := rfl
  have e1 : (-1 : Int32).toInt = -1 := rfl
  rw [← Int32.toInt_inj, Int32.le_iff_toInt_le, e0, e1]
  rw [Int32.le_iff_toInt_le, e1] at h
  omega
theorem sc_errorPosition {w : PV} {u : HV} (h : Rel w u) : SC_errorPosition Rel w u := by
  obtain ⟨e1, e2, h1, h2⟩ := h.2.2.2.2.2.1
  refine sm_r1 h ?_ fun _ => e1
  rw [e1]; exact ge0_n1 h1
theorem sc_failedCommand {w : PV} {u : HV} (h : Rel w u) : SC_failedCommand Rel w u := by
  obtain ⟨e1, e2, h1, h2⟩ := h.2.2.2.2.2.1
  refine sm_r1 h ?_ fun _ => e2
  rw [e2]; exact ge0_n1 h2
theorem sc_lineAt {w : PV} {u : HV} (h : Rel w u) : SC_lineAt Rel w u := by
  obtain ⟨hL, ⟨n, hn, e1, e2, e3⟩, hc⟩ := h.2.2.2.2.1
  intro x
  have hg : (0 ≤ x ∧ x < w.2.2.2.1.1 0) ↔ ¬ ¬ btw x 0 (u.1 4 - 1) := by rw [Classical.not_not, e1, e2, btw_lt (by omega)]
  refine ⟨sm_gate hg wex1 ⟨32, rfl⟩ fun c _ => sm_val ?_ rfl, rel_gate hg (h.z 1) fun _ _ => h.z 0⟩
  obtain ⟨k, hk, -, rfl⟩ := btw_nat (x := x) (B := n) (by omega) ((btw_lt (by omega)).mpr (by rw [← e1]; exact c))
  rw [cN_nI (by omega)]
  exact (e3 k hk).symm
/-! ===== save, restore, undo, append ===== -/
theorem cp_row (s d : Nat → Int32) : ∀ j, j < 181 → cpN s d 181 j = s j := fun _ hj => if_pos hj
theorem sc_save {w : PV} {u : HV} (h : Rel w u) : SC_save Rel w u := by
  obtain ⟨hs, ⟨K, N, hK, hN, a1, a2, a3, a4⟩, hsn, ht, hl, he, h3, hx, hy⟩ := h
  obtain ⟨m, n, q⟩ := hs
  refine ⟨⟨u.2.1 1 1, by show rI ((w.1 0).1 3) = _; rw [q.2.2.1.1, q.2.2.1.2], rfl⟩, ⟨m, n, q⟩, ⟨K, N, hK, hN, a1, a2, a3, fun j hj => ?_⟩, ⟨rfl, fun _ => ?_⟩, ht, hl, he, h3, fun k hk => ?_, hy⟩
  · show HS (w.2.1 _) (va_up u.2.1 2 _ (5 + j))
    rw [va_up_n (by omega)]
    exact a4 j hj
  · exact HS.row ⟨m, n, q⟩ (cp_row _ _)
  · show HX (if k = 2 then w.1 0 else w.1 k)
    by_cases c : k = 2
    · rw [if_pos c]; exact hx 0 (by decide)
    · rw [if_neg c]; exact hx k hk
theorem sc_restore {w : PV} {u : HV} (h : Rel w u) : SC_restore Rel w u := by
  obtain ⟨hs, hh, ⟨f1, f2⟩, ht, hl, he, h3, hx, hy⟩ := id h
  have hg : ¬ w.2.2.2.2 0 = 0 ↔ ¬ u.1 2 = 0 := by rw [f1]
  have e1 : ¬ u.1 2 = 0 → (w.1 2).1 3 = u.2.1 2 1 := fun c => by
    obtain ⟨m, n, q⟩ := f2 c
    exact q.2.2.1.1.trans q.2.2.1.2.symm
  refine ⟨sm_gate hg wex1 isI_0 fun _ c => sm_val ((e1 c).trans (cp_row (u.2.1 2) (u.2.1 1) 1 (by decide)).symm) rfl, rel_gate hg (h.z 1) fun _ c => ?_⟩
  obtain ⟨K, N, hK, hN, a1, a2, a3, a4⟩ := hh
  refine ⟨HS.row (f2 c) (cp_row _ _), ⟨0, N, by decide, hN, rfl, rfl, a3, fun j hj => absurd hj (Nat.not_lt_zero _)⟩, ⟨f1, f2⟩, ht, hl, he, h3, fun k hk => ?_, hy⟩
  show HX (if k = 0 then w.1 2 else w.1 k)
  by_cases c : k = 0
  · rw [if_pos c]; exact hx 2 (by decide)
  · rw [if_neg c]; exact hx k hk
theorem nI_sub1 {K : Nat} (h : 1 ≤ K) : nI K - 1 = nI (K - 1) := by
  have e : nI (K - 1) + nI 1 = nI K := by rw [nI_add]; congr 1; omega
  rw [← e]
  exact Int32.add_sub_cancel _ _
theorem nI_z {K : Nat} (h : K < 2 ^ 31) : nI K = 0 ↔ K = 0 := nI_eq h (by decide)
theorem nxU_nI {N : Nat} (h : N < 8) : nxU (nI N) = nI ((N + 7) % 8) := by
  unfold nxU
  by_cases c : N = 0
  · subst c; rfl
  · rw [if_neg (fun e => c ((nI_z (by omega)).mp e)), nI_sub1 (by omega)]
    congr 1; omega
theorem sc_undo {w : PV} {u : HV} (h : Rel w u) : SC_undo Rel w u := by
  obtain ⟨hs, ⟨K, N, hK, hN, a1, a2, a3, a4⟩, ⟨f1, f2⟩, ht, hl, he, h3, hx, hy⟩ := id h
  have hg : ¬ w.2.2.2.2 2 = 0 ↔ ¬ u.1 1 = 0 := by rw [a1, a2]
  refine ⟨sm_gate hg wex1 isI_0 fun _ _ => sm_val (by rw [a1, a2]) rfl, rel_gate hg (h.z 1) fun _ c => ?_⟩
  have hK1 : 1 ≤ K := Nat.pos_of_ne_zero fun e => c (by rw [a2, e]; rfl)
  have eN : cN (nxU (w.2.2.2.2 1)) = (N + 7) % 8 := by rw [a3, nxU_nI hN, cN_nI (by omega)]
  have eK : cN (u.1 1 - 1) = K - 1 := by rw [a2, nI_sub1 hK1, cN_nI (by omega)]
  have eh : (wUndo w).1 0 = w.2.1 ((N + 7) % 8) := by
    show w.2.1 (cN (nxU (w.2.2.2.2 1))) = _
    rw [eN]
  have er : (mUnd u).2.1 1 = cpN (u.2.1 (5 + (K - 1))) (u.2.1 1) 181 := by
    show cpN (u.2.1 (5 + cN (u.1 1 - 1))) (u.2.1 1) 181 = _
    rw [eK]
  have hl9 := a4 (K - 1) (by omega)
  have e9 : (N + 8 - K + (K - 1)) % 8 = (N + 7) % 8 := by congr 1; omega
  rw [e9] at hl9
  refine ⟨?_, ⟨K - 1, (N + 7) % 8, by omega, by omega, ?_, ?_, ?_, fun j hj => ?_⟩, ⟨f1, f2⟩, ht, hl, he, h3, fun k hk => ?_, hy⟩
  · show HS ((wUndo w).1 0) ((mUnd u).2.1 1)
    rw [eh, er]
    exact hl9.row (cp_row _ _)
  · show w.2.2.2.2 2 - 1 = _; rw [a1, nI_sub1 hK1]
  · show u.1 1 - 1 = _; rw [a2, nI_sub1 hK1]
  · show nxU (w.2.2.2.2 1) = _; rw [a3, nxU_nI hN]
  · have e8 : ((N + 7) % 8 + 8 - (K - 1) + j) % 8 = (N + 8 - K + j) % 8 := by omega
    rw [e8]
    show HS (w.2.1 _) (va_up u.2.1 1 _ (5 + j))
    rw [va_up_n (by omega)]
    exact a4 j (by omega)
  · show HX (if k = 0 then _ else w.1 k)
    by_cases c : k = 0
    · rw [if_pos c, eN]; exact hy _ (by omega)
    · rw [if_neg c]; exact hx k hk
