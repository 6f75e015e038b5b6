/-! ===== shares and means ===== -/
theorem sm_or {s t : Int32} (h : s &&& t = 0) (V : Nat → Nat) : ∀ n, n ≤ 24 → sm (s ||| t) V n = sm s V n + sm t V n
  | 0, _ => rfl
  | n + 1, hn => by
    show sm (s ||| t) V n + (if bt (s ||| t) n then V n else 0) = (sm s V n + (if bt s n then V n else 0)) + (sm t V n + (if bt t n then V n else 0))
    rw [sm_or h V n (by omega), b_or]
    have h1 : bt (s &&& t) n = false := by rw [h, b_0]
    rw [b_and] at h1
    cases c1 : bt s n <;> cases c2 : bt t n
    · simp
    · simp; omega
    · simp; omega
    · rw [c1, c2] at h1; exact absurd h1 (by decide)
theorem HSn.two {m n : Nat} {h : HV} {r : Nat → Int32} (q : HSn m n h r) {s t : Int32} (d : s &&& t = 0) : ∃ a c, a + c ≤ 168 ∧ hW h s = nI a ∧ hW h t = nI c ∧ hW h (s ||| t) = nI (a + c) := by
  obtain ⟨V, hV, -⟩ := q.wt
  have e := fun s => wSum_n (w := h.2.1 2) (V := V) (fun k hk => (hV k hk).1) s 24 (Nat.le_refl _)
  have l := sm_le (s := s ||| t) (V := V) (fun k hk => by have := (hV k hk).2; omega) 24 (Nat.le_refl _)
  have o := sm_or d V 24 (Nat.le_refl _)
  exact ⟨sm s V 24, sm t V 24, by omega, e s, e t, (e _).trans (by rw [o])⟩
theorem shN_use {a b : Nat} (h : shN a b = true) : vf_n32 (shA a b) ∧ (Op.cmpValue (FP.fcmp (shA a b) 0) .g ≤ 0 ∨ bsT 9 (shA a b) 127 = true) ∧ bsV (shA a b) = (shA a b).toInt32 ∧ Op.cmpValue (FP.fcmp (shA a b) (shA a b)) .l = 0 := by
  unfold shN at h
  rw [Bool.and_eq_true, Bool.and_eq_true, Bool.and_eq_true, Bool.or_eq_true, decide_eq_true_eq, decide_eq_true_eq, decide_eq_true_eq, decide_eq_true_eq] at h
  exact ⟨h.1.1.1, h.1.1.2, h.1.2, h.2⟩
/-- the share of a bill on both sides -/
theorem HSn.share {m n : Nat} {h u : HV} (q : HSn m n h (u.2.1 1)) {b : Nat} (hb : b < 8) : ∃ a c, a + c ≤ 168 ∧ shB h (nI b) = nI (a + c) ∧ rAll u b = nI (a + c) ∧ shX h (nI b) = shA a (a + c) ∧ rShX u b = shA a (a + c) := by
  obtain ⟨⟨r0, r3, r4, r5, r6, r7⟩, -, -, -, -, -, d, -⟩ := q.bl hb
  obtain ⟨a, c, hac, e1, e2, e3⟩ := q.two d
  have eb : shB h (nI b) = nI (a + c) := by
    show hW h (h.2.1 6 (cN (nI b))) + hW h (h.2.1 7 (cN (nI b))) = _
    rw [cN_nI (by omega), e1, e2, nI_add]
  have er : rAll u b = nI (a + c) := by
    show rWt (u0 u) (u.2.1 1 (53 + 16 * b + 5) ||| u.2.1 1 (53 + 16 * b + 6)) = _
    rw [r5, r6, rWt_u0, ← q.eW, e3]
  refine ⟨a, c, hac, eb, er, ?_, ?_⟩
  · show FP.fdiv (FP.i2f (hW h (h.2.1 6 (cN (nI b))))) (FP.i2f (shB h (nI b))) = _
    rw [eb, cN_nI (by omega), e1]
    rfl
  · show FP.fdiv (FP.i2f (rWt (u0 u) (u.2.1 1 (53 + 16 * b + 5)))) (FP.i2f (rAll u b)) = _
    rw [er, r5, rWt_u0, ← q.eW, e1]
    rfl
theorem full_mask : ∀ m, m < 25 → ∀ i, i < m → bt (shl 1 (nI m) - 1) i = true := by decide +kernel
theorem sm_full {s t : Int32} {V : Nat → Nat} {m : Nat} (hs : ∀ i, i < m → bt s i = true) (ht : ∀ i, i < m → bt t i = true) (hz : ∀ k, m ≤ k → k < 24 → V k = 0) : ∀ n, n ≤ 24 → sm s V n = sm t V n
  | 0, _ => rfl
  | n + 1, hn => by
    show sm s V n + (if bt s n then V n else 0) = sm t V n + (if bt t n then V n else 0)
    rw [sm_full hs ht hz n (by omega)]
    by_cases c : n < m
    · rw [hs n c, ht n c]
    · rw [hz n (by omega) (by omega), ite_self, ite_self]
theorem HSn.mean {m n : Nat} {h u : HV} (q : HSn m n h (u.2.1 1)) : ∃ a, a ≤ 168 ∧ hW h (shl 1 (h.1 0) - 1) = nI a ∧ rWt (u0 u) (-1) = nI a := by
  obtain ⟨V, hV, hz⟩ := q.wt
  have hm := q.1.1
  have e := fun s => wSum_n (w := h.2.1 2) (V := V) (fun k hk => (hV k hk).1) s 24 (Nat.le_refl _)
  refine ⟨sm (-1) V 24, sm_le (fun k hk => by have := (hV k hk).2; omega) 24 (Nat.le_refl _), ?_, ?_⟩
  · rw [q.2.1.1]
    refine (e _).trans ?_
    rw [sm_full (full_mask m (by omega)) (fun i hi => b_m1 i (by omega)) hz 24 (Nat.le_refl _)]
  · rw [rWt_u0, ← q.eW]
    exact e _
theorem mean_ok {m n : Nat} {h u : HV} (q : HSn m n h (u.2.1 1)) (h0 : ¬ h.1 0 = 0) : MwOK h ∧ vf_n64 (rMwX u) ∧ FP.ddiv (FP.i2d (hW h (shl 1 (h.1 0) - 1))) (FP.i2d (h.1 0)) = rMwX u := by
  obtain ⟨a, ha, e1, e2⟩ := q.mean
  have hm : 1 ≤ m := Nat.pos_of_ne_zero fun z => h0 (by rw [q.2.1.1, z]; rfl)
  have k := mwN_all hm q.1.1 ha
  unfold mwN at k
  have k2 := of_decide_eq_true k
  have e3 : rMwX u = FP.ddiv (FP.i2d (nI a)) (FP.i2d (nI m)) := by
    show FP.ddiv (FP.i2d (rWt (u0 u) (-1))) (FP.i2d (u.2.1 1 0)) = _
    rw [e2, q.2.1.2]
  refine ⟨?_, ?_, ?_⟩
  · show vf_n64 (FP.ddiv (FP.i2d (hW h (shl 1 (h.1 0) - 1))) (FP.i2d (h.1 0)))
    rw [e1, q.2.1.1]; exact k2
  · rw [e3]; exact k2
  · rw [e1, e3, q.2.1.1]
theorem sc_meanWeight {w : PV} {u : HV} (h : Rel w u) : SC_meanWeight Rel w u := by
  obtain ⟨m, n, q⟩ := h.1
  have hg : ¬ (w.1 0).1 0 = 0 ↔ ¬ u.2.1 1 0 = 0 := by rw [q.2.1.1, q.2.1.2]
  refine ⟨sm_gate hg wex1 ⟨_, rfl⟩ fun c _ => ?_, rel_gate hg (h.z 1) fun _ _ => h.z 0⟩
  refine ⟨.double (rMwX u), ⟨_, rfl⟩, rfl, Or.inl ⟨?_, rfl⟩⟩
  show (.inl (some (.double (FP.ddiv (FP.i2d (hW (w.1 0) (shl 1 ((w.1 0).1 0) - 1))) (FP.i2d ((w.1 0).1 0))))) : Res) = _
  rw [(mean_ok q c).2.2]
theorem sc_shareBits {w : PV} {u : HV} (h : Rel w u) : SC_shareBits Rel w u := by
  obtain ⟨m, n, q⟩ := h.1
  intro x
  have hg2 : hasB (w.1 0) x → (¬ shB (w.1 0) x = 0 ↔ ¬ rAll u (cN x) = 0) := fun c => by
    obtain ⟨b, -, hb, rfl⟩ := q.bil c
    obtain ⟨a, d, hac, e1, e2, -⟩ := q.share hb
    rw [cN_nI (by omega), e1, e2]
  refine ⟨sm_gate (q.gB x) wex1 isI_0 fun c _ => sm_gate (hg2 c) wex2 isI_0 fun c2 _ => sm_val ?_ rfl, rel_gate (q.gB x) (h.z 1) fun c _ => rel_gate (hg2 c) (h.z 2) fun _ _ => h.z 0⟩
  obtain ⟨b, -, hb, rfl⟩ := q.bil c
  obtain ⟨a, d, hac, e1, e2, e3, e4⟩ := q.share hb
  have hp : 1 ≤ a + d := Nat.pos_of_ne_zero fun z => c2 (by rw [e1, z]; rfl)
  rw [e3, cN_nI (by omega), e4]
  exact (shN_use (shN_all hp hac (by omega))).2.2.1
/-! ===== all that the methods ask for; the beginning ===== -/
theorem rel_lg {w : PV} {u : HV} (h : Rel w u) : LG w u := by
  obtain ⟨hs, ⟨K, N, hK, hN, a1, a2, a3, -⟩, -, ⟨t1, ⟨n, t2, t3, t4⟩, t5, t6, t7⟩, ⟨l1, ⟨nl, l2, l3, l4, l5⟩, l6⟩, -, g3, hx, hy⟩ := id h
  obtain ⟨m, n1, q⟩ := id hs
  refine ⟨⟨fun k hk => (hx k hk).inv, fun k hk => (hy k hk).inv, t1, l1, ?_⟩, hs.rinv, ⟨K, hK, a2⟩, ⟨⟨n, t2, t4⟩, t6, fun j hj => ?_, t7⟩, ⟨nl, by omega, l4⟩, l6, fun b hb => ?_, fun b hb c => ?_, fun c => ?_, fun b c c2 => ?_, fun c => ?_⟩
  · rw [a3]; exact vp_in_nI hN (by decide)
  · rw [t5 j hj]; exact t1.2.2.1 j hj
  · obtain ⟨⟨r0, r3, r4, r5, r6, r7⟩, -, -, -, ⟨g, hg, eg, -⟩, ⟨d, hd, ed, -⟩, -⟩ := q.bl hb
    obtain ⟨c1, hc1, ec1⟩ := jbc_48 (rB u b 1)
    obtain ⟨c2, hc2, ec2⟩ := jbc_48 (rB u b 2)
    obtain ⟨f, hf, ef⟩ := q.wt_le (rB u b 5)
    obtain ⟨a, ha, ea⟩ := q.wt_le (rB u b 6)
    refine ⟨⟨g, by omega, r3.trans eg⟩, ⟨d / 60, by omega, ?_⟩, ⟨c1 + c2, by omega, ?_⟩, ⟨f, by omega, ?_⟩, ⟨a, by omega, ?_⟩⟩
    · show u.2.1 1 (53 + 16 * b + 4) / 60 = _
      rw [r4, ed]
      exact nI_div (b := 60) (by omega) (by decide)
    · rw [ec1, ec2, nI_add]
    · rw [← q.eW]; exact ef
    · rw [← q.eW]; exact ea
  · obtain ⟨a, d, hac, e1, e2, e3, e4⟩ := q.share hb
    have hp : 1 ≤ a + d := Nat.pos_of_ne_zero fun z => c (by rw [e2, z]; rfl)
    have k := shN_use (shN_all (a := a) hp hac (by omega))
    rw [e4]
    exact ⟨k.1, k.2.2.2⟩
  · exact (mean_ok q (by rw [q.2.1.1, ← q.2.1.2]; exact c)).2.1
  · obtain ⟨k, -, hk, rfl⟩ := q.bil c
    obtain ⟨a, d, hac, e1, e2, e3, e4⟩ := q.share hk
    have hp : 1 ≤ a + d := Nat.pos_of_ne_zero fun z => c2 (by rw [e1, z]; rfl)
    have kk := shN_use (shN_all (a := a) hp hac (by omega))
    unfold ShF
    rw [e3]
    exact ⟨kk.1, kk.2.1⟩
  · exact (mean_ok q c).1
theorem hs_z : HS hZ (mZ.2.1 1) := by
  have e : ∀ j, j ≠ 3 → mZ.2.1 1 j = 0 := fun j hj => by
    show upd (fun _ => 0) 3 3 j = 0
    exact upd_n hj
  refine ⟨0, 0, ⟨by decide, by decide⟩, ⟨rfl, e 0 (by decide)⟩, ⟨rfl, e 1 (by decide)⟩, ⟨e 2 (by decide), (show upd (fun _ => (0 : Int32)) 3 3 3 = 3 from upd_s _ _ _), e 4 (by decide)⟩, fun k hk => ⟨e _ (by omega), e _ (by omega), ⟨0, by decide, rfl⟩, fun z => absurd z (Nat.not_lt_zero _), fun _ => rfl⟩, fun b hb => ?_⟩
  refine ⟨⟨e _ (by omega), e _ (by omega), e _ (by omega), e _ (by omega), e _ (by omega), e _ (by omega)⟩, ?_, ⟨0, by decide, rfl, fun q hq => absurd hq (Nat.not_lt_zero _)⟩, Or.inl rfl, ⟨0, by decide, rfl, fun _ => by decide⟩, ⟨0, by decide, rfl, fun _ => by decide⟩, i_0and 0, fun _ => ⟨rfl, rfl, rfl, rfl, rfl, rfl⟩⟩
  rw [e _ (by omega), e _ (by omega)]
  show (0 : Int64) = _
  decide
theorem rel_z : Rel bZ mZ := by
  refine ⟨hs_z, ⟨0, 0, by decide, by decide, rfl, rfl, rfl, fun j hj => absurd hj (Nat.not_lt_zero _)⟩, ⟨rfl, fun c => absurd rfl c⟩, ⟨⟨⟨0, by decide, rfl⟩, ⟨0, by decide, rfl⟩, fun j _ => ⟨0, by decide, rfl⟩, ⟨0, by decide, rfl⟩⟩, ⟨0, by decide, rfl, rfl⟩, fun j _ => rfl, ⟨0, by decide, rfl⟩, Or.inl rfl⟩, ⟨⟨⟨0, by decide, rfl⟩, fun j _ => by show narrow .char (.int 0) = .int 0; decide⟩, ⟨0, by decide, rfl, rfl, fun j hj => absurd hj (Nat.not_lt_zero _)⟩, fun j _ => by show narrow .char (.int 0) = .int 0; decide⟩, ⟨rfl, rfl, ?_, ?_⟩, rfl, fun k _ => ⟨_, hs_z⟩, fun k _ => ⟨_, hs_z⟩⟩
  · show (-1 : Int32) ≤ -1; decide
  · show (-1 : Int32) ≤ -1; decide
theorem simu : Simu Rel := fun w u h => ⟨rel_lg h, sc_addMember h, sc_enter h, sc_leave h, sc_setQuorum h, sc_memberCount h, sc_wardOf h, sc_weightOf h, sc_isPresent h, sc_presentMask h, sc_quorum h, sc_isQuorate h, sc_wardWeight h, sc_strongestWard h, sc_introduce h, sc_billCount h, sc_isOpen h, sc_isPassed h, sc_readings h, sc_clauses h, sc_clauseCount h, sc_longestRun h, sc_longestRunByShift h, sc_billAtRank h, sc_voteFor h, sc_voteAgainst h, sc_weightFor h, sc_weightForByDigits h, sc_weightAgainst h, sc_closeReading h, sc_propose h, sc_support h, sc_decide h, sc_pendingCount h, sc_amendedClause h, sc_supportWeight h, sc_ride h, sc_delay h, sc_rust h, sc_ridesUntilFall h, sc_passedCount h, sc_fallenCount h, sc_acceptedCount h, sc_append h, sc_run h, sc_errorPosition h, sc_failedCommand h, sc_describeBill h, sc_lineAt h, sc_meanWeight h, sc_shareBits h, sc_isConsistent h, sc_undo h, sc_save h, sc_restore h⟩
