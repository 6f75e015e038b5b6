/-! ===== each change, with its faults ===== -/
theorem btw_of {x a : Int32} {B : Nat} (ha : 0 ≤ a) (hB : B + 1 < 2 ^ 31) (h : btw x a (nI B)) : ∃ k, k ≤ B ∧ x = nI k := by
  have h2 : btw x 0 (nI (B + 1) - 1) := by
    rw [nI_sub1 (by omega)]
    exact ⟨Int32.le_trans ha h.1, h.2⟩
  obtain ⟨k, hk, -, e⟩ := btw_nat hB h2
  exact ⟨k, by omega, e⟩
theorem nn {p : Prop} (h : p) : ¬ ¬ p := fun z => z h
theorem q_uC {m n : Nat} {h u : HV} (q : HSn m n h (u.2.1 1)) : HSn m n h ((uC u).2.1 1) := by rw [uC_now]; exact q
theorem ch_addMember {m n : Nat} {h u : HV} (q : HSn m n h (u.2.1 1)) (x y : Int32) : ChOK [eIdx, eArg, eSta] (fAdmit h x y) (aAdmit h x y) (h.1 0) u (mAddMember u x y) := by
  unfold fAdmit mAddMember
  by_cases c1 : btw x 0 3
  · rw [if_neg (nn (isW_btw.mpr c1)), mG_n (nn c1)]
    by_cases c2 : btw y 1 7
    · rw [if_neg (fun z => out_btw.mp z c2), mG_n (nn c2)]
      have h0 := q.2.1
      by_cases c3 : u.2.1 1 0 = 24
      · rw [if_pos (by rw [h0.1, ← h0.2, c3]; exact Int32.le_refl 24), mG_y c3]
        exact ChOK.x rfl nok3 ne03 wex3 rfl
      · have hm : m < 24 := by
          have h9 := q.1.1
          have h8 : m ≠ 24 := fun e => c3 (by rw [h0.2, e]; rfl)
          omega
        rw [if_neg (by rw [h0.1]; exact fun z => by have := (nI_leI (a := 24) (by decide) (by omega)).mp z; omega), mG_n c3]
        obtain ⟨d, hd, rfl⟩ := btw_of (B := 3) (by decide) (by decide) c1
        obtain ⟨t, ht, rfl⟩ := btw_of (B := 7) (by decide) (by decide) c2
        have q' := q_uC q
        have h0' := q'.2.1.2
        refine ChOK.y (v := sAdd (uC u) (nI d) (nI t)) rfl (by rw [h0', h0.1]) (O1.rf.set.set.set) ⟨m + 1, n, ?_⟩
        have e1 : aAdmit h (nI d) (nI t) = hsc (hset (hset h 1 m (nI d)) 2 m (nI t)) 0 (nI (m + 1)) := by
          show hsc (hset (hset h 1 (cN (h.1 0)) (nI d)) 2 (cN (h.1 0)) (nI t)) 0 (h.1 0 + 1) = _
          rw [h0.1, cN_nI (by omega), nI_1]
        have e2 : (sAdd (uC u) (nI d) (nI t)).2.1 1 = upd (upd (upd ((uC u).2.1 1) 0 (nI (m + 1))) (5 + 2 * m + 0) (nI d)) (5 + 2 * m + 1) (nI t) := by
          show upd (upd (upd ((uC u).2.1 1) 0 ((uC u).2.1 1 0 + 1)) (5 + 2 * cN ((uC u).2.1 1 0) + 0) (nI d)) (5 + 2 * cN ((uC u).2.1 1 0) + 1) (nI t) = _
          rw [h0', cN_nI (by omega), nI_1]
        rw [e1, e2]
        exact hs_add q' hm (by omega) ht
    · rw [if_pos (out_btw.mpr c2), mG_y c2]
      exact ChOK.x rfl nok2 ne02 wex2 rfl
  · rw [if_pos (fun z => c1 (isW_btw.mp z)), mG_y c1]
    exact ChOK.x rfl nok1 ne01 wex1 rfl
theorem ch_enter {m n : Nat} {h u : HV} (q : HSn m n h (u.2.1 1)) (x : Int32) : ChOK [eIdx, eSta] (fComeIn h x) (aComeIn h x) (jbc ((aComeIn h x).1 1)) u (mEnter u x) := by
  unfold fComeIn mEnter
  have g := q.gM x
  by_cases c1 : isM u x
  · rw [if_neg (nn (g.mpr (nn c1))), mG_n (nn c1)]
    obtain ⟨k, -, hk, rfl⟩ := q.mem (g.mpr (nn c1))
    by_cases c2 : prs u (nI k)
    · rw [if_pos ((q.pres hk).mpr c2), mG_y c2]
      exact ChOK.x rfl nok3 ne02 wex2 rfl
    · rw [if_neg (fun z => c2 ((q.pres hk).mp z)), mG_n c2]
      have q' := q_uC q
      have e : (uC u).2.1 1 2 = h.1 1 := q'.2.2.2.1.1
      have e2 : (sIn (uC u) (nI k)).2.1 1 = upd ((uC u).2.1 1) 2 (h.1 1 ||| bit (nI k)) := by
        show upd ((uC u).2.1 1) 2 ((uC u).2.1 1 2 ||| shl 1 (nI k)) = _
        rw [e]
      refine ChOK.y (v := sIn (uC u) (nI k)) rfl ?_ O1.rf.set ⟨m, n, by rw [e2]; exact hs_pres q' _⟩
      rw [e2, upd_s]; rfl
  · rw [if_pos (fun z => g.mp z c1), mG_y c1]
    exact ChOK.x rfl nok1 ne01 wex1 rfl
theorem ch_leave {m n : Nat} {h u : HV} (q : HSn m n h (u.2.1 1)) (x : Int32) : ChOK [eIdx, eSta] (fGoOut h x) (aGoOut h x) (jbc ((aGoOut h x).1 1)) u (mLeave u x) := by
  unfold fGoOut mLeave
  have g := q.gM x
  by_cases c1 : isM u x
  · rw [if_neg (nn (g.mpr (nn c1))), mG_n (nn c1)]
    obtain ⟨k, -, hk, rfl⟩ := q.mem (g.mpr (nn c1))
    by_cases c2 : prs u (nI k)
    · rw [if_pos ((q.pres hk).mpr c2), mG_n (nn c2)]
      have q' := q_uC q
      have e : (uC u).2.1 1 2 = h.1 1 := q'.2.2.2.1.1
      have e2 : (sOut (uC u) (nI k)).2.1 1 = upd ((uC u).2.1 1) 2 (h.1 1 &&& (bit (nI k) ^^^ (-1))) := by
        show upd ((uC u).2.1 1) 2 ((uC u).2.1 1 2 &&& (shl 1 (nI k) ^^^ (-1))) = _
        rw [e]
      refine ChOK.y (v := sOut (uC u) (nI k)) rfl ?_ O1.rf.set ⟨m, n, by rw [e2]; exact hs_pres q' _⟩
      rw [e2, upd_s]; rfl
    · rw [if_neg (fun z => c2 ((q.pres hk).mp z)), mG_y c2]
      exact ChOK.x rfl nok3 ne02 wex2 rfl
  · rw [if_pos (fun z => g.mp z c1), mG_y c1]
    exact ChOK.x rfl nok1 ne01 wex1 rfl
theorem ch_setQuorum {m n : Nat} {h u : HV} (q : HSn m n h (u.2.1 1)) (x : Int32) : ChOK [eArg] (fQuorum x) (aQuorum h x) (h.1 2) u (mSetQuorum u x) := by
  unfold fQuorum mSetQuorum
  by_cases c1 : btw x 1 24
  · rw [if_neg (fun z => out_btw.mp z c1), mG_n (nn c1)]
    have q' := q_uC q
    have e : (uC u).2.1 1 3 = h.1 2 := q'.2.2.2.1.2.1
    refine ChOK.y rfl (by rw [e]) O1.rf.set ⟨m, n, ?_⟩
    exact hs_quor q' _
  · rw [if_pos (out_btw.mpr c1), mG_y c1]
    exact ChOK.x rfl nok2 ne01 wex1 rfl
theorem ch_introduce {m n : Nat} {h u : HV} (q : HSn m n h (u.2.1 1)) (x f la : Int32) : ChOK [eIdx, eArg, eSta, eUns] (fBring h x f la) (aBring h f la) (h.1 3) u (mIntroduce u x f la) := by
  unfold fBring mIntroduce
  have g := q.gM x
  by_cases c1 : ¬ isM u x ∨ ¬ btw f 0 63 ∨ ¬ btw la 0 63
  · have c1' : ¬ hasM h x ∨ ¬ isC f ∨ ¬ isC la := by
      rcases c1 with c | c | c
      · exact Or.inl fun z => g.mp z c
      · exact Or.inr (Or.inl fun z => c (isC_btw.mp z))
      · exact Or.inr (Or.inr fun z => c (isC_btw.mp z))
    rw [if_pos c1', mG_y c1]
    exact ChOK.x rfl nok1 ne01 wex1 rfl
  · have d1 : isM u x := Classical.byContradiction fun z => c1 (Or.inl z)
    have d2 : btw f 0 63 := Classical.byContradiction fun z => c1 (Or.inr (Or.inl z))
    have d3 : btw la 0 63 := Classical.byContradiction fun z => c1 (Or.inr (Or.inr z))
    have c1' : ¬ (¬ hasM h x ∨ ¬ isC f ∨ ¬ isC la) := by
      rintro (c | c | c)
      · exact c (g.mpr (nn d1))
      · exact c (isC_btw.mpr d2)
      · exact c (isC_btw.mpr d3)
    rw [if_neg c1', mG_n c1]
    obtain ⟨k, -, hk, rfl⟩ := q.mem (g.mpr (nn d1))
    obtain ⟨a, ha, rfl⟩ := btw_of (B := 63) (by decide) (by decide) d2
    obtain ⟨b, hb, rfl⟩ := btw_of (B := 63) (by decide) (by decide) d3
    by_cases c2 : nI a ≤ nI b
    · rw [if_neg (nlt_le.mpr c2), mG_n (nn c2)]
      have h0 := q.2.2.1
      by_cases c3 : u.2.1 1 1 = 8
      · rw [if_pos (by rw [h0.1, ← h0.2, c3]; exact Int32.le_refl 8), mG_y c3]
        exact ChOK.x rfl nok3 ne03 wex3 rfl
      · have hm : n < 8 := by
          have h9 := q.1.2
          have h8 : n ≠ 8 := fun e => c3 (by rw [h0.2, e]; rfl)
          omega
        rw [if_neg (by rw [h0.1]; exact fun z => by have := (nI_leI (a := 8) (by decide) (by omega)).mp z; omega), mG_n c3]
        by_cases c4 : prs u (nI k)
        · rw [if_pos ((q.pres hk).mpr c4), mG_n (nn c4)]
          have q' := q_uC q
          refine ChOK.y (v := sBrg (uC u) (nI a) (nI b)) rfl (by rw [q'.2.2.1.2, h0.1]) (O1.tgs (O1.clr O1.rf.set _) _) ⟨m, n + 1, ?_⟩
          exact hs_bring q' hm ((nI_leI (by omega) (by omega)).mp c2) (by omega)
        · rw [if_neg (fun z => c4 ((q.pres hk).mp z)), mG_y c4]
          exact ChOK.x rfl nok5 ne04 wex4 rfl
    · rw [if_pos (nle_lt.mp c2), mG_y c2]
      exact ChOK.x rfl nok2 ne02 wex2 rfl
/-- the gate on a bill and a member -/
theorem g_bm {m n : Nat} {h u : HV} (q : HSn m n h (u.2.1 1)) (b x : Int32) : (¬ hasB h b ∨ ¬ hasM h x) ↔ (¬ isBl u b ∨ ¬ isM u x) := by
  have g1 := q.gB b
  have g2 := q.gM x
  rw [Classical.not_not] at g1 g2
  rw [g1, g2]
theorem bm_of {m n : Nat} {h u : HV} (q : HSn m n h (u.2.1 1)) {b x : Int32} (c : ¬ (¬ isBl u b ∨ ¬ isM u x)) : ∃ j k, j < n ∧ j < 8 ∧ b = nI j ∧ k < 24 ∧ x = nI k := by
  have c' : ¬ (¬ hasB h b ∨ ¬ hasM h x) := fun z => c ((g_bm q b x).mp z)
  obtain ⟨j, h1, h2, e1⟩ := q.bil (Classical.byContradiction fun z => c' (Or.inl z))
  obtain ⟨k, h3, h4, e2⟩ := q.mem (Classical.byContradiction fun z => c' (Or.inr z))
  exact ⟨j, k, h1, h2, e1, h4, e2⟩
theorem HSn.st {m n : Nat} {h u : HV} (q : HSn m n h (u.2.1 1)) {j : Nat} (hj : j < 8) : h.2.1 3 (cN (nI j)) = rB u (cN (nI j)) 0 := by
  rw [cN_nI (by omega)]; exact (q.bl hj).1.1.symm
theorem ch_voteFor {m n : Nat} {h u : HV} (q : HSn m n h (u.2.1 1)) (b x : Int32) : ChOK [eIdx, eSta, eUns] (fVote h b x) (aFor h b x) (hW (aFor h b x) ((aFor h b x).2.1 6 (cN b))) u (mVoteFor u b x) := by
  unfold fVote mVoteFor mVote
  by_cases c1 : ¬ isBl u b ∨ ¬ isM u x
  · rw [if_pos ((g_bm q b x).mpr c1), mG_y c1]
    exact ChOK.x rfl nok1 ne01 wex1 rfl
  · rw [if_neg (fun z => c1 ((g_bm q b x).mp z)), mG_n c1]
    obtain ⟨j, k, hjn, hj, rfl, hk, rfl⟩ := bm_of q c1
    have es := q.st hj
    by_cases c2 : rB u (cN (nI j)) 0 = 0
    · rw [if_neg (show ¬ h.2.1 3 (cN (nI j)) ≠ 0 from nn (es.trans c2)), mG_n (nn c2)]
      by_cases c4 : prs u (nI k)
      · rw [if_pos ((q.pres hk).mpr c4), mG_n (nn c4)]
        have q2 := hs_for (q_uC q) hjn hj (nI k)
        have e : hW (aFor h (nI j) (nI k)) ((aFor h (nI j) (nI k)).2.1 6 (cN (nI j))) = rWt (sVote (uC u) (cN (nI j)) (nI k) 5 6) (rB (sVote (uC u) (cN (nI j)) (nI k) 5 6) (cN (nI j)) 5) := by
          rw [cN_nI (by omega), q2.eW, ← (q2.bl hj).1.2.2.2.1]
        refine ChOK.y (v := sVote (uC u) (cN (nI j)) (nI k) 5 6) rfl (by rw [e]) O1.rf.set.set ⟨m, n, ?_⟩
        rw [cN_nI (by omega)]; exact q2
      · rw [if_neg (fun z => c4 ((q.pres hk).mp z)), mG_y c4]
        exact ChOK.x rfl nok5 ne03 wex3 rfl
    · rw [if_pos (show h.2.1 3 (cN (nI j)) ≠ 0 from fun z => c2 (es.symm.trans z)), mG_y c2]
      exact ChOK.x rfl nok3 ne02 wex2 rfl
theorem ch_voteAgainst {m n : Nat} {h u : HV} (q : HSn m n h (u.2.1 1)) (b x : Int32) : ChOK [eIdx, eSta, eUns] (fVote h b x) (aAgainst h b x) (hW (aAgainst h b x) ((aAgainst h b x).2.1 7 (cN b))) u (mVoteAgainst u b x) := by
  unfold fVote mVoteAgainst mVote
  by_cases c1 : ¬ isBl u b ∨ ¬ isM u x
  · rw [if_pos ((g_bm q b x).mpr c1), mG_y c1]
    exact ChOK.x rfl nok1 ne01 wex1 rfl
  · rw [if_neg (fun z => c1 ((g_bm q b x).mp z)), mG_n c1]
    obtain ⟨j, k, hjn, hj, rfl, hk, rfl⟩ := bm_of q c1
    have es := q.st hj
    by_cases c2 : rB u (cN (nI j)) 0 = 0
    · rw [if_neg (show ¬ h.2.1 3 (cN (nI j)) ≠ 0 from nn (es.trans c2)), mG_n (nn c2)]
      by_cases c4 : prs u (nI k)
      · rw [if_pos ((q.pres hk).mpr c4), mG_n (nn c4)]
        have q2 := hs_against (q_uC q) hjn hj (nI k)
        have e : hW (aAgainst h (nI j) (nI k)) ((aAgainst h (nI j) (nI k)).2.1 7 (cN (nI j))) = rWt (sVote (uC u) (cN (nI j)) (nI k) 6 5) (rB (sVote (uC u) (cN (nI j)) (nI k) 6 5) (cN (nI j)) 6) := by
          rw [cN_nI (by omega), q2.eW, ← (q2.bl hj).1.2.2.2.2.1]
        refine ChOK.y (v := sVote (uC u) (cN (nI j)) (nI k) 6 5) rfl (by rw [e]) O1.rf.set.set ⟨m, n, ?_⟩
        rw [cN_nI (by omega)]; exact q2
      · rw [if_neg (fun z => c4 ((q.pres hk).mp z)), mG_y c4]
        exact ChOK.x rfl nok5 ne03 wex3 rfl
    · rw [if_pos (show h.2.1 3 (cN (nI j)) ≠ 0 from fun z => c2 (es.symm.trans z)), mG_y c2]
      exact ChOK.x rfl nok3 ne02 wex2 rfl
theorem HSn.pe {m n : Nat} {h u : HV} (q : HSn m n h (u.2.1 1)) {j : Nat} (hj : j < 8) : ∃ p, p ≤ 4 ∧ h.2.1 8 (cN (nI j)) = nI p ∧ rB u (cN (nI j)) 7 = nI p := by
  obtain ⟨⟨-, -, -, -, -, e⟩, -, ⟨p, hp, ep, -⟩, -⟩ := q.bl hj
  rw [cN_nI (by omega)]
  exact ⟨p, hp, ep, e.trans ep⟩
theorem ch_closeReading {m n : Nat} {h u : HV} (q : HSn m n h (u.2.1 1)) (b : Int32) : ChOK [eIdx, eSta, eUns] (fEnd h b) (aEnd h b) (bI (sucE h b)) u (mCloseReading u b) := by
  unfold fEnd mCloseReading
  have g := q.gB b
  by_cases c1 : isBl u b
  · rw [if_neg (nn (g.mpr (nn c1))), mG_n (nn c1)]
    obtain ⟨j, hjn, hj, rfl⟩ := q.bil (g.mpr (nn c1))
    have es := q.st hj
    obtain ⟨p, hp, p1, p2⟩ := q.pe hj
    by_cases c2 : rB u (cN (nI j)) 0 = 0
    · rw [if_neg (show ¬ h.2.1 3 (cN (nI j)) ≠ 0 from nn (es.trans c2)), mG_n (nn c2)]
      by_cases c3 : ¬ quo u ∨ ¬ rB u (cN (nI j)) 7 ≤ 0
      · have c3' : ¬ (hQuor h ∧ h.2.1 8 (cN (nI j)) = 0) := by
          rintro ⟨z1, z2⟩
          rcases c3 with c | c
          · exact c (q.quor.mp z1)
          · exact c (by rw [p2, ← p1, z2]; exact Int32.le_refl 0)
        rw [if_neg c3', mG_y c3]
        exact ChOK.x rfl nok5 ne03 wex3 rfl
      · have d1 : quo u := Classical.byContradiction fun z => c3 (Or.inl z)
        have d2 : rB u (cN (nI j)) 7 ≤ 0 := Classical.byContradiction fun z => c3 (Or.inr z)
        have p0 : p = 0 := by
          rw [p2] at d2
          have := (nI_leI (b := 0) (by omega) (by decide)).mp d2
          omega
        have d3 : h.2.1 8 (cN (nI j)) = 0 := by rw [p1, p0]; rfl
        rw [if_pos ⟨q.quor.mpr d1, d3⟩, mG_n c3]
        have q' := q_uC q
        have e : (sucE h (nI j)) ↔ rSuc (uC u) (cN (nI j)) := by rw [cN_nI (n := j) (by omega)]; exact suc_iff q' hj
        refine ChOK.y rfl (by rw [bI_cong e]) O1.cls ⟨m, n, ?_⟩
        have hst : h.2.1 3 j = 0 := by have := es.trans c2; rwa [cN_nI (by omega)] at this
        rw [cN_nI (by omega)] at d3
        rw [cN_nI (by omega)]
        exact hs_close q' hjn hj hst d3
    · rw [if_pos (show h.2.1 3 (cN (nI j)) ≠ 0 from fun z => c2 (es.symm.trans z)), mG_y c2]
      exact ChOK.x rfl nok3 ne02 wex2 rfl
  · rw [if_pos (fun z => g.mp z c1), mG_y c1]
    exact ChOK.x rfl nok1 ne01 wex1 rfl
theorem ch_propose {m n : Nat} {h u : HV} (q : HSn m n h (u.2.1 1)) (b x c : Int32) : ChOK [eIdx, eSta, eUns] (fMove h b x c) (aMove h b x c) (h.2.1 8 (cN b)) u (mPropose u b x c) := by
  unfold fMove mPropose
  have g1 := q.gB b
  have g2 := q.gM x
  rw [Classical.not_not] at g1 g2
  have g3 : (¬ hasB h b ∨ ¬ hasM h x ∨ ¬ isC c) ↔ (¬ isBl u b ∨ ¬ isM u x ∨ ¬ btw c 0 63) := by rw [g1, g2, isC_btw]
  by_cases c1 : ¬ isBl u b ∨ ¬ isM u x ∨ ¬ btw c 0 63
  · rw [if_pos (g3.mpr c1), mG_y c1]
    exact ChOK.x rfl nok1 ne01 wex1 rfl
  · rw [if_neg (fun z => c1 (g3.mp z)), mG_n c1]
    have d1 : isBl u b := Classical.byContradiction fun z => c1 (Or.inl z)
    have d2 : isM u x := Classical.byContradiction fun z => c1 (Or.inr (Or.inl z))
    have d3 : btw c 0 63 := Classical.byContradiction fun z => c1 (Or.inr (Or.inr z))
    obtain ⟨j, hjn, hj, rfl⟩ := q.bil (g1.mpr d1)
    obtain ⟨k, -, hk, rfl⟩ := q.mem (g2.mpr d2)
    obtain ⟨a, ha, rfl⟩ := btw_of (B := 63) (by decide) (by decide) d3
    have es := q.st hj
    obtain ⟨p, hp, p1, p2⟩ := q.pe hj
    have e4 : (4 : Int32) ≤ h.2.1 8 (cN (nI j)) ↔ rB u (cN (nI j)) 7 = 4 := by
      rw [p1, p2]
      rcases (show p = 0 ∨ p = 1 ∨ p = 2 ∨ p = 3 ∨ p = 4 by omega) with rfl | rfl | rfl | rfl | rfl <;> decide
    have g4 : (h.2.1 3 (cN (nI j)) ≠ 0 ∨ 4 ≤ h.2.1 8 (cN (nI j))) ↔ (¬ rB u (cN (nI j)) 0 = 0 ∨ rB u (cN (nI j)) 7 = 4) := by rw [e4, es]
    by_cases c2 : ¬ rB u (cN (nI j)) 0 = 0 ∨ rB u (cN (nI j)) 7 = 4
    · rw [if_pos (g4.mpr c2), mG_y c2]
      exact ChOK.x rfl nok3 ne02 wex2 rfl
    · rw [if_neg (fun z => c2 (g4.mp z)), mG_n c2]
      by_cases c4 : prs u (nI k)
      · rw [if_pos ((q.pres hk).mpr c4), mG_n (nn c4)]
        have q' := q_uC q
        obtain ⟨p', -, p1', p2'⟩ := q'.pe hj
        refine ChOK.y (v := sMov (uC u) (cN (nI j)) (nI k) (nI a)) rfl (by rw [p2', p1']) O1.rf.set.set.set ⟨m, n, ?_⟩
        have z := fun z => c2 (Or.inr (e4.mp z))
        rw [cN_nI (by omega)] at z
        rw [cN_nI (by omega)]
        exact hs_move q' hjn hj (by omega) (nI k) z
      · rw [if_neg (fun z => c4 ((q.pres hk).mp z)), mG_y c4]
        exact ChOK.x rfl nok5 ne03 wex3 rfl
theorem ch_support {m n : Nat} {h u : HV} (q : HSn m n h (u.2.1 1)) (b p x : Int32) : ChOK [eIdx, eSta, eEle, eUns] (fSecond h b p x) (aSecond h b p x) (hW (aSecond h b p x) ((aSecond h b p x).2.1 (20 + cN b) (cN p))) u (mSupport u b p x) := by
  unfold fSecond mSupport
  by_cases c1 : ¬ isBl u b ∨ ¬ isM u x
  · rw [if_pos ((g_bm q b x).mpr c1), mG_y c1]
    exact ChOK.x rfl nok1 ne01 wex1 rfl
  · rw [if_neg (fun z => c1 ((g_bm q b x).mp z)), mG_n c1]
    obtain ⟨j, k, hjn, hj, rfl, hk, rfl⟩ := bm_of q c1
    have es := q.st hj
    by_cases c2 : rB u (cN (nI j)) 0 = 0
    · rw [if_neg (show ¬ h.2.1 3 (cN (nI j)) ≠ 0 from nn (es.trans c2)), mG_n (nn c2)]
      have g := q.gP hj p
      by_cases c3 : btw p 0 (rB u (cN (nI j)) 7 - 1)
      · rw [if_neg (nn (g.mpr (nn c3))), mG_n (nn c3)]
        obtain ⟨a, pp, ha, hpp, ep, rfl⟩ := q.pos hj (g.mpr (nn c3))
        by_cases c4 : prs u (nI k)
        · rw [if_pos ((q.pres hk).mpr c4), mG_n (nn c4)]
          obtain ⟨q2, e2⟩ := hs_second (q_uC q) hjn hj (nI k) ⟨pp, ha, hpp, ep⟩
          have e : hW (aSecond h (nI j) (nI a) (nI k)) ((aSecond h (nI j) (nI a) (nI k)).2.1 (20 + cN (nI j)) (cN (nI a))) = rWt (sSec (uC u) (cN (nI j)) (cN (nI a)) (nI k)) (rB (sSec (uC u) (cN (nI j)) (cN (nI a)) (nI k)) (cN (nI j)) (8 + 2 * cN (nI a) + 1)) := by
            rw [e2, cN_nI (n := j) (by omega), cN_nI (n := a) (by omega), q2.eW]
          refine ChOK.y (v := sSec (uC u) (cN (nI j)) (cN (nI a)) (nI k)) rfl (by rw [e]) O1.rf.set ⟨m, n, ?_⟩
          rw [cN_nI (n := j) (by omega), cN_nI (n := a) (by omega)]; exact q2
        · rw [if_neg (fun z => c4 ((q.pres hk).mp z)), mG_y c4]
          exact ChOK.x rfl nok5 ne04 wex4 rfl
      · rw [if_pos (fun z => g.mp z c3), mG_y c3]
        exact ChOK.x rfl nok4 ne03 wex3 rfl
    · rw [if_pos (show h.2.1 3 (cN (nI j)) ≠ 0 from fun z => c2 (es.symm.trans z)), mG_y c2]
      exact ChOK.x rfl nok3 ne02 wex2 rfl
theorem ch_decide {m n : Nat} {h u : HV} (q : HSn m n h (u.2.1 1)) (b : Int32) : ChOK [eIdx, eSta, eEle, eUns] (fDecide h b) (aDecide h b) (bI (accD h b)) u (mDecide u b) := by
  unfold fDecide mDecide
  have g := q.gB b
  by_cases c1 : isBl u b
  · rw [if_neg (nn (g.mpr (nn c1))), mG_n (nn c1)]
    obtain ⟨j, hjn, hj, rfl⟩ := q.bil (g.mpr (nn c1))
    have es := q.st hj
    obtain ⟨p, hp, p1, p2⟩ := q.pe hj
    by_cases c2 : rB u (cN (nI j)) 0 = 0
    · rw [if_neg (show ¬ h.2.1 3 (cN (nI j)) ≠ 0 from nn (es.trans c2)), mG_n (nn c2)]
      by_cases c3 : rB u (cN (nI j)) 7 = 0
      · rw [if_pos (by rw [p1, ← p2, c3]), mG_y c3]
        exact ChOK.x rfl nok4 ne03 wex3 rfl
      · have c3' : ¬ h.2.1 8 (cN (nI j)) = 0 := by rw [p1, ← p2]; exact c3
        rw [if_neg c3', mG_n c3]
        by_cases c4 : quo u
        · rw [if_pos (q.quor.mpr c4), mG_n (nn c4)]
          rw [cN_nI (n := j) (by omega)] at c3' ⊢
          obtain ⟨q2, e⟩ := hs_decide (q_uC q) hjn hj c3'
          exact ChOK.y rfl (by rw [bI_cong e]) O1.dec ⟨m, n, q2⟩
        · rw [if_neg (fun z => c4 (q.quor.mp z)), mG_y c4]
          exact ChOK.x rfl nok5 ne04 wex4 rfl
    · rw [if_pos (show h.2.1 3 (cN (nI j)) ≠ 0 from fun z => c2 (es.symm.trans z)), mG_y c2]
      exact ChOK.x rfl nok3 ne02 wex2 rfl
  · rw [if_pos (fun z => g.mp z c1), mG_y c1]
    exact ChOK.x rfl nok1 ne01 wex1 rfl
theorem ch_ride {m n : Nat} {h u : HV} (q : HSn m n h (u.2.1 1)) (x b k : Int32) : ChOK [eIdx, eArg, eSta, eUns] (fHold h x b k) (aHold h b k) (hRust (aHold h b k) (cN b)) u (mRide u x b k) := by
  unfold fHold mRide
  have g : (¬ hasM h x ∨ ¬ hasB h b) ↔ (¬ isBl u b ∨ ¬ isM u x) := Or.comm.trans (g_bm q b x)
  by_cases c1 : ¬ isBl u b ∨ ¬ isM u x
  · rw [if_pos (g.mpr c1), mG_y c1]
    exact ChOK.x rfl nok1 ne01 wex1 rfl
  · rw [if_neg (fun z => c1 (g.mp z)), mG_n c1]
    obtain ⟨j, i, hjn, hj, rfl, hk, rfl⟩ := bm_of q c1
    have es := q.st hj
    by_cases c2 : btw k 1 30
    · rw [if_neg (fun z => out_btw.mp z c2), mG_n (nn c2)]
      obtain ⟨a, ha, rfl⟩ := btw_of (B := 30) (by decide) (by decide) c2
      by_cases c3 : rB u (cN (nI j)) 0 = 0
      · rw [if_neg (show ¬ h.2.1 3 (cN (nI j)) ≠ 0 from nn (es.trans c3)), mG_n (nn c3)]
        by_cases c4 : prs u (nI i)
        · rw [if_pos ((q.pres hk).mpr c4), mG_n (nn c4)]
          have hst : h.2.1 3 j = 0 := by have := es.trans c3; rwa [cN_nI (by omega)] at this
          obtain ⟨q2, e⟩ := hs_ride (q_uC q) hjn hj hst ha
          refine ChOK.y rfl (by rw [e, cN_nI (n := j) (by omega)]) O1.hol ⟨m, n, ?_⟩
          exact q2
        · rw [if_neg (fun z => c4 ((q.pres hk).mp z)), mG_y c4]
          exact ChOK.x rfl nok5 ne04 wex4 rfl
      · rw [if_pos (show h.2.1 3 (cN (nI j)) ≠ 0 from fun z => c3 (es.symm.trans z)), mG_y c3]
        exact ChOK.x rfl nok3 ne03 wex3 rfl
    · rw [if_pos (out_btw.mpr c2), mG_y c2]
      exact ChOK.x rfl nok2 ne02 wex2 rfl
theorem sc_addMember {w : PV} {u : HV} (h : Rel w u) : SC_addMember Rel w u := by
  obtain ⟨m, n, q⟩ := h.1
  intro x y
  exact sm_ch h (ch_addMember q x y)
theorem sc_enter {w : PV} {u : HV} (h : Rel w u) : SC_enter Rel w u := by
  obtain ⟨m, n, q⟩ := h.1
  intro x
  exact sm_ch h (ch_enter q x)
theorem sc_leave {w : PV} {u : HV} (h : Rel w u) : SC_leave Rel w u := by
  obtain ⟨m, n, q⟩ := h.1
  intro x
  exact sm_ch h (ch_leave q x)
theorem sc_setQuorum {w : PV} {u : HV} (h : Rel w u) : SC_setQuorum Rel w u := by
  obtain ⟨m, n, q⟩ := h.1
  intro x
  exact sm_ch h (ch_setQuorum q x)
theorem sc_introduce {w : PV} {u : HV} (h : Rel w u) : SC_introduce Rel w u := by
  obtain ⟨m, n, q⟩ := h.1
  intro x f la
  exact sm_ch h (ch_introduce q x f la)
theorem sc_voteFor {w : PV} {u : HV} (h : Rel w u) : SC_voteFor Rel w u := by
  obtain ⟨m, n, q⟩ := h.1
  intro b x
  exact sm_ch h (ch_voteFor q b x)
theorem sc_voteAgainst {w : PV} {u : HV} (h : Rel w u) : SC_voteAgainst Rel w u := by
  obtain ⟨m, n, q⟩ := h.1
  intro b x
  exact sm_ch h (ch_voteAgainst q b x)
theorem sc_closeReading {w : PV} {u : HV} (h : Rel w u) : SC_closeReading Rel w u := by
  obtain ⟨m, n, q⟩ := h.1
  intro b
  exact sm_ch h (ch_closeReading q b)
theorem sc_propose {w : PV} {u : HV} (h : Rel w u) : SC_propose Rel w u := by
  obtain ⟨m, n, q⟩ := h.1
  intro b x c
  exact sm_ch h (ch_propose q b x c)
theorem sc_support {w : PV} {u : HV} (h : Rel w u) : SC_support Rel w u := by
  obtain ⟨m, n, q⟩ := h.1
  intro b p x
  exact sm_ch h (ch_support q b p x)
theorem sc_decide {w : PV} {u : HV} (h : Rel w u) : SC_decide Rel w u := by
  obtain ⟨m, n, q⟩ := h.1
  intro b
  exact sm_ch h (ch_decide q b)
theorem sc_ride {w : PV} {u : HV} (h : Rel w u) : SC_ride Rel w u := by
  obtain ⟨m, n, q⟩ := h.1
  intro x b k
  exact sm_ch h (ch_ride q x b k)
