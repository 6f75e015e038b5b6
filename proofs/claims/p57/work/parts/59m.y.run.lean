/-! ===== a text run, on both sides ===== -/
theorem n1_le {k : Nat} (h : k < 2 ^ 31) : (-1 : Int32) ≤ nI k := by
  rw [Int32.le_iff_toInt_le, nI_toInt h]
  have e : (-1 : Int32).toInt = -1 := rfl
  rw [e]; omega
theorem ne_n1 {k : Nat} (h : k < 2 ^ 31) : ¬ nI k = -1 := fun z => by
  have := congrArg Int32.toInt z
  rw [nI_toInt h] at this
  have e : (-1 : Int32).toInt = -1 := rfl
  rw [e] at this; omega
theorem sc_run {w : PV} {u : HV} (h : Rel w u) : SC_run Rel w u := by
  obtain ⟨hs, hh, ⟨f1, f2⟩, ⟨t1, ⟨n, t2, t3, t4⟩, t5, t6, t7⟩, ⟨l1, ⟨nl, l2, l3, l4, l5⟩, l6⟩, ⟨e1, e2, e3, e4⟩, g3, hx, hy⟩ := id h
  have tI : TInv (hsc w.2.2.1 1 0) := t1.rew
  have p0 : PT 0 (hsc w.2.2.1 1 0) (cBeg u) := ⟨⟨n, t2, Nat.zero_le _, t3, t4⟩, ⟨rfl, rfl⟩, t5, rfl⟩
  have ty := Ty.cc (u := u)
  have tyr : (mCC u).2.2 = u.2 := ty.2
  have tys : ∀ s, s ≠ 6 → s ≠ 12 → s ≠ 9 → s ≠ 10 → s ≠ 11 → s ≠ 13 → (mCC u).2.1 s = u.1 s := ty.1
  have kt := KT1.cnt 60 1 (hsc w.2.2.1 1 0)
  have tc := TInv.cnt 60 1 tI
  show SmV isI [eArg, eSta] (pRun w) (mRun u) ∧ Rel (pRun w).2 (mRun u).2
  unfold pRun mRun
  rcases cnt_eq 60 63 1 0 p0 (by decide) (by decide) (by decide) (by decide) with ⟨c', T1, v1, q1, q2, q3, q4, q5, q6⟩ | ⟨T1, c', v1, q3, q4, q5⟩
  · -- every command reads
    have rc : rC w = (nI c', T1) := q3
    have mc : mCC u = (nI c', v1) := q4
    have kt' : KT1 (hsc w.2.2.1 1 0) T1 := by have := kt; rw [show tCnt 60 1 (hsc w.2.2.1 1 0) = (nI c', T1) from q3] at this; exact this
    have tc' : TInv T1 := by have := tc; rw [show tCnt 60 1 (hsc w.2.2.1 1 0) = (nI c', T1) from q3] at this; exact this
    rw [mc] at tyr tys
    rw [rc, mc]
    dsimp only
    rw [if_neg (ne_n1 (by omega)), if_pos q5]
    have eS : rS w (nI c') T1 = coS c' 0 (w.1 0) (hsc T1 1 0) := by
      show coS (cN (nI c')) 0 (w.1 0) (hsc T1 1 0) = _
      rw [cN_nI (by omega)]
    rw [eS, cN_nI (by omega)]
    have te : TE (hsc w.2.2.1 1 0) (hsc T1 1 0) := ⟨kt'.1.symm, rfl, kt'.2.symm⟩
    have q6' : WF c' (hsc w.2.2.1 1 0) := by
      have e : c' - 1 + 1 = c' := by omega
      rw [e] at q6
      exact q6
    have wf : WF c' (hsc T1 1 0) := te.wf c' q6'
    have r2 : ∀ i, i ≠ 3 → (rBeg v1).2.1 i = u.2.1 i := fun i hi => by
      show (cpR v1 1 3).2.1 i = _
      rw [cpR_n hi, tyr]
    have r3 : ∀ x, x < 181 → (rBeg v1).2.1 3 x = u.2.1 1 x := fun x hxx => by
      show (cpR v1 1 3).2.1 3 x = _
      rw [cpR_s, cp_row _ _ x hxx, tyr]
    have s5 : (rBeg v1).1 5 = u.1 5 := tys 5 (by decide) (by decide) (by decide) (by decide) (by decide) (by decide)
    have pt : PT 0 (hsc T1 1 0) (rBeg v1) := ⟨⟨n, t2, Nat.zero_le _, kt'.1.trans t3, s5.trans t4⟩, ⟨rfl, rfl⟩, fun j hj => by
      rw [r2 14 (by decide), t5 j hj]
      show w.2.2.1.2.1 1 j = T1.2.1 1 j
      rw [kt'.2]; rfl, q5⟩
    have hs2 : HS (w.1 0) ((rBeg v1).2.1 1) := by rw [r2 1 (by decide)]; exact hs
    have inv := coS_inv c' 0 (u := w.1 0) (T := hsc T1 1 0) hs.inv tc'.rew
    rcases ex_eq c' 0 0 wf pt hs2 rfl with ⟨h', T', v', z1, z2, z3, ⟨o1, o2, o3, o4, o5, o6, o7⟩, z5, z6⟩ | ⟨i, h', T', v', z0, z1, z2, ⟨o1, o2, o3, o4, o5, o6, o7⟩, z5, z6⟩
    · rw [z1] at inv
      rw [z1, z2]
      dsimp only
      rw [if_pos rfl, if_neg (show ¬ (1 : Int32) = 0 by decide)]
      have hK : cN (u.1 1) ≤ 8 := by obtain ⟨K, N, hK, -, -, a2, -⟩ := hh; rw [a2, cN_nI (by omega)]; exact hK
      have k1 : (rEnd v' 0).1 1 = u.1 1 := o2.trans (tys 1 (by decide) (by decide) (by decide) (by decide) (by decide) (by decide))
      have rr : ∀ i, i ≠ 1 → i ≠ 3 → (rEnd v' 0).2.1 i = u.2.1 i := fun i i1 i3 => (o1 i i1).trans (r2 i i3)
      have mo : ∀ i, i < 5 ∨ 12 < i → (mRem (rEnd v' 0) 3 (cN (u.1 1))).2.1 i = (rEnd v' 0).2.1 i := fun i hi => mRem_o hK hi
      have ms : ∀ s, s ≠ 1 → (mRem (rEnd v' 0) 3 (cN (u.1 1))).1 s = (rEnd v' 0).1 s := fun s hs9 => mRem_sc hs9
      refine ⟨sm_val rfl ?_, ?_⟩
      · rw [ms 0 (by decide)]; rfl
      have hh2 : RHist (runO w T1 h' T') (mRem (rEnd v' 0) 3 (cN (u.1 1))) := by
        have b : RHist (wHT (run1 w T1) h' (hsc T' 0 0)) (rEnd v' 0) := by
          obtain ⟨K, N, hK, hN, a1, a2, a3, a4⟩ := hh
          exact ⟨K, N, hK, hN, a1, k1.trans a2, a3, fun j hj => by rw [rr (5 + j) (by omega) (by omega)]; exact a4 j hj⟩
        refine RHist.push (i := 3) b (by decide) ?_ (by rw [k1]) (fun j _ _ => by rw [k1])
        have h33 : (rEnd v' 0).2.1 3 = (rBeg v1).2.1 3 := o1 3 (by decide)
        rw [h33]
        exact hs.row r3
      refine ⟨?_, hh2, ⟨?_, fun c => ?_⟩, ⟨inv.2.clr, ⟨0, by decide, rfl, ?_⟩, fun j hj => ?_, ?_, ?_⟩, ⟨l1, ⟨nl, l2, l3, ?_, fun j hj => ?_⟩, fun j hj => ?_⟩, ⟨?_, ?_, ?_, ?_⟩, ?_, fun k hk => ?_, fun k hk => ?_⟩
      · show HS h' ((mRem (rEnd v' 0) 3 (cN (u.1 1))).2.1 1)
        rw [mo 1 (by decide)]; exact z3
      · rw [ms 2 (by decide)]
        show w.2.2.2.2 0 = v'.1 2
        rw [o3]; exact f1.trans (tys 2 (by decide) (by decide) (by decide) (by decide) (by decide) (by decide)).symm
      · show HS (w.1 2) ((mRem (rEnd v' 0) 3 (cN (u.1 1))).2.1 2)
        rw [mo 2 (by decide), rr 2 (by decide) (by decide)]
        refine f2 fun z => c ?_
        rw [ms 2 (by decide)]
        show v'.1 2 = 0
        rw [o3]; exact (tys 2 (by decide) (by decide) (by decide) (by decide) (by decide) (by decide)).trans z
      · rw [ms 5 (by decide)]; rfl
      · rw [mo 14 (by decide)]
        show v'.2.1 14 j = T'.2.1 1 j
        rw [z6 j hj, o1 14 (by decide)]
      · obtain ⟨p, hp, ep⟩ := o7
        exact ⟨p, by omega, by rw [ms 6 (by decide)]; exact ep⟩
      · exact Or.inl (by rw [ms 12 (by decide)]; exact o6)
      · rw [ms 4 (by decide)]; exact (o4.trans (tys 4 (by decide) (by decide) (by decide) (by decide) (by decide) (by decide))).trans l4
      · rw [mo 13 (by decide), rr 13 (by decide) (by decide)]; exact l5 j hj
      · rw [mo 13 (by decide), rr 13 (by decide) (by decide)]; exact l6 j hj
      · rw [ms 7 (by decide)]; exact e1.trans (o5.trans (tys 7 (by decide) (by decide) (by decide) (by decide) (by decide) (by decide))).symm
      · rw [ms 8 (by decide)]; exact e2.trans (z5.trans (tys 8 (by decide) (by decide) (by decide) (by decide) (by decide) (by decide))).symm
      · rw [ms 7 (by decide)]; exact (show v'.1 7 = u.1 7 from o5.trans (tys 7 (by decide) (by decide) (by decide) (by decide) (by decide) (by decide))) ▸ e3
      · rw [ms 8 (by decide)]; exact (show v'.1 8 = u.1 8 from z5.trans (tys 8 (by decide) (by decide) (by decide) (by decide) (by decide) (by decide))) ▸ e4
      · rw [ms 3 (by decide)]; rfl
      · show HX (if k = 0 then h' else if k = 1 then w.1 0 else w.1 k)
        by_cases c : k = 0
        · rw [if_pos c]; exact ⟨_, z3⟩
        · rw [if_neg c]
          by_cases c1 : k = 1
          · rw [if_pos c1]; exact hx 0 (by decide)
          · rw [if_neg c1]; exact hx k hk
      · show HX (if k = cN (w.2.2.2.2 1) then w.1 0 else w.2.1 k)
        by_cases c : k = cN (w.2.2.2.2 1)
        · rw [if_pos c]; exact hx 0 (by decide)
        · rw [if_neg c]; exact hy k hk
    · rw [z1] at inv
      rw [z1, z2]
      dsimp only
      rw [if_neg (ne_n1 (by omega)), if_pos rfl]
      have k1 : v'.1 1 = u.1 1 := o2.trans (tys 1 (by decide) (by decide) (by decide) (by decide) (by decide) (by decide))
      have rr : ∀ i, i ≠ 1 → i ≠ 3 → (cpR (rEnd v' 2) 3 1).2.1 i = u.2.1 i := fun i i1 i3 => by
        rw [cpR_n i1]; exact (o1 i i1).trans (r2 i i3)
      refine ⟨⟨.int 0, ⟨0, rfl⟩, rfl, Or.inr ⟨eSta, rfl, wex2⟩⟩, ?_⟩
      refine ⟨?_, ?_, ⟨?_, fun c => ?_⟩, ⟨inv.2.clr, ⟨0, by decide, rfl, rfl⟩, fun j hj => ?_, ?_, Or.inl o6⟩, ⟨l1, ⟨nl, l2, l3, ?_, fun j hj => ?_⟩, fun j hj => ?_⟩, ⟨?_, ?_, ?_, ?_⟩, rfl, fun k hk => ?_, fun k hk => hy k hk⟩
      · show HS (w.1 0) ((cpR (rEnd v' 2) 3 1).2.1 1)
        rw [cpR_s]
        refine hs.row fun x hxx => ?_
        rw [cp_row _ _ x hxx]
        show v'.2.1 3 x = _
        rw [o1 3 (by decide)]; exact r3 x hxx
      · obtain ⟨K, N, hK, hN, a1, a2, a3, a4⟩ := hh
        exact ⟨K, N, hK, hN, a1, k1.trans a2, a3, fun j hj => by rw [rr (5 + j) (by omega) (by omega)]; exact a4 j hj⟩
      · show w.2.2.2.2 0 = v'.1 2
        rw [o3]; exact f1.trans (tys 2 (by decide) (by decide) (by decide) (by decide) (by decide) (by decide)).symm
      · show HS (w.1 2) ((cpR (rEnd v' 2) 3 1).2.1 2)
        rw [rr 2 (by decide) (by decide)]
        refine f2 fun z => c ?_
        show v'.1 2 = 0
        rw [o3]; exact (tys 2 (by decide) (by decide) (by decide) (by decide) (by decide) (by decide)).trans z
      · rw [cpR_n (by decide)]
        show v'.2.1 14 j = T'.2.1 1 j
        rw [z6 j hj, o1 14 (by decide)]
      · obtain ⟨p, hp, ep⟩ := o7
        exact ⟨p, by omega, ep⟩
      · exact (o4.trans (tys 4 (by decide) (by decide) (by decide) (by decide) (by decide) (by decide))).trans l4
      · rw [rr 13 (by decide) (by decide)]; exact l5 j hj
      · rw [rr 13 (by decide) (by decide)]; exact l6 j hj
      · exact e1.trans (o5.trans (tys 7 (by decide) (by decide) (by decide) (by decide) (by decide) (by decide))).symm
      · exact z5.symm
      · exact (show v'.1 7 = u.1 7 from o5.trans (tys 7 (by decide) (by decide) (by decide) (by decide) (by decide) (by decide))) ▸ e3
      · show -1 ≤ v'.1 8
        rw [z5]; exact n1_le (by omega)
      · show HX (if k = 0 then w.1 0 else if k = 0 then h' else if k = 1 then w.1 0 else w.1 k)
        by_cases c : k = 0
        · rw [if_pos c]; exact hx 0 (by decide)
        · rw [if_neg c, if_neg c]
          by_cases c1 : k = 1
          · rw [if_pos c1]; exact hx 0 (by decide)
          · rw [if_neg c1]; exact hx k hk
  · -- a command that doesn't read
    have rc : rC w = (-1, T1) := q3
    have mc : mCC u = (c', v1) := q4
    have kt' : KT1 (hsc w.2.2.1 1 0) T1 := by have := kt; rw [show tCnt 60 1 (hsc w.2.2.1 1 0) = (-1, T1) from q3] at this; exact this
    have tc' : TInv T1 := by have := tc; rw [show tCnt 60 1 (hsc w.2.2.1 1 0) = (-1, T1) from q3] at this; exact this
    rw [mc] at tyr tys
    rw [rc, mc]
    dsimp only
    rw [if_pos rfl, if_neg (show ¬ v1.1 12 = 0 by rw [q5.1]; decide)]
    obtain ⟨-, ⟨p, hp, ep⟩, -⟩ := id tc'
    refine ⟨⟨.int 0, ⟨0, rfl⟩, rfl, Or.inr ⟨eArg, rfl, wex1⟩⟩, ?_⟩
    refine ⟨?_, ?_, ⟨?_, fun c => ?_⟩, ⟨tc'.clr, ⟨0, by decide, rfl, rfl⟩, fun j hj => ?_, ⟨p, by omega, ?_⟩, Or.inr q5.1⟩, ⟨l1, ⟨nl, l2, l3, ?_, fun j hj => ?_⟩, fun j hj => ?_⟩, ⟨?_, ?_, ?_, ?_⟩, ?_, hx, hy⟩
    · show HS (w.1 0) (v1.2.1 1)
      rw [tyr]; exact hs
    · obtain ⟨K, N, hK, hN, a1, a2, a3, a4⟩ := hh
      refine ⟨K, N, hK, hN, a1, ?_, a3, fun j hj => ?_⟩
      · exact (tys 1 (by decide) (by decide) (by decide) (by decide) (by decide) (by decide)).trans a2
      · show HS _ (v1.2.1 (5 + j))
        rw [tyr]; exact a4 j hj
    · exact f1.trans (tys 2 (by decide) (by decide) (by decide) (by decide) (by decide) (by decide)).symm
    · show HS (w.1 2) (v1.2.1 2)
      rw [tyr]
      exact f2 fun z => c ((tys 2 (by decide) (by decide) (by decide) (by decide) (by decide) (by decide)).trans z)
    · show v1.2.1 14 j = T1.2.1 1 j
      rw [tyr, t5 j hj, kt'.2]; rfl
    · show v1.1 6 = _
      rw [q5.2, ep]
    · exact (tys 4 (by decide) (by decide) (by decide) (by decide) (by decide) (by decide)).trans l4
    · show v1.2.1 13 j = _
      rw [tyr]; exact l5 j hj
    · show narrow .char (.int (v1.2.1 13 j)) = .int (v1.2.1 13 j)
      rw [tyr]; exact l6 j hj
    · show T1.1 1 = v1.1 6
      exact q5.2.symm
    · exact e2.trans (tys 8 (by decide) (by decide) (by decide) (by decide) (by decide) (by decide)).symm
    · show -1 ≤ v1.1 6
      rw [q5.2, ep]; exact n1_le (by omega)
    · exact (show v1.1 8 = u.1 8 from tys 8 (by decide) (by decide) (by decide) (by decide) (by decide) (by decide)) ▸ e4
    · exact (tys 3 (by decide) (by decide) (by decide) (by decide) (by decide) (by decide)).trans g3
