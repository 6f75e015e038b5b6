/-! ===== a run ===== -/
/-- length and signs of a text stay -/
def KT1 (T T' : HV) : Prop := T'.1 0 = T.1 0 ∧ T'.2.1 1 = T.2.1 1
theorem KT1.tr {a b c : HV} (h : KT1 a b) (h2 : KT1 b c) : KT1 a c := ⟨h2.1.trans h.1, h2.2.trans h.2⟩
theorem KT1.put {T T' : HV} (h : KT1 T T') (n : Int32) : KT1 T (tPut T' n) := by
  unfold tPut
  split
  · exact h
  · exact h
theorem KT1.adv {T T' : HV} (h : KT1 T T') : KT1 T (tAdv T') := h
theorem KT1.part (T : HV) (c : Int32) : KT1 T (tPart T c) := by
  have r : KT1 T T := ⟨rfl, rfl⟩
  by_cases cc : c = 68 ∨ c = 78
  · by_cases d : isDig (tNx T)
    · rw [tPart_d cc d]
      by_cases q : c = 78 ∧ isDig (tNx (tAdv T))
      · rw [tNum_2 q]; exact r.adv.adv.put _
      · rw [tNum_1 q]; exact r.adv.put _
    · rw [tPart_n cc d]; exact r
  · rw [tPart_s (fun z => cc (Or.inl z)) (fun z => cc (Or.inr z))]
    by_cases q : tNx T = c
    · rw [tSign_y q]; exact r.adv
    · rw [tSign_n q]; exact r
theorem KT1.l : ∀ (cs : List Int32) (T : HV), KT1 T (tL cs T)
  | [], _ => ⟨rfl, rfl⟩
  | c :: cs, T => by
    by_cases q : tOk T c
    · rw [tL_y q]; exact (KT1.part T c).tr (KT1.l cs _)
    · rw [tL_n q]; exact KT1.part T c
theorem KT1.cmd (T : HV) : KT1 T (tCmd T) := KT1.tr (b := tBeg T) ⟨rfl, rfl⟩ (KT1.l _ _)
theorem KT1.cnt : ∀ (k : Nat) (c : Int32) (T : HV), KT1 T (tCnt k c T).2
  | 0, _, _ => ⟨rfl, rfl⟩
  | k + 1, c, T => by
    by_cases h1 : okCmd T
    · by_cases h2 : (tCmd T).1 1 = (tCmd T).1 0
      · rw [tCnt_e h1 h2]; exact KT1.cmd T
      · by_cases h3 : tNx (tCmd T) = 59
        · rw [tCnt_s h1 h2 h3]; exact (KT1.cmd T).adv.tr (KT1.cnt k _ _)
        · rw [tCnt_x h1 h2 h3]; exact KT1.cmd T
    · rw [tCnt_n h1]; exact KT1.cmd T
/-- what a run's commands leave as it was -/
def Ot (v v' : HV) : Prop := (∀ i, i ≠ 1 → v'.2.1 i = v.2.1 i) ∧ (v'.1 1 = v.1 1 ∧ v'.1 2 = v.1 2 ∧ v'.1 4 = v.1 4 ∧ v'.1 7 = v.1 7 ∧ v'.1 12 = 0 ∧ ∃ p : Nat, p ≤ 61 ∧ v'.1 6 = nI p)
theorem tSign_k (T : HV) (c : Int32) : (tSign T c).1 2 = T.1 2 ∧ (tSign T c).2 = T.2 := by
  by_cases q : tNx T = c
  · rw [tSign_y q]; exact ⟨rfl, rfl⟩
  · rw [tSign_n q]; exact ⟨rfl, rfl⟩
theorem ex_eq : ∀ (k j p : Nat) {h T v : HV}, WF k T → PT p T v → HS h (v.2.1 1) → v.1 3 = 1 →
    (∃ h' T' v', coS k j h T = (-1, h', T') ∧ mLp k j v = (1, v') ∧ HS h' (v'.2.1 1) ∧ Ot v v' ∧ v'.1 8 = v.1 8 ∧ ∀ i, i < 60 → T'.2.1 1 i = v.2.1 14 i) ∨
    (∃ i h' T' v', i < j + k ∧ coS k j h T = (nI i, h', T') ∧ mLp k j v = (0, v') ∧ Ot v v' ∧ v'.1 8 = nI i ∧ ∀ i, i < 60 → T'.2.1 1 i = v.2.1 14 i)
  | 0, _, _, _, _, _, hw, _, _, _ => hw.elim
  | k + 1, j, p, h, T, v, hw, hp, hs, h3 => by
    have hok : okCmd T := by
      cases k with
      | zero => exact hw
      | succ k => exact hw.1
    rcases cmd_eq hp with ⟨-, hx, p', hp', hX⟩ | ⟨z, -⟩
    · obtain ⟨⟨⟨n, hn, hpn, e0, e5⟩, ⟨e1, e6⟩, hr, hwr⟩, x2, x3, x4, x5⟩ := id hX
      have ty := Ty.cmd (u := v)
      obtain ⟨k1, k2⟩ := tSign_k (tCmd T) 59
      generalize hT' : tSign (tCmd T) 59 = T' at k1 k2
      have ed : (sRd v).2 = v.2 := ty.2
      have e3' : (sRd v).1 3 = 1 := (ty.1 3 (by decide) (by decide) (by decide) (by decide) (by decide) (by decide)).trans h3
      have e6' : (sRd v).1 6 = nI (p' + 1) := by
        show (mCmd v).1 6 + 1 = _
        rw [e6, nI_1]
      obtain ⟨m, n1, q⟩ := hs
      have q' : HSn m n1 h ((sRd v).2.1 1) := by rw [ed]; exact q
      have hrow : ∀ i, i < 60 → T'.2.1 1 i = v.2.1 14 i := fun i hi => by
        rw [k2, ← hr i hi]
        show (mCmd v).2.1 14 i = _
        rw [ty.2]
      have hnum : ∀ i, i < 3 → i < cntL (fParts (tNx T)) → T'.2.1 2 i = (sRd v).1 (9 + i) := fun i hi hc => by
        rw [k2, x3 i hc]
        show _ = (hsc (mCmd v) 6 _).1 (9 + i)
        rw [hsc_n (by omega)]
      have key := do_eq q' (tNx T) (T'.2.1 2 0) (T'.2.1 2 1) (T'.2.1 2 2) ((sRd v).1 9) ((sRd v).1 10) ((sRd v).1 11) hx (fun z => hnum 0 (by decide) (by omega)) (fun z => hnum 1 (by decide) (by omega)) (fun z => hnum 2 (by decide) (by omega))
      have ecF : cF h T' = cFault h (tNx T) (T'.2.1 2 0) (T'.2.1 2 1) (T'.2.1 2 2) := by
        show cFault h (T'.1 2) _ _ _ = _
        rw [k1, x4]
      have ecD : cD h T' = cDo h (tNx T) (T'.2.1 2 0) (T'.2.1 2 1) (T'.2.1 2 2) := by
        show cDo h (T'.1 2) _ _ _ = _
        rw [k1, x4]
      have est : sSt v = mDo (sRd v) (tNx T) ((sRd v).1 9) ((sRd v).1 10) ((sRd v).1 11) := by
        show mDo (sRd v) ((sRd v).1 13) _ _ _ = _
        rw [show (sRd v).1 13 = tNx T from x5]
      rw [← ecF, ← ecD, ← est] at key
      have sc : ∀ s, s ≠ 6 → s ≠ 12 → s ≠ 9 → s ≠ 10 → s ≠ 11 → s ≠ 13 → (sRd v).1 s = v.1 s := fun s a b c d e f => by
        show (hsc (mCmd v) 6 _).1 s = _
        rw [hsc_n a]; exact ty.1 s a b c d e f
      rcases key with ⟨f0, ⟨o1, o2⟩, g⟩ | ⟨f0, z, hz, ez⟩
      · have hT9 : tSign (tCmd T) 59 = T' := hT'
        rw [uC_in (show ¬ (sRd v).1 3 = 0 from fun z => by rw [e3'] at z; exact absurd z (by decide))] at o1 o2
        have w0 : (sSt v).1 0 = 0 := by rw [o1]; rfl
        have ws : ∀ s, s ≠ 0 → (sSt v).1 s = (sRd v).1 s := fun s s0 => by rw [o1]; exact hsc_n s0
        have wr : ∀ i, i ≠ 1 → (sSt v).2.1 i = v.2.1 i := fun i hi => by
          rw [o2 i hi]
          show (sRd v).2.1 i = _
          rw [ed]
        have ecs : coS (k + 1) j h T = coS k (j + 1) (cD h T') T' := by
          have := coS_y (k := k) (j := j) (u := h) (T := T) (by rw [hT9]; exact f0)
          rw [hT9] at this
          exact this
        have elp : mLp (k + 1) j v = mLp k (j + 1) (sSt v) := by
          show (if (sSt v).1 0 = 0 then mLp k (j + 1) (sSt v) else _) = _
          rw [if_pos w0]
        have ot : Ot v (sSt v) := ⟨wr, (ws 1 (by decide)).trans (sc 1 (by decide) (by decide) (by decide) (by decide) (by decide) (by decide)), (ws 2 (by decide)).trans (sc 2 (by decide) (by decide) (by decide) (by decide) (by decide) (by decide)), (ws 4 (by decide)).trans (sc 4 (by decide) (by decide) (by decide) (by decide) (by decide) (by decide)), (ws 7 (by decide)).trans (sc 7 (by decide) (by decide) (by decide) (by decide) (by decide) (by decide)), (ws 12 (by decide)).trans hwr, p' + 1, by omega, (ws 6 (by decide)).trans e6'⟩
        have o8 : (sSt v).1 8 = v.1 8 := (ws 8 (by decide)).trans (sc 8 (by decide) (by decide) (by decide) (by decide) (by decide) (by decide))
        rw [ecs, elp]
        cases k with
        | zero => exact Or.inl ⟨cD h T', T', sSt v, rfl, rfl, g, ot, o8, hrow⟩
        | succ k =>
          have hT2 : T' = tAdv (tCmd T) := by rw [← hT']; exact tSign_y hw.2.1
          have hP : PT (p' + 1) T' (sSt v) := by
            have ha := hX.1.adv (by rw [hw.2.1]; decide)
            obtain ⟨⟨n9, hn9, hp9, a0, a5⟩, ⟨a1, -⟩, ar, -⟩ := ha
            rw [← hT2] at a0 a1 ar
            refine ⟨⟨n9, hn9, hp9, a0, ?_⟩, ⟨a1, (ws 6 (by decide)).trans e6'⟩, fun i hi => ?_, (ws 12 (by decide)).trans hwr⟩
            · rw [ws 5 (by decide)]; exact a5
            · rw [wr 14 (by decide)]; exact (hrow i hi).symm
          have hW : WF (k + 1) T' := by rw [hT2]; exact hw.2.2
          have h33 : (sSt v).1 3 = 1 := (ws 3 (by decide)).trans e3'
          rcases ex_eq (k + 1) (j + 1) (p' + 1) hW hP g h33 with ⟨h', T2, v', q1, q2, q3, ⟨q4, q5, q6, q7, q8, q9⟩, q10, q11⟩ | ⟨i, h', T2, v', q0, q1, q2, ⟨q4, q5, q6, q7, q8, q9⟩, q10, q11⟩
          · refine Or.inl ⟨h', T2, v', q1, q2, q3, ⟨fun i hi => (q4 i hi).trans (wr i hi), q5.trans ot.2.1, q6.trans ot.2.2.1, q7.trans ot.2.2.2.1, q8.trans ot.2.2.2.2.1, q9⟩, q10.trans o8, fun i hi => ?_⟩
            rw [q11 i hi, wr 14 (by decide)]
          · refine Or.inr ⟨i, h', T2, v', by omega, q1, q2, ⟨fun i hi => (q4 i hi).trans (wr i hi), q5.trans ot.2.1, q6.trans ot.2.2.1, q7.trans ot.2.2.2.1, q8.trans ot.2.2.2.2.1, q9⟩, q10, fun i hi => ?_⟩
            rw [q11 i hi, wr 14 (by decide)]
      · have hT9 : tSign (tCmd T) 59 = T' := hT'
        have ecs : coS (k + 1) j h T = (nI j, h, T') := by
          have := coS_n (k := k) (j := j) (u := h) (T := T) (by rw [hT9]; exact f0)
          rw [hT9] at this
          exact this
        have elp : mLp (k + 1) j v = (0, hsc (sSt v) 8 (nI j)) := by
          show (if (sSt v).1 0 = 0 then _ else (0, hsc (sSt v) 8 (nI j))) = _
          rw [if_neg (by rw [ez]; exact hz)]
        have ws : ∀ s, s ≠ 0 → s ≠ 8 → (hsc (sSt v) 8 (nI j)).1 s = (sRd v).1 s := fun s s0 s8 => by rw [hsc_n s8, ez, hsc_n s0]
        refine Or.inr ⟨j, h, T', _, by omega, ecs, elp, ⟨fun i _ => ?_, (ws 1 (by decide) (by decide)).trans (sc 1 (by decide) (by decide) (by decide) (by decide) (by decide) (by decide)), (ws 2 (by decide) (by decide)).trans (sc 2 (by decide) (by decide) (by decide) (by decide) (by decide) (by decide)), (ws 4 (by decide) (by decide)).trans (sc 4 (by decide) (by decide) (by decide) (by decide) (by decide) (by decide)), (ws 7 (by decide) (by decide)).trans (sc 7 (by decide) (by decide) (by decide) (by decide) (by decide) (by decide)), (ws 12 (by decide) (by decide)).trans hwr, p' + 1, by omega, (ws 6 (by decide) (by decide)).trans e6'⟩, hsc_s .., hrow⟩
        show (sSt v).2.1 i = _
        rw [ez]
        show (sRd v).2.1 i = _
        rw [ed]
    · exact absurd hok z
