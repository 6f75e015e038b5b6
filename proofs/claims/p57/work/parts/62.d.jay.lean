theorem SmV.inn {P : Value → Prop} {cs : List String} {x : Res × PV} {y : Res × HV} (h : SmV P cs x y) : WIn cs P x.1 := by
  obtain ⟨z, hz, -, ⟨e, -⟩ | ⟨E, e, hE⟩⟩ := h
  · exact Or.inl ⟨z, e, hz⟩
  · exact Or.inr ⟨E, _, e, hE⟩
/-! ===== what holds of the object all over the law: a picture of the reference's beside it, and XK of every House ===== -/
def J (w : PV) : Prop := (∃ u, Rel w u) ∧ (∀ k, k < 3 → XK (w.1 k)) ∧ ∀ k, k < 8 → XK (w.2.1 k)
theorem J.lg {w : PV} (h : J w) : ∃ u, LG w u := by obtain ⟨u, r⟩ := h.1; exact ⟨u, rel_lg r⟩
theorem J.inv {w : PV} (h : J w) : BInv w := by obtain ⟨u, r⟩ := h.lg; exact r.1
theorem J.sh {w : PV} (h : J w) (b : Int32) : hasB (w.1 0) b → ¬ shB (w.1 0) b = 0 → ShF (w.1 0) b := by obtain ⟨u, r⟩ := h.lg; exact r.2.2.2.2.2.2.2.2.2.1 b
theorem J.mw {w : PV} (h : J w) : ¬ (w.1 0).1 0 = 0 → MwOK (w.1 0) := by obtain ⟨u, r⟩ := h.lg; exact r.2.2.2.2.2.2.2.2.2.2
theorem J.hs {w : PV} (h : J w) : ∃ (m n : Nat) (u : HV), HSn m n (w.1 0) (u.2.1 1) := by
  obtain ⟨u, r⟩ := h.1
  obtain ⟨m, n, q⟩ := r.1
  exact ⟨m, n, u, q⟩
theorem J.hx {w : PV} (h : J w) : HX (w.1 0) := by obtain ⟨m, n, u, q⟩ := h.hs; exact ⟨_, m, n, q⟩
theorem J.x0 {w : PV} (h : J w) : XK (w.1 0) := h.2.1 0 (by decide)
theorem J.ring {w : PV} (h : J w) : ∃ K N : Nat, K ≤ 8 ∧ N < 8 ∧ w.2.2.2.2 2 = nI K ∧ w.2.2.2.2 1 = nI N := by
  obtain ⟨u, r⟩ := h.1
  obtain ⟨K, N, h1, h2, h3, -, h4, -⟩ := r.2.1
  exact ⟨K, N, h1, h2, h3, h4⟩
theorem J.of {w w' : PV} (r : ∃ u, Rel w' u) (h : J w) (e0 : XK (w'.1 0)) (e1 : ∀ k, k < 3 → k ≠ 0 → XK (w'.1 k)) (e2 : ∀ k, k < 8 → XK (w'.2.1 k)) : J w' := ⟨r, fun k hk => by
  by_cases c : k = 0
  · subst c; exact e0
  · exact e1 k hk c, e2⟩
theorem ChOK.f {cs : List String} {f a : Int32} {h' u : HV} {y : Res × HV} (c : ChOK cs f h' a u y) : f = 0 ∨ ¬ ok0 f := by
  rcases c with ⟨h, -⟩ | ⟨h, -⟩
  · exact Or.inl h
  · exact Or.inr h
theorem J.ch {w : PV} {f a : Int32} {h' : HV} (h : J w) (r : ∃ u, Rel (pCh f w a h').2 u) (c : f = 0 ∨ ¬ ok0 f) (x : f = 0 → XK h') : J (pCh f w a h').2 := by
  refine ⟨r, ?_⟩
  rcases c with rfl | c
  · rw [pCh_0]
    refine ⟨fun k hk => ?_, fun k hk => ?_⟩
    · show XK (if k = 0 then h' else w.1 k)
      by_cases e : k = 0
      · rw [if_pos e]; exact x rfl
      · rw [if_neg e]; exact h.2.1 k hk
    · show XK (if k = cN (w.2.2.2.2 1) then w.1 0 else w.2.1 k)
      by_cases e : k = cN (w.2.2.2.2 1)
      · rw [if_pos e]; exact h.x0
      · rw [if_neg e]; exact h.2.2 k hk
  · have e : pCh f w a h' = (.inr (exn f), w) := pG_n c
    rw [e]; exact h.2
theorem bI_zo (P : Prop) : bI P = 0 ∨ bI P = 1 := by
  by_cases h : P
  · exact Or.inr (bI_t h)
  · exact Or.inl (bI_f h)
theorem win_z {cs : List String} {f : Int32} {w : PV} {P : Prop} {h' : HV} (h : WIn cs isI (pCh f w (bI P) h').1) : WIn cs isZ (pCh f w (bI P) h').1 := by
  rcases h with ⟨v, e, -⟩ | ⟨E, k, e, hk⟩
  · refine Or.inl ⟨v, e, ?_⟩
    by_cases c : ok0 f
    · rw [show pCh f w (bI P) h' = _ from pG_y c] at e
      cases e
      rcases bI_zo P with q | q
      · exact Or.inl (by rw [q])
      · exact Or.inr (by rw [q])
    · rw [show pCh f w (bI P) h' = (.inr (exn f), w) from pG_n c] at e
      cases e
  · exact Or.inr ⟨E, k, e, hk⟩
theorem j_addMember {w : PV} (h : J w) (x y : Int32) : WIn [eIdx, eArg, eSta] isI (pAddMember w x y).1 ∧ J (pAddMember w x y).2 := by
  obtain ⟨u, r⟩ := id h.1
  obtain ⟨m, n, q⟩ := id r.1
  obtain ⟨s, r2⟩ := sc_addMember r x y
  exact ⟨(SmV.inn s), h.ch ⟨_, r2⟩ (ch_addMember q x y).f (fun z => xk_admit h.hx h.x0 z)⟩
theorem j_enter {w : PV} (h : J w) (x : Int32) : WIn [eIdx, eSta] isI (pEnter w x).1 ∧ J (pEnter w x).2 := by
  obtain ⟨u, r⟩ := id h.1
  obtain ⟨m, n, q⟩ := id r.1
  obtain ⟨s, r2⟩ := sc_enter r x
  exact ⟨(SmV.inn s), h.ch ⟨_, r2⟩ (ch_enter q x).f (fun z => xk_in h.hx h.x0 z)⟩
theorem j_leave {w : PV} (h : J w) (x : Int32) : WIn [eIdx, eSta] isI (pLeave w x).1 ∧ J (pLeave w x).2 := by
  obtain ⟨u, r⟩ := id h.1
  obtain ⟨m, n, q⟩ := id r.1
  obtain ⟨s, r2⟩ := sc_leave r x
  exact ⟨(SmV.inn s), h.ch ⟨_, r2⟩ (ch_leave q x).f (fun z => xk_out h.x0)⟩
theorem j_setQuorum {w : PV} (h : J w) (x : Int32) : WIn [eArg] isI (pSetQuorum w x).1 ∧ J (pSetQuorum w x).2 := by
  obtain ⟨u, r⟩ := id h.1
  obtain ⟨m, n, q⟩ := id r.1
  obtain ⟨s, r2⟩ := sc_setQuorum r x
  exact ⟨(SmV.inn s), h.ch ⟨_, r2⟩ (ch_setQuorum q x).f (fun z => xk_quor h.x0 z)⟩
theorem j_introduce {w : PV} (h : J w) (x y t : Int32) : WIn [eIdx, eArg, eSta, eUns] isI (pIntroduce w x y t).1 ∧ J (pIntroduce w x y t).2 := by
  obtain ⟨u, r⟩ := id h.1
  obtain ⟨m, n, q⟩ := id r.1
  obtain ⟨s, r2⟩ := sc_introduce r x y t
  exact ⟨(SmV.inn s), h.ch ⟨_, r2⟩ (ch_introduce q x y t).f (fun z => xk_bring h.x0)⟩
theorem j_voteFor {w : PV} (h : J w) (x y : Int32) : WIn [eIdx, eSta, eUns] isI (pVoteFor w x y).1 ∧ J (pVoteFor w x y).2 := by
  obtain ⟨u, r⟩ := id h.1
  obtain ⟨m, n, q⟩ := id r.1
  obtain ⟨s, r2⟩ := sc_voteFor r x y
  exact ⟨(SmV.inn s), h.ch ⟨_, r2⟩ (ch_voteFor q x y).f (fun z => xk_for h.hx h.x0 z)⟩
theorem j_voteAgainst {w : PV} (h : J w) (x y : Int32) : WIn [eIdx, eSta, eUns] isI (pVoteAgainst w x y).1 ∧ J (pVoteAgainst w x y).2 := by
  obtain ⟨u, r⟩ := id h.1
  obtain ⟨m, n, q⟩ := id r.1
  obtain ⟨s, r2⟩ := sc_voteAgainst r x y
  exact ⟨(SmV.inn s), h.ch ⟨_, r2⟩ (ch_voteAgainst q x y).f (fun z => xk_against h.hx h.x0 z)⟩
theorem j_closeReading {w : PV} (h : J w) (x : Int32) : WIn [eIdx, eSta, eUns] isZ (pCloseReading w x).1 ∧ J (pCloseReading w x).2 := by
  obtain ⟨u, r⟩ := id h.1
  obtain ⟨m, n, q⟩ := id r.1
  obtain ⟨s, r2⟩ := sc_closeReading r x
  exact ⟨win_z (SmV.inn s), h.ch ⟨_, r2⟩ (ch_closeReading q x).f (fun z => xk_end h.hx h.x0 z)⟩
theorem j_propose {w : PV} (h : J w) (x y t : Int32) : WIn [eIdx, eSta, eUns] isI (pPropose w x y t).1 ∧ J (pPropose w x y t).2 := by
  obtain ⟨u, r⟩ := id h.1
  obtain ⟨m, n, q⟩ := id r.1
  obtain ⟨s, r2⟩ := sc_propose r x y t
  exact ⟨(SmV.inn s), h.ch ⟨_, r2⟩ (ch_propose q x y t).f (fun z => xk_move h.hx h.x0 z)⟩
theorem j_support {w : PV} (h : J w) (x y t : Int32) : WIn [eIdx, eSta, eEle, eUns] isI (pSupport w x y t).1 ∧ J (pSupport w x y t).2 := by
  obtain ⟨u, r⟩ := id h.1
  obtain ⟨m, n, q⟩ := id r.1
  obtain ⟨s, r2⟩ := sc_support r x y t
  exact ⟨(SmV.inn s), h.ch ⟨_, r2⟩ (ch_support q x y t).f (fun z => xk_second h.hx h.x0 z)⟩
theorem j_decide {w : PV} (h : J w) (x : Int32) : WIn [eIdx, eSta, eEle, eUns] isZ (pDecide w x).1 ∧ J (pDecide w x).2 := by
  obtain ⟨u, r⟩ := id h.1
  obtain ⟨m, n, q⟩ := id r.1
  obtain ⟨s, r2⟩ := sc_decide r x
  exact ⟨win_z (SmV.inn s), h.ch ⟨_, r2⟩ (ch_decide q x).f (fun z => xk_decide h.hx h.x0 z)⟩
theorem j_ride {w : PV} (h : J w) (x y t : Int32) : WIn [eIdx, eArg, eSta, eUns] isI (pRide w x y t).1 ∧ J (pRide w x y t).2 := by
  obtain ⟨u, r⟩ := id h.1
  obtain ⟨m, n, q⟩ := id r.1
  obtain ⟨s, r2⟩ := sc_ride r x y t
  exact ⟨(SmV.inn s), h.ch ⟨_, r2⟩ (ch_ride q x y t).f (fun z => xk_hold h.hx h.x0 z)⟩
theorem XK.two {w : PV} (h : J w) (k : Nat) : XK (w.1 0) := h.x0
theorem j_undo {w : PV} (h : J w) : WIn [eSta] isI (pUndo w).1 ∧ J (pUndo w).2 := by
  obtain ⟨u, r⟩ := id h.1
  obtain ⟨s, r2⟩ := sc_undo r
  refine ⟨(SmV.inn s), ⟨_, r2⟩, ?_⟩
  obtain ⟨K, N, hK, hN, eK, eN⟩ := h.ring
  by_cases c : w.2.2.2.2 2 = 0
  · have e : pUndo w = (.inr eSta, w) := pG_n (pN c)
    rw [e]; exact h.2
  · have e : pUndo w = (rI (w.2.2.2.2 2 - 1), wUndo w) := pG_y c
    rw [e]
    refine ⟨fun k hk => ?_, h.2.2⟩
    show XK (if k = 0 then w.2.1 (cN (nxU (w.2.2.2.2 1))) else w.1 k)
    by_cases e0 : k = 0
    · rw [if_pos e0, eN, nxU_nI hN, cN_nI (by omega)]; exact h.2.2 _ (by omega)
    · rw [if_neg e0]; exact h.2.1 k hk
theorem j_save {w : PV} (h : J w) : J (pSave w).2 := by
  obtain ⟨u, r⟩ := id h.1
  obtain ⟨-, r2⟩ := sc_save r
  refine ⟨⟨_, r2⟩, fun k hk => ?_, h.2.2⟩
  show XK (if k = 2 then w.1 0 else w.1 k)
  by_cases e : k = 2
  · rw [if_pos e]; exact h.x0
  · rw [if_neg e]; exact h.2.1 k hk
theorem j_restore {w : PV} (h : J w) : WIn [eSta] isI (pRestore w).1 ∧ J (pRestore w).2 := by
  obtain ⟨u, r⟩ := id h.1
  obtain ⟨s, r2⟩ := sc_restore r
  refine ⟨(SmV.inn s), ⟨_, r2⟩, ?_⟩
  by_cases c : w.2.2.2.2 0 = 0
  · have e : pRestore w = (.inr eSta, w) := pG_n (pN c)
    rw [e]; exact h.2
  · have e : pRestore w = (rI ((w.1 2).1 3), wS (wH w 0 (w.1 2)) 2 0) := pG_y c
    rw [e]
    refine ⟨fun k hk => ?_, h.2.2⟩
    show XK (if k = 0 then w.1 2 else w.1 k)
    by_cases e0 : k = 0
    · rw [if_pos e0]; exact h.2.1 2 (by decide)
    · rw [if_neg e0]; exact h.2.1 k hk
theorem j_run {w : PV} (h : J w) : WIn [eArg, eSta] isI (pRun w).1 ∧ J (pRun w).2 := by
  obtain ⟨u, r⟩ := id h.1
  obtain ⟨s, r2⟩ := sc_run r
  refine ⟨(SmV.inn s), ⟨_, r2⟩, ?_⟩
  rcases hc : rC w with ⟨n, T1⟩
  rcases hs : rS w n T1 with ⟨f, v, T2⟩
  by_cases c : n = -1
  · rw [pRun_e hc c]; exact h.2
  have xv : XK v := by
    have := yk_co (cN n) 0 (T := hsc T1 1 0) h.hx h.x0
    rw [show coS (cN n) 0 (w.1 0) (hsc T1 1 0) = (f, v, T2) from hs] at this
    exact this
  by_cases c2 : f = -1
  · rw [pRun_o hc hs c c2]
    refine ⟨fun k hk => ?_, fun k hk => ?_⟩
    · show XK (if k = 0 then v else if k = 1 then w.1 0 else w.1 k)
      by_cases e : k = 0
      · rw [if_pos e]; exact xv
      · rw [if_neg e]
        by_cases e1 : k = 1
        · rw [if_pos e1]; exact h.x0
        · rw [if_neg e1]; exact h.2.1 k hk
    · show XK (if k = cN (w.2.2.2.2 1) then w.1 0 else w.2.1 k)
      by_cases e : k = cN (w.2.2.2.2 1)
      · rw [if_pos e]; exact h.x0
      · rw [if_neg e]; exact h.2.2 k hk
  · rw [pRun_n hc hs c c2]
    refine ⟨fun k hk => ?_, h.2.2⟩
    show XK (if k = 0 then w.1 0 else if k = 0 then v else if k = 1 then w.1 0 else w.1 k)
    by_cases e : k = 0
    · rw [if_pos e]; exact h.x0
    · rw [if_neg e, if_neg e]
      by_cases e1 : k = 1
      · rw [if_pos e1]; exact h.x0
      · rw [if_neg e1]; exact h.2.1 k hk
theorem j_append {w : PV} (h : J w) {c : Int32} (ec : i2cc c = c) (hc : 32 ≤ c ∧ c ≤ 126) : WIn [eSta] isI (pAppend w c).1 ∧ J (pAppend w c).2 := by
  obtain ⟨u, r⟩ := id h.1
  have r2 := (sc_append r c).2
  rw [ec] at r2
  have e1 : pAppend w c = pG (¬ 60 ≤ w.2.2.1.1 0) eSta w (rI ((tPutS w.2.2.1 c).1 0), wT w (tPutS w.2.2.1 c)) := pG_y hc
  rw [e1] at r2 ⊢
  by_cases c2 : 60 ≤ w.2.2.1.1 0
  · rw [pG_n (pN c2)] at r2 ⊢
    exact ⟨Or.inr ⟨eSta, 1, rfl, Or.inl ⟨rfl, rfl⟩⟩, h⟩
  · rw [pG_y c2] at r2 ⊢
    exact ⟨Or.inl ⟨_, rfl, _, rfl⟩, ⟨_, r2⟩, h.2⟩
theorem j_line {w : PV} (h : J w) {b : Int32} (hb : hasB (w.1 0) b) : J (wL w (dL (w.1 0) w.2.2.2.1 b)) := by
  obtain ⟨u, r⟩ := id h.1
  have r2 := (sc_describeBill r b).2
  rw [show pDescribeBill w b = _ from pG_y hb] at r2
  exact ⟨⟨_, r2⟩, h.2⟩
theorem j_billAtRank {w : PV} (h : J w) (x : Int32) : WIn [eEle] isI (pBillAtRank w x).1 := by
  obtain ⟨u, r⟩ := id h.1
  exact SmV.inn (sc_billAtRank r x).1
theorem j_amendedClause {w : PV} (h : J w) (x y : Int32) : WIn [eIdx, eEle] isI (pAmendedClause w x y).1 := by
  obtain ⟨u, r⟩ := id h.1
  exact SmV.inn (sc_amendedClause r x y).1
theorem j_ridesUntilFall {w : PV} (h : J w) (x y : Int32) : WIn [eIdx, eArg, eSta] isI (pRidesUntilFall w x y).1 := by
  obtain ⟨u, r⟩ := id h.1
  exact SmV.inn (sc_ridesUntilFall r x y).1
theorem j_failedCommand {w : PV} (h : J w) : WIn [eEle] isI (pFailedCommand w ).1 := by
  obtain ⟨u, r⟩ := id h.1
  exact SmV.inn (sc_failedCommand r ).1
theorem j_shareBits {w : PV} (h : J w) (x : Int32) : WIn [eIdx, eAri] isI (pShareBits w x).1 := by
  obtain ⟨u, r⟩ := id h.1
  exact SmV.inn (sc_shareBits r x).1
theorem j_meanWeight {w : PV} (h : J w) : WIn [eAri] isD (pMeanWeight w ).1 := by
  obtain ⟨u, r⟩ := id h.1
  exact SmV.inn (sc_meanWeight r ).1
