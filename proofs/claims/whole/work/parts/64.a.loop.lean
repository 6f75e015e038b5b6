/-! ===== what the pure part owes: in a relation R of both sides, each method answers alike and keeps R ===== -/
def SC_addMember (R : PV → HV → Prop) (w : PV) (u : HV) : Prop := ∀ x1 x2 : Int32, SmV isI [eIdx, eArg, eSta] (pAddMember w x1 x2) (mAddMember u x1 x2) ∧ R (pAddMember w x1 x2).2 (mAddMember u x1 x2).2
def SC_enter (R : PV → HV → Prop) (w : PV) (u : HV) : Prop := ∀ x1 : Int32, SmV isI [eIdx, eSta] (pEnter w x1) (mEnter u x1) ∧ R (pEnter w x1).2 (mEnter u x1).2
def SC_leave (R : PV → HV → Prop) (w : PV) (u : HV) : Prop := ∀ x1 : Int32, SmV isI [eIdx, eSta] (pLeave w x1) (mLeave u x1) ∧ R (pLeave w x1).2 (mLeave u x1).2
def SC_setQuorum (R : PV → HV → Prop) (w : PV) (u : HV) : Prop := ∀ x1 : Int32, SmV isI [eArg] (pSetQuorum w x1) (mSetQuorum u x1) ∧ R (pSetQuorum w x1).2 (mSetQuorum u x1).2
def SC_memberCount (R : PV → HV → Prop) (w : PV) (u : HV) : Prop := SmQ (pMemberCount w) (mMemberCount u) ∧ R (pMemberCount w).2 (mMemberCount u).2
def SC_wardOf (R : PV → HV → Prop) (w : PV) (u : HV) : Prop := ∀ x1 : Int32, SmV isI [eIdx] (pWardOf w x1) (mWardOf u x1) ∧ R (pWardOf w x1).2 (mWardOf u x1).2
def SC_weightOf (R : PV → HV → Prop) (w : PV) (u : HV) : Prop := ∀ x1 : Int32, SmV isI [eIdx] (pWeightOf w x1) (mWeightOf u x1) ∧ R (pWeightOf w x1).2 (mWeightOf u x1).2
def SC_isPresent (R : PV → HV → Prop) (w : PV) (u : HV) : Prop := ∀ x1 : Int32, SmV isI [eIdx] (pIsPresent w x1) (mIsPresent u x1) ∧ R (pIsPresent w x1).2 (mIsPresent u x1).2
def SC_presentMask (R : PV → HV → Prop) (w : PV) (u : HV) : Prop := SmQ (pPresentMask w) (mPresentMask u) ∧ R (pPresentMask w).2 (mPresentMask u).2
def SC_quorum (R : PV → HV → Prop) (w : PV) (u : HV) : Prop := SmQ (pQuorum w) (mQuorum u) ∧ R (pQuorum w).2 (mQuorum u).2
def SC_isQuorate (R : PV → HV → Prop) (w : PV) (u : HV) : Prop := SmQ (pIsQuorate w) (mIsQuorate u) ∧ R (pIsQuorate w).2 (mIsQuorate u).2
def SC_wardWeight (R : PV → HV → Prop) (w : PV) (u : HV) : Prop := ∀ x1 : Int32, SmV isI [eIdx] (pWardWeight w x1) (mWardWeight u x1) ∧ R (pWardWeight w x1).2 (mWardWeight u x1).2
def SC_strongestWard (R : PV → HV → Prop) (w : PV) (u : HV) : Prop := SmQ (pStrongestWard w) (mStrongestWard u) ∧ R (pStrongestWard w).2 (mStrongestWard u).2
def SC_introduce (R : PV → HV → Prop) (w : PV) (u : HV) : Prop := ∀ x1 x2 x3 : Int32, SmV isI [eIdx, eArg, eSta, eUns] (pIntroduce w x1 x2 x3) (mIntroduce u x1 x2 x3) ∧ R (pIntroduce w x1 x2 x3).2 (mIntroduce u x1 x2 x3).2
def SC_billCount (R : PV → HV → Prop) (w : PV) (u : HV) : Prop := SmQ (pBillCount w) (mBillCount u) ∧ R (pBillCount w).2 (mBillCount u).2
def SC_isOpen (R : PV → HV → Prop) (w : PV) (u : HV) : Prop := ∀ x1 : Int32, SmV isI [eIdx] (pIsOpen w x1) (mIsOpen u x1) ∧ R (pIsOpen w x1).2 (mIsOpen u x1).2
def SC_isPassed (R : PV → HV → Prop) (w : PV) (u : HV) : Prop := ∀ x1 : Int32, SmV isI [eIdx] (pIsPassed w x1) (mIsPassed u x1) ∧ R (pIsPassed w x1).2 (mIsPassed u x1).2
def SC_readings (R : PV → HV → Prop) (w : PV) (u : HV) : Prop := ∀ x1 : Int32, SmV isI [eIdx] (pReadings w x1) (mReadings u x1) ∧ R (pReadings w x1).2 (mReadings u x1).2
def SC_clauses (R : PV → HV → Prop) (w : PV) (u : HV) : Prop := ∀ x1 : Int32, SmV isL [eIdx] (pClauses w x1) (mClauses u x1) ∧ R (pClauses w x1).2 (mClauses u x1).2
def SC_clauseCount (R : PV → HV → Prop) (w : PV) (u : HV) : Prop := ∀ x1 : Int32, SmV isI [eIdx] (pClauseCount w x1) (mClauseCount u x1) ∧ R (pClauseCount w x1).2 (mClauseCount u x1).2
def SC_longestRun (R : PV → HV → Prop) (w : PV) (u : HV) : Prop := ∀ x1 : Int32, SmV isI [eIdx] (pLongestRun w x1) (mLongestRun u x1) ∧ R (pLongestRun w x1).2 (mLongestRun u x1).2
def SC_longestRunByShift (R : PV → HV → Prop) (w : PV) (u : HV) : Prop := ∀ x1 : Int32, SmV isI [eIdx] (pLongestRunByShift w x1) (mLongestRunByShift u x1) ∧ R (pLongestRunByShift w x1).2 (mLongestRunByShift u x1).2
def SC_billAtRank (R : PV → HV → Prop) (w : PV) (u : HV) : Prop := ∀ x1 : Int32, SmV isI [eEle] (pBillAtRank w x1) (mBillAtRank u x1) ∧ R (pBillAtRank w x1).2 (mBillAtRank u x1).2
def SC_voteFor (R : PV → HV → Prop) (w : PV) (u : HV) : Prop := ∀ x1 x2 : Int32, SmV isI [eIdx, eSta, eUns] (pVoteFor w x1 x2) (mVoteFor u x1 x2) ∧ R (pVoteFor w x1 x2).2 (mVoteFor u x1 x2).2
def SC_voteAgainst (R : PV → HV → Prop) (w : PV) (u : HV) : Prop := ∀ x1 x2 : Int32, SmV isI [eIdx, eSta, eUns] (pVoteAgainst w x1 x2) (mVoteAgainst u x1 x2) ∧ R (pVoteAgainst w x1 x2).2 (mVoteAgainst u x1 x2).2
def SC_weightFor (R : PV → HV → Prop) (w : PV) (u : HV) : Prop := ∀ x1 : Int32, SmV isI [eIdx] (pWeightFor w x1) (mWeightFor u x1) ∧ R (pWeightFor w x1).2 (mWeightFor u x1).2
def SC_weightForByDigits (R : PV → HV → Prop) (w : PV) (u : HV) : Prop := ∀ x1 : Int32, SmV isI [eIdx] (pWeightForByDigits w x1) (mWeightForByDigits u x1) ∧ R (pWeightForByDigits w x1).2 (mWeightForByDigits u x1).2
def SC_weightAgainst (R : PV → HV → Prop) (w : PV) (u : HV) : Prop := ∀ x1 : Int32, SmV isI [eIdx] (pWeightAgainst w x1) (mWeightAgainst u x1) ∧ R (pWeightAgainst w x1).2 (mWeightAgainst u x1).2
def SC_closeReading (R : PV → HV → Prop) (w : PV) (u : HV) : Prop := ∀ x1 : Int32, SmV isI [eIdx, eSta, eUns] (pCloseReading w x1) (mCloseReading u x1) ∧ R (pCloseReading w x1).2 (mCloseReading u x1).2
def SC_propose (R : PV → HV → Prop) (w : PV) (u : HV) : Prop := ∀ x1 x2 x3 : Int32, SmV isI [eIdx, eSta, eUns] (pPropose w x1 x2 x3) (mPropose u x1 x2 x3) ∧ R (pPropose w x1 x2 x3).2 (mPropose u x1 x2 x3).2
def SC_support (R : PV → HV → Prop) (w : PV) (u : HV) : Prop := ∀ x1 x2 x3 : Int32, SmV isI [eIdx, eSta, eEle, eUns] (pSupport w x1 x2 x3) (mSupport u x1 x2 x3) ∧ R (pSupport w x1 x2 x3).2 (mSupport u x1 x2 x3).2
def SC_decide (R : PV → HV → Prop) (w : PV) (u : HV) : Prop := ∀ x1 : Int32, SmV isI [eIdx, eSta, eEle, eUns] (pDecide w x1) (mDecide u x1) ∧ R (pDecide w x1).2 (mDecide u x1).2
def SC_pendingCount (R : PV → HV → Prop) (w : PV) (u : HV) : Prop := ∀ x1 : Int32, SmV isI [eIdx] (pPendingCount w x1) (mPendingCount u x1) ∧ R (pPendingCount w x1).2 (mPendingCount u x1).2
def SC_amendedClause (R : PV → HV → Prop) (w : PV) (u : HV) : Prop := ∀ x1 x2 : Int32, SmV isI [eIdx, eEle] (pAmendedClause w x1 x2) (mAmendedClause u x1 x2) ∧ R (pAmendedClause w x1 x2).2 (mAmendedClause u x1 x2).2
def SC_supportWeight (R : PV → HV → Prop) (w : PV) (u : HV) : Prop := ∀ x1 x2 : Int32, SmV isI [eIdx, eEle] (pSupportWeight w x1 x2) (mSupportWeight u x1 x2) ∧ R (pSupportWeight w x1 x2).2 (mSupportWeight u x1 x2).2
def SC_ride (R : PV → HV → Prop) (w : PV) (u : HV) : Prop := ∀ x1 x2 x3 : Int32, SmV isI [eIdx, eArg, eSta, eUns] (pRide w x1 x2 x3) (mRide u x1 x2 x3) ∧ R (pRide w x1 x2 x3).2 (mRide u x1 x2 x3).2
def SC_delay (R : PV → HV → Prop) (w : PV) (u : HV) : Prop := ∀ x1 : Int32, SmV isI [eIdx] (pDelay w x1) (mDelay u x1) ∧ R (pDelay w x1).2 (mDelay u x1).2
def SC_rust (R : PV → HV → Prop) (w : PV) (u : HV) : Prop := ∀ x1 : Int32, SmV isI [eIdx] (pRust w x1) (mRust u x1) ∧ R (pRust w x1).2 (mRust u x1).2
def SC_ridesUntilFall (R : PV → HV → Prop) (w : PV) (u : HV) : Prop := ∀ x1 x2 : Int32, SmV isI [eIdx, eArg, eSta] (pRidesUntilFall w x1 x2) (mRidesUntilFall u x1 x2) ∧ R (pRidesUntilFall w x1 x2).2 (mRidesUntilFall u x1 x2).2
def SC_passedCount (R : PV → HV → Prop) (w : PV) (u : HV) : Prop := SmQ (pPassedCount w) (mPassedCount u) ∧ R (pPassedCount w).2 (mPassedCount u).2
def SC_fallenCount (R : PV → HV → Prop) (w : PV) (u : HV) : Prop := SmQ (pFallenCount w) (mFallenCount u) ∧ R (pFallenCount w).2 (mFallenCount u).2
def SC_acceptedCount (R : PV → HV → Prop) (w : PV) (u : HV) : Prop := SmQ (pAcceptedCount w) (mAcceptedCount u) ∧ R (pAcceptedCount w).2 (mAcceptedCount u).2
def SC_append (R : PV → HV → Prop) (w : PV) (u : HV) : Prop := ∀ x1 : Int32, SmV isI [eArg, eSta] (pAppend w (i2cc x1)) (mAppend u (i2cc x1)) ∧ R (pAppend w (i2cc x1)).2 (mAppend u (i2cc x1)).2
def SC_run (R : PV → HV → Prop) (w : PV) (u : HV) : Prop := SmV isI [eArg, eSta] (pRun w) (mRun u) ∧ R (pRun w).2 (mRun u).2
def SC_errorPosition (R : PV → HV → Prop) (w : PV) (u : HV) : Prop := SmV isI [eEle] (pErrorPosition w) (mErrorPosition u) ∧ R (pErrorPosition w).2 (mErrorPosition u).2
def SC_failedCommand (R : PV → HV → Prop) (w : PV) (u : HV) : Prop := SmV isI [eEle] (pFailedCommand w) (mFailedCommand u) ∧ R (pFailedCommand w).2 (mFailedCommand u).2
def SC_describeBill (R : PV → HV → Prop) (w : PV) (u : HV) : Prop := ∀ x1 : Int32, SmV isI [eIdx] (pDescribeBill w x1) (mDescribeBill u x1) ∧ R (pDescribeBill w x1).2 (mDescribeBill u x1).2
def SC_lineAt (R : PV → HV → Prop) (w : PV) (u : HV) : Prop := ∀ x1 : Int32, SmV isI [eIdx] (pLineAt w x1) (mLineAt u x1) ∧ R (pLineAt w x1).2 (mLineAt u x1).2
def SC_meanWeight (R : PV → HV → Prop) (w : PV) (u : HV) : Prop := SmV isD [eAri] (pMeanWeight w) (mMeanWeight u) ∧ R (pMeanWeight w).2 (mMeanWeight u).2
def SC_shareBits (R : PV → HV → Prop) (w : PV) (u : HV) : Prop := ∀ x1 : Int32, SmV isI [eIdx, eAri] (pShareBits w x1) (mShareBits u x1) ∧ R (pShareBits w x1).2 (mShareBits u x1).2
def SC_isConsistent (R : PV → HV → Prop) (w : PV) (u : HV) : Prop := SmQ (pIsConsistent w) (mIsConsistent u) ∧ R (pIsConsistent w).2 (mIsConsistent u).2
def SC_undo (R : PV → HV → Prop) (w : PV) (u : HV) : Prop := SmV isI [eSta] (pUndo w) (mUndo u) ∧ R (pUndo w).2 (mUndo u).2
def SC_save (R : PV → HV → Prop) (w : PV) (u : HV) : Prop := SmQ (pSave w) (mSave u) ∧ R (pSave w).2 (mSave u).2
def SC_restore (R : PV → HV → Prop) (w : PV) (u : HV) : Prop := SmV isI [eSta] (pRestore w) (mRestore u) ∧ R (pRestore w).2 (mRestore u).2
def Simu (R : PV → HV → Prop) : Prop := ∀ w u, R w u → LG w u ∧ SC_addMember R w u ∧ SC_enter R w u ∧ SC_leave R w u ∧ SC_setQuorum R w u ∧ SC_memberCount R w u ∧ SC_wardOf R w u ∧ SC_weightOf R w u ∧ SC_isPresent R w u ∧ SC_presentMask R w u ∧ SC_quorum R w u ∧ SC_isQuorate R w u ∧ SC_wardWeight R w u ∧ SC_strongestWard R w u ∧ SC_introduce R w u ∧ SC_billCount R w u ∧ SC_isOpen R w u ∧ SC_isPassed R w u ∧ SC_readings R w u ∧ SC_clauses R w u ∧ SC_clauseCount R w u ∧ SC_longestRun R w u ∧ SC_longestRunByShift R w u ∧ SC_billAtRank R w u ∧ SC_voteFor R w u ∧ SC_voteAgainst R w u ∧ SC_weightFor R w u ∧ SC_weightForByDigits R w u ∧ SC_weightAgainst R w u ∧ SC_closeReading R w u ∧ SC_propose R w u ∧ SC_support R w u ∧ SC_decide R w u ∧ SC_pendingCount R w u ∧ SC_amendedClause R w u ∧ SC_supportWeight R w u ∧ SC_ride R w u ∧ SC_delay R w u ∧ SC_rust R w u ∧ SC_ridesUntilFall R w u ∧ SC_passedCount R w u ∧ SC_fallenCount R w u ∧ SC_acceptedCount R w u ∧ SC_append R w u ∧ SC_run R w u ∧ SC_errorPosition R w u ∧ SC_failedCommand R w u ∧ SC_describeBill R w u ∧ SC_lineAt R w u ∧ SC_meanWeight R w u ∧ SC_shareBits R w u ∧ SC_isConsistent R w u ∧ SC_undo R w u ∧ SC_save R w u ∧ SC_restore R w u
theorem scr_more {Ls i : Nat} (hL : Ls ≤ 2048) (hi : i ≤ 4096) (h : ¬ nI Ls - 4 < nI i) : i + 3 < Ls := by
  by_cases h4 : 4 ≤ Ls
  · have e : nI Ls - 4 = nI (Ls - 4) := by
      have e1 : nI (Ls - 4) + nI 4 = nI Ls := by rw [nI_add]; congr 1; omega
      rw [← e1]
      exact Int32.add_sub_cancel _ _
    rw [e, nI_ltI (by omega) (by omega)] at h
    omega
  · refine absurd (Int32.lt_of_lt_of_le (b := 0) ?_ ?_) h
    · rcases (show Ls = 0 ∨ Ls = 1 ∨ Ls = 2 ∨ Ls = 3 by omega) with rfl | rfl | rfl | rfl <;> decide
    · exact (nI_leI (a := 0) (by decide) (by omega)).mpr (Nat.zero_le _)
set_option maxRecDepth 100000 in
set_option maxHeartbeats 8000000 in
theorem law_step {κ : KT} {tab : List ExceptionTableEntry} {nm : String} {sb Ls o od : Nat} {xs : Nat → Int32} {A a : Nat → Nat} (X : Cx κ RL cL_law (some .boolean) tab nm) (hl : κ.l.stackTraces = false) (hnL : κ.nL = 9) (hRm : κ.R = room_1) (D : LD κ sb Ls xs A a o od) {R : PV → HV → Prop} (hSim : Simu R) {w : PV} {u : HV} {M : Hp} {cells slots i : Nat} (hR : R w u) (hW : LW κ A a o od w u M) (hi : i + 3 < Ls) (hc : cells + 3 ≤ 603072) (hs : slots + 18 ≤ 7182442)
    (k0 : G κ M cells slots (LL sb A a o od i) 2980 []) (k9 : ∀ w' u' M', R w' u' → LW κ A a o od w' u' M' → G κ M' (cells + 3) (slots + 18) (LL sb A a o od i) 2980 []) : G κ M cells slots (LL sb A a o od i) 37 [] := by
  have hZ := hSim w u hR
  have hG := hZ.1
  refine g_aload_n X dL_law_37 rfl 5 rfl ?_
  refine g_iload X dL_law_38 0 rfl ?_
  refine g_sld X D dL_law_40 (by omega) ?_
  refine g_bipush (v := 63) X dL_law_41 (by decide) ?_
  refine g_iand X dL_law_43 ?_
  generalize xs i &&& 63 = z
  by_cases e0 : z = 0
  · refine g_tabIn (off := 232) (tgt := 276) X dL_law_44 (by rw [e0]; decide) (by rw [e0]; decide) (by rw [e0]; rfl) (by decide) ?_
    exact lc_addMember X hl hnL hRm D hW hG hi hc hs (hZ.2.1 (xs (i + 1)) (xs (i + 2))).1 (fun M' h => k9 _ _ M' (hZ.2.1 (xs (i + 1)) (xs (i + 2))).2 h)
  by_cases e1 : z = 1
  · refine g_tabIn (off := 300) (tgt := 344) X dL_law_44 (by rw [e1]; decide) (by rw [e1]; decide) (by rw [e1]; rfl) (by decide) ?_
    exact lc_enter X hl hnL hRm D hW hG hi hc hs (hZ.2.2.1 (xs (i + 1))).1 (fun M' h => k9 _ _ M' (hZ.2.2.1 (xs (i + 1))).2 h)
  by_cases e2 : z = 2
  · refine g_tabIn (off := 356) (tgt := 400) X dL_law_44 (by rw [e2]; decide) (by rw [e2]; decide) (by rw [e2]; rfl) (by decide) ?_
    exact lc_leave X hl hnL hRm D hW hG hi hc hs (hZ.2.2.2.1 (xs (i + 1))).1 (fun M' h => k9 _ _ M' (hZ.2.2.2.1 (xs (i + 1))).2 h)
  by_cases e3 : z = 3
  · refine g_tabIn (off := 412) (tgt := 456) X dL_law_44 (by rw [e3]; decide) (by rw [e3]; decide) (by rw [e3]; rfl) (by decide) ?_
    exact lc_setQuorum X hl hnL hRm D hW hG hi hc hs (hZ.2.2.2.2.1 (xs (i + 1))).1 (fun M' h => k9 _ _ M' (hZ.2.2.2.2.1 (xs (i + 1))).2 h)
  by_cases e4 : z = 4
  · refine g_tabIn (off := 468) (tgt := 512) X dL_law_44 (by rw [e4]; decide) (by rw [e4]; decide) (by rw [e4]; rfl) (by decide) ?_
    exact lc_memberCount X hl hnL hRm D hW hG hi hc hs (hZ.2.2.2.2.2.1 ).1 (fun M' h => k9 _ _ M' (hZ.2.2.2.2.2.1 ).2 h)
  by_cases e5 : z = 5
  · refine g_tabIn (off := 481) (tgt := 525) X dL_law_44 (by rw [e5]; decide) (by rw [e5]; decide) (by rw [e5]; rfl) (by decide) ?_
    exact lc_wardOf X hl hnL hRm D hW hG hi hc hs (hZ.2.2.2.2.2.2.1 (xs (i + 1))).1 (fun M' h => k9 _ _ M' (hZ.2.2.2.2.2.2.1 (xs (i + 1))).2 h)
  by_cases e6 : z = 6
  · refine g_tabIn (off := 537) (tgt := 581) X dL_law_44 (by rw [e6]; decide) (by rw [e6]; decide) (by rw [e6]; rfl) (by decide) ?_
    exact lc_weightOf X hl hnL hRm D hW hG hi hc hs (hZ.2.2.2.2.2.2.2.1 (xs (i + 1))).1 (fun M' h => k9 _ _ M' (hZ.2.2.2.2.2.2.2.1 (xs (i + 1))).2 h)
  by_cases e7 : z = 7
  · refine g_tabIn (off := 593) (tgt := 637) X dL_law_44 (by rw [e7]; decide) (by rw [e7]; decide) (by rw [e7]; rfl) (by decide) ?_
    exact lc_isPresent X hl hnL hRm D hW hG hi hc hs (hZ.2.2.2.2.2.2.2.2.1 (xs (i + 1))).1 (fun M' h => k9 _ _ M' (hZ.2.2.2.2.2.2.2.2.1 (xs (i + 1))).2 h)
  by_cases e8 : z = 8
  · refine g_tabIn (off := 656) (tgt := 700) X dL_law_44 (by rw [e8]; decide) (by rw [e8]; decide) (by rw [e8]; rfl) (by decide) ?_
    exact lc_presentMask X hl hnL hRm D hW hG hi hc hs (hZ.2.2.2.2.2.2.2.2.2.1 ).1 (fun M' h => k9 _ _ M' (hZ.2.2.2.2.2.2.2.2.2.1 ).2 h)
  by_cases e9 : z = 9
  · refine g_tabIn (off := 669) (tgt := 713) X dL_law_44 (by rw [e9]; decide) (by rw [e9]; decide) (by rw [e9]; rfl) (by decide) ?_
    exact lc_quorum X hl hnL hRm D hW hG hi hc hs (hZ.2.2.2.2.2.2.2.2.2.2.1 ).1 (fun M' h => k9 _ _ M' (hZ.2.2.2.2.2.2.2.2.2.2.1 ).2 h)
  by_cases e10 : z = 10
  · refine g_tabIn (off := 682) (tgt := 726) X dL_law_44 (by rw [e10]; decide) (by rw [e10]; decide) (by rw [e10]; rfl) (by decide) ?_
    exact lc_isQuorate X hl hnL hRm D hW hG hi hc hs (hZ.2.2.2.2.2.2.2.2.2.2.2.1 ).1 (fun M' h => k9 _ _ M' (hZ.2.2.2.2.2.2.2.2.2.2.2.1 ).2 h)
  by_cases e11 : z = 11
  · refine g_tabIn (off := 695) (tgt := 739) X dL_law_44 (by rw [e11]; decide) (by rw [e11]; decide) (by rw [e11]; rfl) (by decide) ?_
    exact lc_wardWeight X hl hnL hRm D hW hG hi hc hs (hZ.2.2.2.2.2.2.2.2.2.2.2.2.1 (xs (i + 1))).1 (fun M' h => k9 _ _ M' (hZ.2.2.2.2.2.2.2.2.2.2.2.2.1 (xs (i + 1))).2 h)
  by_cases e12 : z = 12
  · refine g_tabIn (off := 751) (tgt := 795) X dL_law_44 (by rw [e12]; decide) (by rw [e12]; decide) (by rw [e12]; rfl) (by decide) ?_
    exact lc_strongestWard X hl hnL hRm D hW hG hi hc hs (hZ.2.2.2.2.2.2.2.2.2.2.2.2.2.1 ).1 (fun M' h => k9 _ _ M' (hZ.2.2.2.2.2.2.2.2.2.2.2.2.2.1 ).2 h)
  by_cases e13 : z = 13
  · refine g_tabIn (off := 764) (tgt := 808) X dL_law_44 (by rw [e13]; decide) (by rw [e13]; decide) (by rw [e13]; rfl) (by decide) ?_
    exact lc_introduce X hl hnL hRm D hW hG hi hc hs (hZ.2.2.2.2.2.2.2.2.2.2.2.2.2.2.1 (xs (i + 1)) (xs (i + 2)) (xs (i + 3))).1 (fun M' h => k9 _ _ M' (hZ.2.2.2.2.2.2.2.2.2.2.2.2.2.2.1 (xs (i + 1)) (xs (i + 2)) (xs (i + 3))).2 h)
  by_cases e14 : z = 14
  · refine g_tabIn (off := 844) (tgt := 888) X dL_law_44 (by rw [e14]; decide) (by rw [e14]; decide) (by rw [e14]; rfl) (by decide) ?_
    exact lc_billCount X hl hnL hRm D hW hG hi hc hs (hZ.2.2.2.2.2.2.2.2.2.2.2.2.2.2.2.1 ).1 (fun M' h => k9 _ _ M' (hZ.2.2.2.2.2.2.2.2.2.2.2.2.2.2.2.1 ).2 h)
  by_cases e15 : z = 15
  · refine g_tabIn (off := 857) (tgt := 901) X dL_law_44 (by rw [e15]; decide) (by rw [e15]; decide) (by rw [e15]; rfl) (by decide) ?_
    exact lc_isOpen X hl hnL hRm D hW hG hi hc hs (hZ.2.2.2.2.2.2.2.2.2.2.2.2.2.2.2.2.1 (xs (i + 1))).1 (fun M' h => k9 _ _ M' (hZ.2.2.2.2.2.2.2.2.2.2.2.2.2.2.2.2.1 (xs (i + 1))).2 h)
  by_cases e16 : z = 16
  · refine g_tabIn (off := 920) (tgt := 964) X dL_law_44 (by rw [e16]; decide) (by rw [e16]; decide) (by rw [e16]; rfl) (by decide) ?_
    exact lc_isPassed X hl hnL hRm D hW hG hi hc hs (hZ.2.2.2.2.2.2.2.2.2.2.2.2.2.2.2.2.2.1 (xs (i + 1))).1 (fun M' h => k9 _ _ M' (hZ.2.2.2.2.2.2.2.2.2.2.2.2.2.2.2.2.2.1 (xs (i + 1))).2 h)
  by_cases e17 : z = 17
  · refine g_tabIn (off := 983) (tgt := 1027) X dL_law_44 (by rw [e17]; decide) (by rw [e17]; decide) (by rw [e17]; rfl) (by decide) ?_
    exact lc_readings X hl hnL hRm D hW hG hi hc hs (hZ.2.2.2.2.2.2.2.2.2.2.2.2.2.2.2.2.2.2.1 (xs (i + 1))).1 (fun M' h => k9 _ _ M' (hZ.2.2.2.2.2.2.2.2.2.2.2.2.2.2.2.2.2.2.1 (xs (i + 1))).2 h)
  by_cases e18 : z = 18
  · refine g_tabIn (off := 1039) (tgt := 1083) X dL_law_44 (by rw [e18]; decide) (by rw [e18]; decide) (by rw [e18]; rfl) (by decide) ?_
    exact lc_clauses X hl hnL hRm D hW hG hi hc hs (hZ.2.2.2.2.2.2.2.2.2.2.2.2.2.2.2.2.2.2.2.1 (xs (i + 1))).1 (fun M' h => k9 _ _ M' (hZ.2.2.2.2.2.2.2.2.2.2.2.2.2.2.2.2.2.2.2.1 (xs (i + 1))).2 h)
  by_cases e19 : z = 19
  · refine g_tabIn (off := 1094) (tgt := 1138) X dL_law_44 (by rw [e19]; decide) (by rw [e19]; decide) (by rw [e19]; rfl) (by decide) ?_
    exact lc_clauseCount X hl hnL hRm D hW hG hi hc hs (hZ.2.2.2.2.2.2.2.2.2.2.2.2.2.2.2.2.2.2.2.2.1 (xs (i + 1))).1 (fun M' h => k9 _ _ M' (hZ.2.2.2.2.2.2.2.2.2.2.2.2.2.2.2.2.2.2.2.2.1 (xs (i + 1))).2 h)
  by_cases e20 : z = 20
  · refine g_tabIn (off := 1150) (tgt := 1194) X dL_law_44 (by rw [e20]; decide) (by rw [e20]; decide) (by rw [e20]; rfl) (by decide) ?_
    exact lc_longestRun X hl hnL hRm D hW hG hi hc hs (hZ.2.2.2.2.2.2.2.2.2.2.2.2.2.2.2.2.2.2.2.2.2.1 (xs (i + 1))).1 (fun M' h => k9 _ _ M' (hZ.2.2.2.2.2.2.2.2.2.2.2.2.2.2.2.2.2.2.2.2.2.1 (xs (i + 1))).2 h)
  by_cases e21 : z = 21
  · refine g_tabIn (off := 1206) (tgt := 1250) X dL_law_44 (by rw [e21]; decide) (by rw [e21]; decide) (by rw [e21]; rfl) (by decide) ?_
    exact lc_longestRunByShift X hl hnL hRm D hW hG hi hc hs (hZ.2.2.2.2.2.2.2.2.2.2.2.2.2.2.2.2.2.2.2.2.2.2.1 (xs (i + 1))).1 (fun M' h => k9 _ _ M' (hZ.2.2.2.2.2.2.2.2.2.2.2.2.2.2.2.2.2.2.2.2.2.2.1 (xs (i + 1))).2 h)
  by_cases e22 : z = 22
  · refine g_tabIn (off := 1262) (tgt := 1306) X dL_law_44 (by rw [e22]; decide) (by rw [e22]; decide) (by rw [e22]; rfl) (by decide) ?_
    exact lc_billAtRank X hl hnL hRm D hW hG hi hc hs (hZ.2.2.2.2.2.2.2.2.2.2.2.2.2.2.2.2.2.2.2.2.2.2.2.1 (xs (i + 1))).1 (fun M' h => k9 _ _ M' (hZ.2.2.2.2.2.2.2.2.2.2.2.2.2.2.2.2.2.2.2.2.2.2.2.1 (xs (i + 1))).2 h)
  by_cases e23 : z = 23
  · refine g_tabIn (off := 1318) (tgt := 1362) X dL_law_44 (by rw [e23]; decide) (by rw [e23]; decide) (by rw [e23]; rfl) (by decide) ?_
    exact lc_voteFor X hl hnL hRm D hW hG hi hc hs (hZ.2.2.2.2.2.2.2.2.2.2.2.2.2.2.2.2.2.2.2.2.2.2.2.2.1 (xs (i + 1)) (xs (i + 2))).1 (fun M' h => k9 _ _ M' (hZ.2.2.2.2.2.2.2.2.2.2.2.2.2.2.2.2.2.2.2.2.2.2.2.2.1 (xs (i + 1)) (xs (i + 2))).2 h)
  by_cases e24 : z = 24
  · refine g_tabIn (off := 1386) (tgt := 1430) X dL_law_44 (by rw [e24]; decide) (by rw [e24]; decide) (by rw [e24]; rfl) (by decide) ?_
    exact lc_voteAgainst X hl hnL hRm D hW hG hi hc hs (hZ.2.2.2.2.2.2.2.2.2.2.2.2.2.2.2.2.2.2.2.2.2.2.2.2.2.1 (xs (i + 1)) (xs (i + 2))).1 (fun M' h => k9 _ _ M' (hZ.2.2.2.2.2.2.2.2.2.2.2.2.2.2.2.2.2.2.2.2.2.2.2.2.2.1 (xs (i + 1)) (xs (i + 2))).2 h)
  by_cases e25 : z = 25
  · refine g_tabIn (off := 1454) (tgt := 1498) X dL_law_44 (by rw [e25]; decide) (by rw [e25]; decide) (by rw [e25]; rfl) (by decide) ?_
    exact lc_weightFor X hl hnL hRm D hW hG hi hc hs (hZ.2.2.2.2.2.2.2.2.2.2.2.2.2.2.2.2.2.2.2.2.2.2.2.2.2.2.1 (xs (i + 1))).1 (fun M' h => k9 _ _ M' (hZ.2.2.2.2.2.2.2.2.2.2.2.2.2.2.2.2.2.2.2.2.2.2.2.2.2.2.1 (xs (i + 1))).2 h)
  by_cases e26 : z = 26
  · refine g_tabIn (off := 1510) (tgt := 1554) X dL_law_44 (by rw [e26]; decide) (by rw [e26]; decide) (by rw [e26]; rfl) (by decide) ?_
    exact lc_weightForByDigits X hl hnL hRm D hW hG hi hc hs (hZ.2.2.2.2.2.2.2.2.2.2.2.2.2.2.2.2.2.2.2.2.2.2.2.2.2.2.2.1 (xs (i + 1))).1 (fun M' h => k9 _ _ M' (hZ.2.2.2.2.2.2.2.2.2.2.2.2.2.2.2.2.2.2.2.2.2.2.2.2.2.2.2.1 (xs (i + 1))).2 h)
  by_cases e27 : z = 27
  · refine g_tabIn (off := 1566) (tgt := 1610) X dL_law_44 (by rw [e27]; decide) (by rw [e27]; decide) (by rw [e27]; rfl) (by decide) ?_
    exact lc_weightAgainst X hl hnL hRm D hW hG hi hc hs (hZ.2.2.2.2.2.2.2.2.2.2.2.2.2.2.2.2.2.2.2.2.2.2.2.2.2.2.2.2.1 (xs (i + 1))).1 (fun M' h => k9 _ _ M' (hZ.2.2.2.2.2.2.2.2.2.2.2.2.2.2.2.2.2.2.2.2.2.2.2.2.2.2.2.2.1 (xs (i + 1))).2 h)
  by_cases e28 : z = 28
  · refine g_tabIn (off := 1622) (tgt := 1666) X dL_law_44 (by rw [e28]; decide) (by rw [e28]; decide) (by rw [e28]; rfl) (by decide) ?_
    exact lc_closeReading X hl hnL hRm D hW hG hi hc hs (hZ.2.2.2.2.2.2.2.2.2.2.2.2.2.2.2.2.2.2.2.2.2.2.2.2.2.2.2.2.2.1 (xs (i + 1))).1 (fun M' h => k9 _ _ M' (hZ.2.2.2.2.2.2.2.2.2.2.2.2.2.2.2.2.2.2.2.2.2.2.2.2.2.2.2.2.2.1 (xs (i + 1))).2 h)
  by_cases e29 : z = 29
  · refine g_tabIn (off := 1685) (tgt := 1729) X dL_law_44 (by rw [e29]; decide) (by rw [e29]; decide) (by rw [e29]; rfl) (by decide) ?_
    exact lc_propose X hl hnL hRm D hW hG hi hc hs (hZ.2.2.2.2.2.2.2.2.2.2.2.2.2.2.2.2.2.2.2.2.2.2.2.2.2.2.2.2.2.2.1 (xs (i + 1)) (xs (i + 2)) (xs (i + 3))).1 (fun M' h => k9 _ _ M' (hZ.2.2.2.2.2.2.2.2.2.2.2.2.2.2.2.2.2.2.2.2.2.2.2.2.2.2.2.2.2.2.1 (xs (i + 1)) (xs (i + 2)) (xs (i + 3))).2 h)
  by_cases e30 : z = 30
  · refine g_tabIn (off := 1765) (tgt := 1809) X dL_law_44 (by rw [e30]; decide) (by rw [e30]; decide) (by rw [e30]; rfl) (by decide) ?_
    exact lc_support X hl hnL hRm D hW hG hi hc hs (hZ.2.2.2.2.2.2.2.2.2.2.2.2.2.2.2.2.2.2.2.2.2.2.2.2.2.2.2.2.2.2.2.1 (xs (i + 1)) (xs (i + 2)) (xs (i + 3))).1 (fun M' h => k9 _ _ M' (hZ.2.2.2.2.2.2.2.2.2.2.2.2.2.2.2.2.2.2.2.2.2.2.2.2.2.2.2.2.2.2.2.1 (xs (i + 1)) (xs (i + 2)) (xs (i + 3))).2 h)
  by_cases e31 : z = 31
  · refine g_tabIn (off := 1845) (tgt := 1889) X dL_law_44 (by rw [e31]; decide) (by rw [e31]; decide) (by rw [e31]; rfl) (by decide) ?_
    exact lc_decide X hl hnL hRm D hW hG hi hc hs (hZ.2.2.2.2.2.2.2.2.2.2.2.2.2.2.2.2.2.2.2.2.2.2.2.2.2.2.2.2.2.2.2.2.1 (xs (i + 1))).1 (fun M' h => k9 _ _ M' (hZ.2.2.2.2.2.2.2.2.2.2.2.2.2.2.2.2.2.2.2.2.2.2.2.2.2.2.2.2.2.2.2.2.1 (xs (i + 1))).2 h)
  by_cases e32 : z = 32
  · refine g_tabIn (off := 1908) (tgt := 1952) X dL_law_44 (by rw [e32]; decide) (by rw [e32]; decide) (by rw [e32]; rfl) (by decide) ?_
    exact lc_pendingCount X hl hnL hRm D hW hG hi hc hs (hZ.2.2.2.2.2.2.2.2.2.2.2.2.2.2.2.2.2.2.2.2.2.2.2.2.2.2.2.2.2.2.2.2.2.1 (xs (i + 1))).1 (fun M' h => k9 _ _ M' (hZ.2.2.2.2.2.2.2.2.2.2.2.2.2.2.2.2.2.2.2.2.2.2.2.2.2.2.2.2.2.2.2.2.2.1 (xs (i + 1))).2 h)
  by_cases e33 : z = 33
  · refine g_tabIn (off := 1964) (tgt := 2008) X dL_law_44 (by rw [e33]; decide) (by rw [e33]; decide) (by rw [e33]; rfl) (by decide) ?_
    exact lc_amendedClause X hl hnL hRm D hW hG hi hc hs (hZ.2.2.2.2.2.2.2.2.2.2.2.2.2.2.2.2.2.2.2.2.2.2.2.2.2.2.2.2.2.2.2.2.2.2.1 (xs (i + 1)) (xs (i + 2))).1 (fun M' h => k9 _ _ M' (hZ.2.2.2.2.2.2.2.2.2.2.2.2.2.2.2.2.2.2.2.2.2.2.2.2.2.2.2.2.2.2.2.2.2.2.1 (xs (i + 1)) (xs (i + 2))).2 h)
  by_cases e34 : z = 34
  · refine g_tabIn (off := 2032) (tgt := 2076) X dL_law_44 (by rw [e34]; decide) (by rw [e34]; decide) (by rw [e34]; rfl) (by decide) ?_
    exact lc_supportWeight X hl hnL hRm D hW hG hi hc hs (hZ.2.2.2.2.2.2.2.2.2.2.2.2.2.2.2.2.2.2.2.2.2.2.2.2.2.2.2.2.2.2.2.2.2.2.2.1 (xs (i + 1)) (xs (i + 2))).1 (fun M' h => k9 _ _ M' (hZ.2.2.2.2.2.2.2.2.2.2.2.2.2.2.2.2.2.2.2.2.2.2.2.2.2.2.2.2.2.2.2.2.2.2.2.1 (xs (i + 1)) (xs (i + 2))).2 h)
  by_cases e35 : z = 35
  · refine g_tabIn (off := 2100) (tgt := 2144) X dL_law_44 (by rw [e35]; decide) (by rw [e35]; decide) (by rw [e35]; rfl) (by decide) ?_
    exact lc_ride X hl hnL hRm D hW hG hi hc hs (hZ.2.2.2.2.2.2.2.2.2.2.2.2.2.2.2.2.2.2.2.2.2.2.2.2.2.2.2.2.2.2.2.2.2.2.2.2.1 (xs (i + 1)) (xs (i + 2)) (xs (i + 3))).1 (fun M' h => k9 _ _ M' (hZ.2.2.2.2.2.2.2.2.2.2.2.2.2.2.2.2.2.2.2.2.2.2.2.2.2.2.2.2.2.2.2.2.2.2.2.2.1 (xs (i + 1)) (xs (i + 2)) (xs (i + 3))).2 h)
  by_cases e36 : z = 36
  · refine g_tabIn (off := 2180) (tgt := 2224) X dL_law_44 (by rw [e36]; decide) (by rw [e36]; decide) (by rw [e36]; rfl) (by decide) ?_
    exact lc_delay X hl hnL hRm D hW hG hi hc hs (hZ.2.2.2.2.2.2.2.2.2.2.2.2.2.2.2.2.2.2.2.2.2.2.2.2.2.2.2.2.2.2.2.2.2.2.2.2.2.1 (xs (i + 1))).1 (fun M' h => k9 _ _ M' (hZ.2.2.2.2.2.2.2.2.2.2.2.2.2.2.2.2.2.2.2.2.2.2.2.2.2.2.2.2.2.2.2.2.2.2.2.2.2.1 (xs (i + 1))).2 h)
  by_cases e37 : z = 37
  · refine g_tabIn (off := 2236) (tgt := 2280) X dL_law_44 (by rw [e37]; decide) (by rw [e37]; decide) (by rw [e37]; rfl) (by decide) ?_
    exact lc_rust X hl hnL hRm D hW hG hi hc hs (hZ.2.2.2.2.2.2.2.2.2.2.2.2.2.2.2.2.2.2.2.2.2.2.2.2.2.2.2.2.2.2.2.2.2.2.2.2.2.2.1 (xs (i + 1))).1 (fun M' h => k9 _ _ M' (hZ.2.2.2.2.2.2.2.2.2.2.2.2.2.2.2.2.2.2.2.2.2.2.2.2.2.2.2.2.2.2.2.2.2.2.2.2.2.2.1 (xs (i + 1))).2 h)
  by_cases e38 : z = 38
  · refine g_tabIn (off := 2292) (tgt := 2336) X dL_law_44 (by rw [e38]; decide) (by rw [e38]; decide) (by rw [e38]; rfl) (by decide) ?_
    exact lc_ridesUntilFall X hl hnL hRm D hW hG hi hc hs (hZ.2.2.2.2.2.2.2.2.2.2.2.2.2.2.2.2.2.2.2.2.2.2.2.2.2.2.2.2.2.2.2.2.2.2.2.2.2.2.2.1 (xs (i + 1)) (xs (i + 2))).1 (fun M' h => k9 _ _ M' (hZ.2.2.2.2.2.2.2.2.2.2.2.2.2.2.2.2.2.2.2.2.2.2.2.2.2.2.2.2.2.2.2.2.2.2.2.2.2.2.2.1 (xs (i + 1)) (xs (i + 2))).2 h)
  by_cases e39 : z = 39
  · refine g_tabIn (off := 2360) (tgt := 2404) X dL_law_44 (by rw [e39]; decide) (by rw [e39]; decide) (by rw [e39]; rfl) (by decide) ?_
    exact lc_passedCount X hl hnL hRm D hW hG hi hc hs (hZ.2.2.2.2.2.2.2.2.2.2.2.2.2.2.2.2.2.2.2.2.2.2.2.2.2.2.2.2.2.2.2.2.2.2.2.2.2.2.2.2.1 ).1 (fun M' h => k9 _ _ M' (hZ.2.2.2.2.2.2.2.2.2.2.2.2.2.2.2.2.2.2.2.2.2.2.2.2.2.2.2.2.2.2.2.2.2.2.2.2.2.2.2.2.1 ).2 h)
  by_cases e40 : z = 40
  · refine g_tabIn (off := 2373) (tgt := 2417) X dL_law_44 (by rw [e40]; decide) (by rw [e40]; decide) (by rw [e40]; rfl) (by decide) ?_
    exact lc_fallenCount X hl hnL hRm D hW hG hi hc hs (hZ.2.2.2.2.2.2.2.2.2.2.2.2.2.2.2.2.2.2.2.2.2.2.2.2.2.2.2.2.2.2.2.2.2.2.2.2.2.2.2.2.2.1 ).1 (fun M' h => k9 _ _ M' (hZ.2.2.2.2.2.2.2.2.2.2.2.2.2.2.2.2.2.2.2.2.2.2.2.2.2.2.2.2.2.2.2.2.2.2.2.2.2.2.2.2.2.1 ).2 h)
  by_cases e41 : z = 41
  · refine g_tabIn (off := 2386) (tgt := 2430) X dL_law_44 (by rw [e41]; decide) (by rw [e41]; decide) (by rw [e41]; rfl) (by decide) ?_
    exact lc_acceptedCount X hl hnL hRm D hW hG hi hc hs (hZ.2.2.2.2.2.2.2.2.2.2.2.2.2.2.2.2.2.2.2.2.2.2.2.2.2.2.2.2.2.2.2.2.2.2.2.2.2.2.2.2.2.2.1 ).1 (fun M' h => k9 _ _ M' (hZ.2.2.2.2.2.2.2.2.2.2.2.2.2.2.2.2.2.2.2.2.2.2.2.2.2.2.2.2.2.2.2.2.2.2.2.2.2.2.2.2.2.2.1 ).2 h)
  by_cases e42 : z = 42
  · refine g_tabIn (off := 2399) (tgt := 2443) X dL_law_44 (by rw [e42]; decide) (by rw [e42]; decide) (by rw [e42]; rfl) (by decide) ?_
    exact lc_append X hl hnL hRm D hW hG hi hc hs (hZ.2.2.2.2.2.2.2.2.2.2.2.2.2.2.2.2.2.2.2.2.2.2.2.2.2.2.2.2.2.2.2.2.2.2.2.2.2.2.2.2.2.2.2.1 (xs (i + 1))).1 (fun M' h => k9 _ _ M' (hZ.2.2.2.2.2.2.2.2.2.2.2.2.2.2.2.2.2.2.2.2.2.2.2.2.2.2.2.2.2.2.2.2.2.2.2.2.2.2.2.2.2.2.2.1 (xs (i + 1))).2 h)
  by_cases e43 : z = 43
  · refine g_tabIn (off := 2457) (tgt := 2501) X dL_law_44 (by rw [e43]; decide) (by rw [e43]; decide) (by rw [e43]; rfl) (by decide) ?_
    exact lc_run X hl hnL hRm D hW hG hi hc hs (hZ.2.2.2.2.2.2.2.2.2.2.2.2.2.2.2.2.2.2.2.2.2.2.2.2.2.2.2.2.2.2.2.2.2.2.2.2.2.2.2.2.2.2.2.2.1 ).1 (fun M' h => k9 _ _ M' (hZ.2.2.2.2.2.2.2.2.2.2.2.2.2.2.2.2.2.2.2.2.2.2.2.2.2.2.2.2.2.2.2.2.2.2.2.2.2.2.2.2.2.2.2.2.1 ).2 h)
  by_cases e44 : z = 44
  · refine g_tabIn (off := 2501) (tgt := 2545) X dL_law_44 (by rw [e44]; decide) (by rw [e44]; decide) (by rw [e44]; rfl) (by decide) ?_
    exact lc_errorPosition X hl hnL hRm D hW hG hi hc hs (hZ.2.2.2.2.2.2.2.2.2.2.2.2.2.2.2.2.2.2.2.2.2.2.2.2.2.2.2.2.2.2.2.2.2.2.2.2.2.2.2.2.2.2.2.2.2.1 ).1 (fun M' h => k9 _ _ M' (hZ.2.2.2.2.2.2.2.2.2.2.2.2.2.2.2.2.2.2.2.2.2.2.2.2.2.2.2.2.2.2.2.2.2.2.2.2.2.2.2.2.2.2.2.2.2.1 ).2 h)
  by_cases e45 : z = 45
  · refine g_tabIn (off := 2545) (tgt := 2589) X dL_law_44 (by rw [e45]; decide) (by rw [e45]; decide) (by rw [e45]; rfl) (by decide) ?_
    exact lc_failedCommand X hl hnL hRm D hW hG hi hc hs (hZ.2.2.2.2.2.2.2.2.2.2.2.2.2.2.2.2.2.2.2.2.2.2.2.2.2.2.2.2.2.2.2.2.2.2.2.2.2.2.2.2.2.2.2.2.2.2.1 ).1 (fun M' h => k9 _ _ M' (hZ.2.2.2.2.2.2.2.2.2.2.2.2.2.2.2.2.2.2.2.2.2.2.2.2.2.2.2.2.2.2.2.2.2.2.2.2.2.2.2.2.2.2.2.2.2.2.1 ).2 h)
  by_cases e46 : z = 46
  · refine g_tabIn (off := 2589) (tgt := 2633) X dL_law_44 (by rw [e46]; decide) (by rw [e46]; decide) (by rw [e46]; rfl) (by decide) ?_
    exact lc_describeBill X hl hnL hRm D hW hG hi hc hs (hZ.2.2.2.2.2.2.2.2.2.2.2.2.2.2.2.2.2.2.2.2.2.2.2.2.2.2.2.2.2.2.2.2.2.2.2.2.2.2.2.2.2.2.2.2.2.2.2.1 (xs (i + 1))).1 (fun M' h => k9 _ _ M' (hZ.2.2.2.2.2.2.2.2.2.2.2.2.2.2.2.2.2.2.2.2.2.2.2.2.2.2.2.2.2.2.2.2.2.2.2.2.2.2.2.2.2.2.2.2.2.2.2.1 (xs (i + 1))).2 h)
  by_cases e47 : z = 47
  · refine g_tabIn (off := 2645) (tgt := 2689) X dL_law_44 (by rw [e47]; decide) (by rw [e47]; decide) (by rw [e47]; rfl) (by decide) ?_
    exact lc_lineAt X hl hnL hRm D hW hG hi hc hs (hZ.2.2.2.2.2.2.2.2.2.2.2.2.2.2.2.2.2.2.2.2.2.2.2.2.2.2.2.2.2.2.2.2.2.2.2.2.2.2.2.2.2.2.2.2.2.2.2.2.1 (xs (i + 1))).1 (fun M' h => k9 _ _ M' (hZ.2.2.2.2.2.2.2.2.2.2.2.2.2.2.2.2.2.2.2.2.2.2.2.2.2.2.2.2.2.2.2.2.2.2.2.2.2.2.2.2.2.2.2.2.2.2.2.2.1 (xs (i + 1))).2 h)
  by_cases e48 : z = 48
  · refine g_tabIn (off := 2701) (tgt := 2745) X dL_law_44 (by rw [e48]; decide) (by rw [e48]; decide) (by rw [e48]; rfl) (by decide) ?_
    exact lc_meanWeight X hl hnL hRm D hW hG hi hc hs (hZ.2.2.2.2.2.2.2.2.2.2.2.2.2.2.2.2.2.2.2.2.2.2.2.2.2.2.2.2.2.2.2.2.2.2.2.2.2.2.2.2.2.2.2.2.2.2.2.2.2.1 ).1 (fun M' h => k9 _ _ M' (hZ.2.2.2.2.2.2.2.2.2.2.2.2.2.2.2.2.2.2.2.2.2.2.2.2.2.2.2.2.2.2.2.2.2.2.2.2.2.2.2.2.2.2.2.2.2.2.2.2.2.1 ).2 h)
  by_cases e49 : z = 49
  · refine g_tabIn (off := 2766) (tgt := 2810) X dL_law_44 (by rw [e49]; decide) (by rw [e49]; decide) (by rw [e49]; rfl) (by decide) ?_
    exact lc_shareBits X hl hnL hRm D hW hG hi hc hs (hZ.2.2.2.2.2.2.2.2.2.2.2.2.2.2.2.2.2.2.2.2.2.2.2.2.2.2.2.2.2.2.2.2.2.2.2.2.2.2.2.2.2.2.2.2.2.2.2.2.2.2.1 (xs (i + 1))).1 (fun M' h => k9 _ _ M' (hZ.2.2.2.2.2.2.2.2.2.2.2.2.2.2.2.2.2.2.2.2.2.2.2.2.2.2.2.2.2.2.2.2.2.2.2.2.2.2.2.2.2.2.2.2.2.2.2.2.2.2.1 (xs (i + 1))).2 h)
  by_cases e50 : z = 50
  · refine g_tabIn (off := 2822) (tgt := 2866) X dL_law_44 (by rw [e50]; decide) (by rw [e50]; decide) (by rw [e50]; rfl) (by decide) ?_
    exact lc_isConsistent X hl hnL hRm D hW hG hi hc hs (hZ.2.2.2.2.2.2.2.2.2.2.2.2.2.2.2.2.2.2.2.2.2.2.2.2.2.2.2.2.2.2.2.2.2.2.2.2.2.2.2.2.2.2.2.2.2.2.2.2.2.2.2.1 ).1 (fun M' h => k9 _ _ M' (hZ.2.2.2.2.2.2.2.2.2.2.2.2.2.2.2.2.2.2.2.2.2.2.2.2.2.2.2.2.2.2.2.2.2.2.2.2.2.2.2.2.2.2.2.2.2.2.2.2.2.2.2.1 ).2 h)
  by_cases e51 : z = 51
  · refine g_tabIn (off := 2835) (tgt := 2879) X dL_law_44 (by rw [e51]; decide) (by rw [e51]; decide) (by rw [e51]; rfl) (by decide) ?_
    exact lc_undo X hl hnL hRm D hW hG hi hc hs (hZ.2.2.2.2.2.2.2.2.2.2.2.2.2.2.2.2.2.2.2.2.2.2.2.2.2.2.2.2.2.2.2.2.2.2.2.2.2.2.2.2.2.2.2.2.2.2.2.2.2.2.2.2.1 ).1 (fun M' h => k9 _ _ M' (hZ.2.2.2.2.2.2.2.2.2.2.2.2.2.2.2.2.2.2.2.2.2.2.2.2.2.2.2.2.2.2.2.2.2.2.2.2.2.2.2.2.2.2.2.2.2.2.2.2.2.2.2.2.1 ).2 h)
  by_cases e52 : z = 52
  · refine g_tabIn (off := 2879) (tgt := 2923) X dL_law_44 (by rw [e52]; decide) (by rw [e52]; decide) (by rw [e52]; rfl) (by decide) ?_
    exact lc_save X hl hnL hRm D hW hG hi hc hs (hZ.2.2.2.2.2.2.2.2.2.2.2.2.2.2.2.2.2.2.2.2.2.2.2.2.2.2.2.2.2.2.2.2.2.2.2.2.2.2.2.2.2.2.2.2.2.2.2.2.2.2.2.2.2.1 ).1 (fun M' h => k9 _ _ M' (hZ.2.2.2.2.2.2.2.2.2.2.2.2.2.2.2.2.2.2.2.2.2.2.2.2.2.2.2.2.2.2.2.2.2.2.2.2.2.2.2.2.2.2.2.2.2.2.2.2.2.2.2.2.2.1 ).2 h)
  by_cases e53 : z = 53
  · refine g_tabIn (off := 2892) (tgt := 2936) X dL_law_44 (by rw [e53]; decide) (by rw [e53]; decide) (by rw [e53]; rfl) (by decide) ?_
    exact lc_restore X hl hnL hRm D hW hG hi hc hs (hZ.2.2.2.2.2.2.2.2.2.2.2.2.2.2.2.2.2.2.2.2.2.2.2.2.2.2.2.2.2.2.2.2.2.2.2.2.2.2.2.2.2.2.2.2.2.2.2.2.2.2.2.2.2.2 ).1 (fun M' h => k9 _ _ M' (hZ.2.2.2.2.2.2.2.2.2.2.2.2.2.2.2.2.2.2.2.2.2.2.2.2.2.2.2.2.2.2.2.2.2.2.2.2.2.2.2.2.2.2.2.2.2.2.2.2.2.2.2.2.2.2 ).2 h)
  exact g_tabDef (keys := [0, 1, 2, 3, 4, 5, 6, 7, 8, 9, 10, 11, 12, 13, 14, 15, 16, 17, 18, 19, 20, 21, 22, 23, 24, 25, 26, 27, 28, 29, 30, 31, 32, 33, 34, 35, 36, 37, 38, 39, 40, 41, 42, 43, 44, 45, 46, 47, 48, 49, 50, 51, 52, 53]) (tgt := 2980) X dL_law_44 (by decide +kernel) (by decide) (nk e0 (nk e1 (nk e2 (nk e3 (nk e4 (nk e5 (nk e6 (nk e7 (nk e8 (nk e9 (nk e10 (nk e11 (nk e12 (nk e13 (nk e14 (nk e15 (nk e16 (nk e17 (nk e18 (nk e19 (nk e20 (nk e21 (nk e22 (nk e23 (nk e24 (nk e25 (nk e26 (nk e27 (nk e28 (nk e29 (nk e30 (nk e31 (nk e32 (nk e33 (nk e34 (nk e35 (nk e36 (nk e37 (nk e38 (nk e39 (nk e40 (nk e41 (nk e42 (nk e43 (nk e44 (nk e45 (nk e46 (nk e47 (nk e48 (nk e49 (nk e50 (nk e51 (nk e52 (nk e53 nk0)))))))))))))))))))))))))))))))))))))))))))))))))))))) (by decide) k0
set_option maxRecDepth 100000 in
set_option maxHeartbeats 4000000 in
theorem law_loop {κ : KT} {tab : List ExceptionTableEntry} {nm : String} {sb Ls o od c0 s0 : Nat} {xs : Nat → Int32} {A a : Nat → Nat} (X : Cx κ RL cL_law (some .boolean) tab nm) (hl : κ.l.stackTraces = false) (hnL : κ.nL = 9) (hRm : κ.R = room_1) (D : LD κ sb Ls xs A a o od) {R : PV → HV → Prop} (hSim : Simu R) (hc : c0 ≤ 500000) (hs : s0 ≤ 7000000) (fin : ∀ M cells slots L, cells ≤ 603072 → slots ≤ 7182442 → G κ M cells slots L 2986 []) :
    ∀ (n i : Nat) (w : PV) (u : HV) (M : Hp), Ls - i < n → i ≤ Ls + 3 → R w u → LW κ A a o od w u M → G κ M (c0 + i) (s0 + 5 * i) (LL sb A a o od i) 28 [] := by
  have hL : Ls ≤ 2048 := D.2.2.2.2.2
  intro n
  induction n with
  | zero => intro i w u M h; exact absurd h (Nat.not_lt_zero _)
  | succ n ih =>
    intro i w u M hn hi hR hW
    refine g_iload X dL_law_28 0 rfl ?_
    refine g_aload_n X dL_law_30 rfl 5 rfl ?_
    refine g_scrlen X D dL_law_31 ?_
    refine g_iconst (v := 4) X dL_law_32 (by decide) ?_
    refine g_isub X dL_law_33 ?_
    refine g_icmp_gt (tgt := 2986) X dL_law_34 (by decide) (fun _ => fin _ _ _ _ (by omega) (by omega)) (fun h => ?_)
    have h3 := scr_more hL (by omega) h
    refine law_step X hl hnL hRm D hSim hR hW h3 (by omega) (by omega) ?_ (fun w' u' M' hR' hW' => ?_)
    · refine g_iinc (k := 0) (v := nI (i + 4)) (L' := LL sb A a o od (i + 4)) X dL_law_2980 rfl (nI_add i 4) (by rw [hnL]; decide) rfl ?_
      refine g_goto (tgt := 28) X dL_law_2983 (by decide) ?_
      refine g_widen (k := c0 + (i + 4)) (n := s0 + 5 * (i + 4)) (by omega) (by omega) ?_
      exact ih (i + 4) w u M (by omega) (by omega) hR hW
    · refine g_iinc (k := 0) (v := nI (i + 4)) (L' := LL sb A a o od (i + 4)) X dL_law_2980 rfl (nI_add i 4) (by rw [hnL]; decide) rfl ?_
      refine g_goto (tgt := 28) X dL_law_2983 (by decide) ?_
      refine g_widen (k := c0 + (i + 4)) (n := s0 + 5 * (i + 4)) (by omega) (by omega) ?_
      exact ih (i + 4) w' u' M' (by omega) (by omega) hR' hW'
