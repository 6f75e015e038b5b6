theorem pG_s {ok : Prop} {e : String} {w : PV} {k : Res × PV} (h : k.2 = w) : (pG ok e w k).2 = w := by
  by_cases c : ok
  · rw [pG_y c]; exact h
  · rw [pG_n c]
theorem wI_y {ok : Prop} {e : String} {w : PV} {d v : Int32} (h : ok) : wI d (pG ok e w (rI v, w)).1 = v := by rw [pG_y h]; rfl
theorem wI_n {ok : Prop} {e : String} {w : PV} {d : Int32} {k : Res × PV} (h : ¬ ok) : wI d (pG ok e w k).1 = d := by rw [pG_n h]; rfl
theorem s_amendedClause {w : PV} (b x : Int32) : (pAmendedClause w b x).2 = w := pG_s (rfl)
theorem c_L_amendedClause' (l : Launch) (hl : l.stackTraces = false) (Γ : Gm) (M : Hp) (A : Nat → Nat) (w : PV) (hB : BRep Γ A w M) (hI : BInv w) (b : Int32) (x : Int32) (hx : WIn [eIdx, eEle] isI (pAmendedClause w b x).1) : CtW l Γ yL_amendedClause cL_amendedClause 5 (some .int) [(4, 11, 14, 17), (4, 11, 20, 42)] 4 3 18 [.ref (A 313), .int b, .int x] M (BMu Γ A (rI (wI (-1000) (pAmendedClause w b x).1), w) M) := by
  have h := c_L_amendedClause l hl Γ M A w hB hI b x hx
  rw [s_amendedClause] at h
  exact h
theorem s_billAtRank {w : PV} (r : Int32) : (pBillAtRank w r).2 = w := pG_s (rfl)
theorem c_L_billAtRank' (l : Launch) (hl : l.stackTraces = false) (Γ : Gm) (M : Hp) (A : Nat → Nat) (w : PV) (hB : BRep Γ A w M) (hI : BInv w) (r : Int32) (hx : WIn [eEle] isI (pBillAtRank w r).1) : CtW l Γ yL_billAtRank cL_billAtRank 4 (some .int) [(4, 10, 13, 42)] 4 3 18 [.ref (A 313), .int r] M (BMu Γ A (rI (wI (-1000) (pBillAtRank w r).1), w) M) := by
  have h := c_L_billAtRank l hl Γ M A w hB hI r hx
  rw [s_billAtRank] at h
  exact h
theorem s_failedCommand {w : PV} : (pFailedCommand w).2 = w := pG_s (rfl)
theorem c_L_failedCommand' (l : Launch) (hl : l.stackTraces = false) (Γ : Gm) (M : Hp) (A : Nat → Nat) (w : PV) (hB : BRep Γ A w M) (hI : BInv w)  (hx : WIn [eEle] isI (pFailedCommand w).1) : CtW l Γ yL_failedCommand cL_failedCommand 3 (some .int) [(4, 9, 12, 42)] 1 3 18 [.ref (A 313)] M (BMu Γ A (rI (wI (-1000) (pFailedCommand w).1), w) M) := by
  have h := c_L_failedCommand l hl Γ M A w hB hI  hx
  rw [s_failedCommand] at h
  exact h
theorem s_meanWeight {w : PV} : (pMeanWeight w).2 = w := pG_s (rfl)
theorem c_L_meanWeight' (l : Launch) (hl : l.stackTraces = false) (Γ : Gm) (M : Hp) (A : Nat → Nat) (w : PV) (hB : BRep Γ A w M) (hI : BInv w) (hm : ¬ (w.1 0).1 0 = 0 → MwOK (w.1 0)) (hx : WIn [eAri] isD (pMeanWeight w).1) : CtW l Γ yL_meanWeight cL_meanWeight 4 (some .double) [(4, 9, 12, 81)] 2 3 18 [.ref (A 313)] M (BMu Γ A (rD (wD 13830554455654793216 (pMeanWeight w).1), w) M) := by
  have h := c_L_meanWeight l hl Γ M A w hB hI hm hx
  rw [s_meanWeight] at h
  exact h
theorem s_ridesUntilFall {w : PV} (b n : Int32) : (pRidesUntilFall w b n).2 = w := pG_s (pG_s (pG_s (rfl)))
theorem c_L_ridesUntilFall' (l : Launch) (hl : l.stackTraces = false) (Γ : Gm) (M : Hp) (A : Nat → Nat) (w : PV) (hB : BRep Γ A w M) (hI : BInv w) (b : Int32) (n : Int32) (hx : WIn [eIdx, eArg, eSta] isI (pRidesUntilFall w b n).1) : CtW l Γ yL_ridesUntilFall cL_ridesUntilFall 5 (some .int) [(4, 11, 14, 17), (4, 11, 20, 19), (4, 11, 26, 21)] 3 3 18 [.ref (A 313), .int b, .int n] M (BMu Γ A (rI (wI (-1000) (pRidesUntilFall w b n).1), w) M) := by
  have h := c_L_ridesUntilFall l hl Γ M A w hB hI b n hx
  rw [s_ridesUntilFall] at h
  exact h
theorem s_shareBits {w : PV} (b : Int32) : (pShareBits w b).2 = w := pG_s (pG_s (rfl))
theorem c_L_shareBits' (l : Launch) (hl : l.stackTraces = false) (Γ : Gm) (M : Hp) (A : Nat → Nat) (w : PV) (hB : BRep Γ A w M) (hI : BInv w) (b : Int32) (hw : hasB (w.1 0) b → ¬ shB (w.1 0) b = 0 → ShF (w.1 0) b) (hx : WIn [eIdx, eAri] isI (pShareBits w b).1) : CtW l Γ yL_shareBits cL_shareBits 4 (some .int) [(4, 10, 13, 17), (4, 10, 18, 81)] 3 3 18 [.ref (A 313), .int b] M (BMu Γ A (rI (wI (-1000) (pShareBits w b).1), w) M) := by
  have h := c_L_shareBits l hl Γ M A w hB hI b hw hx
  rw [s_shareBits] at h
  exact h
