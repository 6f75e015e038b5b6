/-! ===== what holds of every House beside its picture: nobody present who isn't a member; a closed bill has no votes and nothing pending; three readings where it passed ===== -/
def XB (h : HV) (b : Nat) : Prop := (¬ h.2.1 3 b = 0 → h.2.1 6 b = 0 ∧ h.2.1 7 b = 0 ∧ h.2.1 8 b = 0) ∧ (h.2.1 3 b = 1 → h.2.1 4 b = 3) ∧ (h.2.1 3 b = 2 → ¬ h.2.1 4 b = 3)
def XK (h : HV) : Prop := (∀ k, cN (h.1 0) ≤ k → k < 32 → bt (h.1 1) k = false) ∧ (∀ b, b < 8 → XB h b) ∧ 0 ≤ h.1 2
theorem XB.opn {h : HV} {b : Nat} (e : h.2.1 3 b = 0) : XB h b := ⟨fun z => absurd e z, fun z => absurd (e.symm.trans z) (by decide), fun z => absurd (e.symm.trans z) (by decide)⟩
theorem XB.same {h h' : HV} {b : Nat} (x : XB h b) (e : ∀ k, 3 ≤ k → k ≤ 8 → h'.2.1 k b = h.2.1 k b) : XB h' b := by
  unfold XB
  rw [e 3 (by decide) (by decide), e 4 (by decide) (by decide), e 6 (by decide) (by decide), e 7 (by decide) (by decide), e 8 (by decide) (by decide)]
  exact x
theorem XK.bill {h h' : HV} {b : Nat} {r : Nat → Int32} (x : XK h) (o : OffB b h h' r r) (hb : XB h' b) : XK h' := by
  refine ⟨fun k h1 h2 => ?_, fun c hc => ?_, by rw [o.1 2 (by decide)]; exact x.2.2⟩
  · rw [o.1 1 (by decide)]
    rw [o.1 0 (by decide)] at h1
    exact x.1 k h1 h2
  · by_cases e : c = b
    · subst e; exact hb
    · exact (x.2.1 c hc).same fun k h1 h2 => o.2.2.1 k h1 h2 c e
theorem HX.row {h : HV} (q : HX h) : ∃ (m n : Nat) (u : HV), HSn m n h (u.2.1 1) := by
  obtain ⟨r, m, n, q⟩ := q
  exact ⟨m, n, har mZ 1 r, by rw [har_s]; exact q⟩
theorem ite_0 {c : Prop} [Decidable c] {k f : Int32} (hk : ¬ k = 0) (h : (if c then k else f) = 0) : ¬ c ∧ f = 0 := by
  by_cases q : c
  · rw [if_pos q] at h; exact absurd h hk
  · rw [if_neg q] at h; exact ⟨q, h⟩
theorem ite_1 {c : Prop} [Decidable c] {k f : Int32} (hk : ¬ k = 0) (h : (if c then f else k) = 0) : c ∧ f = 0 := by
  by_cases q : c
  · rw [if_pos q] at h; exact ⟨q, h⟩
  · rw [if_neg q] at h; exact absurd h hk
theorem nor {p q : Prop} (h : ¬ (¬ p ∨ ¬ q)) : p ∧ q := ⟨Classical.not_not.mp fun z => h (Or.inl z), Classical.not_not.mp fun z => h (Or.inr z)⟩
theorem nor3 {p q r : Prop} (h : ¬ (¬ p ∨ ¬ q ∨ ¬ r)) : p ∧ q ∧ r := ⟨Classical.not_not.mp fun z => h (Or.inl z), Classical.not_not.mp fun z => h (Or.inr (Or.inl z)), Classical.not_not.mp fun z => h (Or.inr (Or.inr z))⟩
theorem fAdmit_0 {h : HV} {a b : Int32} (f : fAdmit h a b = 0) : ¬ 24 ≤ h.1 0 := (ite_0 (by decide) (ite_0 (by decide) (ite_0 (by decide) f).2).2).1
theorem fComeIn_0 {h : HV} {x : Int32} (f : fComeIn h x = 0) : hasM h x := Classical.not_not.mp (ite_0 (by decide) f).1
theorem fVote_0 {h : HV} {b x : Int32} (f : fVote h b x = 0) : hasB h b ∧ h.2.1 3 (cN b) = 0 := by
  obtain ⟨c1, f⟩ := ite_0 (by decide) f
  obtain ⟨c2, f⟩ := ite_0 (by decide) f
  exact ⟨(nor c1).1, Classical.not_not.mp c2⟩
theorem fEnd_0 {h : HV} {b : Int32} (f : fEnd h b = 0) : hasB h b ∧ h.2.1 3 (cN b) = 0 ∧ hQuor h ∧ h.2.1 8 (cN b) = 0 := by
  obtain ⟨c1, f⟩ := ite_0 (by decide) f
  obtain ⟨c2, f⟩ := ite_0 (by decide) f
  obtain ⟨c3, f⟩ := ite_1 (by decide) f
  exact ⟨Classical.not_not.mp c1, Classical.not_not.mp c2, c3⟩
theorem fMove_0 {h : HV} {b x c : Int32} (f : fMove h b x c = 0) : hasB h b ∧ isC c ∧ h.2.1 3 (cN b) = 0 ∧ ¬ 4 ≤ h.2.1 8 (cN b) := by
  obtain ⟨c1, f⟩ := ite_0 (by decide) f
  obtain ⟨c2, f⟩ := ite_0 (by decide) f
  obtain ⟨a1, -, a3⟩ := nor3 c1
  exact ⟨a1, a3, Classical.not_not.mp fun z => c2 (Or.inl z), fun z => c2 (Or.inr z)⟩
theorem fSecond_0 {h : HV} {b p x : Int32} (f : fSecond h b p x = 0) : hasB h b ∧ h.2.1 3 (cN b) = 0 ∧ hasP h b p := by
  obtain ⟨c1, f⟩ := ite_0 (by decide) f
  obtain ⟨c2, f⟩ := ite_0 (by decide) f
  obtain ⟨c3, f⟩ := ite_0 (by decide) f
  exact ⟨(nor c1).1, Classical.not_not.mp c2, Classical.not_not.mp c3⟩
theorem fDecide_0 {h : HV} {b : Int32} (f : fDecide h b = 0) : hasB h b ∧ h.2.1 3 (cN b) = 0 ∧ ¬ h.2.1 8 (cN b) = 0 ∧ hQuor h := by
  obtain ⟨c1, f⟩ := ite_0 (by decide) f
  obtain ⟨c2, f⟩ := ite_0 (by decide) f
  obtain ⟨c3, f⟩ := ite_0 (by decide) f
  obtain ⟨c4, f⟩ := ite_1 (by decide) f
  exact ⟨Classical.not_not.mp c1, Classical.not_not.mp c2, c3, c4⟩
theorem fHold_0 {h : HV} {x b n : Int32} (f : fHold h x b n = 0) : hasB h b ∧ ¬ (n < 1 ∨ 30 < n) ∧ h.2.1 3 (cN b) = 0 := by
  obtain ⟨c1, f⟩ := ite_0 (by decide) f
  obtain ⟨c2, f⟩ := ite_0 (by decide) f
  obtain ⟨c3, f⟩ := ite_0 (by decide) f
  exact ⟨(nor c1).2, c2, Classical.not_not.mp c3⟩
/-! each change keeps it -/
theorem xk_admit {h : HV} (q : HX h) (x : XK h) {a b : Int32} (f : fAdmit h a b = 0) : XK (aAdmit h a b) := by
  obtain ⟨m, n, u, q⟩ := q.row
  have hm := q.1.1
  have e0 : h.1 0 = nI m := q.2.1.1
  have e1 : (aAdmit h a b).1 0 = nI (m + 1) := by
    show h.1 0 + 1 = _
    rw [e0]; exact nI_1 m
  refine ⟨fun k h1 h2 => x.1 k ?_ h2, fun b' hb => (x.2.1 b' hb).same fun k h1 h2 => ?_, x.2.2⟩
  · rw [e1, cN_nI (by omega)] at h1
    rw [e0, cN_nI (by omega)]; omega
  · show (hset (hset h 1 _ a) 2 _ b).2.1 k b' = _
    rw [hset_n (by omega), hset_n (by omega)]
theorem xk_in {h : HV} (q : HX h) (x : XK h) {y : Int32} (f : fComeIn h y = 0) : XK (aComeIn h y) := by
  obtain ⟨m, n, u, q⟩ := q.row
  obtain ⟨k0, hk0, hk1, rfl⟩ := q.mem (fComeIn_0 f)
  have hm := q.1.1
  have e0 : h.1 0 = nI m := q.2.1.1
  refine ⟨fun k h1 h2 => ?_, fun b' hb => (x.2.1 b' hb).same fun k h1 h2 => rfl, x.2.2⟩
  have h3 : cN (h.1 0) ≤ k := h1
  show bt (h.1 1 ||| shl 1 (nI k0)) k = false
  rw [b_or, x.1 k h3 h2, b_sh1 (by omega) h2]
  rw [e0, cN_nI (by omega)] at h3
  rw [decide_eq_false (by omega)]; rfl
theorem xk_out {h : HV} (x : XK h) {y : Int32} : XK (aGoOut h y) := by
  refine ⟨fun k h1 h2 => ?_, fun b' hb => (x.2.1 b' hb).same fun k h1 h2 => rfl, x.2.2⟩
  show bt (h.1 1 &&& _) k = false
  rw [b_and, x.1 k h1 h2]; rfl
theorem xk_quor {h : HV} (x : XK h) {y : Int32} (f : fQuorum y = 0) : XK (aQuorum h y) := by
  refine ⟨fun k h1 h2 => x.1 k h1 h2, fun b' hb => (x.2.1 b' hb).same fun k h1 h2 => rfl, ?_⟩
  obtain ⟨c, -⟩ := ite_0 (by decide) f
  show 0 ≤ y
  have c1 := Int32.not_lt.mp fun z => c (Or.inl z)
  have e0 : (0 : Int32).toInt = 0 := rfl
  have e1 : (1 : Int32).toInt = 1 := rfl
  have := Int32.le_iff_toInt_le.mp c1
  exact Int32.le_iff_toInt_le.mpr (by omega)
theorem xk_bring {h : HV} (x : XK h) {y z : Int32} : XK (aBring h y z) := ⟨fun k h1 h2 => x.1 k h1 h2, fun b' hb => (x.2.1 b' hb).same fun k h1 h2 => rfl, x.2.2⟩
theorem hx_b {h : HV} (q : HX h) {b : Int32} (c : hasB h b) : ∃ k, k < 8 ∧ b = nI k := by
  obtain ⟨m, n, u, q⟩ := q.row
  obtain ⟨k, -, hk, e⟩ := q.bil c
  exact ⟨k, hk, e⟩
theorem xk_for {h : HV} (q : HX h) (x : XK h) {b y : Int32} (f : fVote h b y = 0) : XK (aFor h b y) := by
  obtain ⟨c, s0⟩ := fVote_0 f
  obtain ⟨k, hk, rfl⟩ := hx_b q c
  rw [cN_nI (by omega)] at s0
  rw [aFor_e hk]
  exact x.bill (r := fun _ => 0) ((OffB.rf.set (by decide)).set (by decide)) (XB.opn (by rw [hset_n (by decide), hset_n (by decide)]; exact s0))
theorem xk_against {h : HV} (q : HX h) (x : XK h) {b y : Int32} (f : fVote h b y = 0) : XK (aAgainst h b y) := by
  obtain ⟨c, s0⟩ := fVote_0 f
  obtain ⟨k, hk, rfl⟩ := hx_b q c
  rw [cN_nI (by omega)] at s0
  rw [aAgainst_e hk]
  exact x.bill (r := fun _ => 0) ((OffB.rf.set (by decide)).set (by decide)) (XB.opn (by rw [hset_n (by decide), hset_n (by decide)]; exact s0))
theorem xk_fin {h h1 : HV} {b : Nat} {s : Int32} {r : Nat → Int32} (x : XK h) (hb : b < 8) (o : OffB b h h1 r r) (hs : s = 1 ∧ h1.2.1 4 b = 3 ∨ s = 2 ∧ ¬ h1.2.1 4 b = 3) : XK (aFinish h1 (nI b) s) := by
  rw [aFinish_e hb]
  refine x.bill (r := r) (b := b) ((((o.set (by decide)).set (by decide)).set (by decide)).set (by decide)) ?_
  have e3 : (hset (hset (hset (hset h1 3 b s) 6 b 0) 7 b 0) 8 b 0).2.1 3 b = s := by rw [hset_n (by decide), hset_n (by decide), hset_n (by decide), hset_s, upd_s]
  have e4 : (hset (hset (hset (hset h1 3 b s) 6 b 0) 7 b 0) 8 b 0).2.1 4 b = h1.2.1 4 b := by rw [hset_n (by decide), hset_n (by decide), hset_n (by decide), hset_n (by decide)]
  have e6 : (hset (hset (hset (hset h1 3 b s) 6 b 0) 7 b 0) 8 b 0).2.1 6 b = 0 := by rw [hset_n (by decide), hset_n (by decide), hset_s, upd_s]
  have e7 : (hset (hset (hset (hset h1 3 b s) 6 b 0) 7 b 0) 8 b 0).2.1 7 b = 0 := by rw [hset_n (by decide), hset_s, upd_s]
  have e8 : (hset (hset (hset (hset h1 3 b s) 6 b 0) 7 b 0) 8 b 0).2.1 8 b = 0 := by rw [hset_s, upd_s]
  unfold XB
  rw [e3, e4, e6, e7, e8]
  refine ⟨fun _ => ⟨rfl, rfl, rfl⟩, fun z => ?_, fun z => ?_⟩
  · rcases hs with ⟨-, k⟩ | ⟨rfl, -⟩
    · exact k
    · exact absurd z (by decide)
  · rcases hs with ⟨rfl, -⟩ | ⟨-, k⟩
    · exact absurd z (by decide)
    · exact k
theorem opn_g {h : HV} (q : HX h) {b : Nat} (hb : b < 8) (s0 : h.2.1 3 b = 0) : ∃ g, g ≤ 2 ∧ h.2.1 4 b = nI g := by
  obtain ⟨m, n, u, q⟩ := q.row
  obtain ⟨-, -, -, -, ⟨g, -, eg, hg⟩, -⟩ := q.bl hb
  exact ⟨g, hg s0, eg⟩
theorem n3_ne : ∀ g, g ≤ 2 → ¬ nI g = 3 := by decide
theorem xk_end {h : HV} (q : HX h) (x : XK h) {b : Int32} (f : fEnd h b = 0) : XK (aEnd h b) := by
  obtain ⟨c, s0, -, -⟩ := fEnd_0 f
  obtain ⟨k, hk, rfl⟩ := hx_b q c
  rw [cN_nI (by omega)] at s0
  obtain ⟨g, hg, eg⟩ := opn_g q hk s0
  have ec : cN (nI k) = k := cN_nI (by omega)
  have o0 : OffB k h (aEnd0 h (nI k)) (fun _ => 0) (fun _ => 0) := by
    unfold aEnd0; rw [ec]; exact (OffB.rf.set (by decide)).set (by decide)
  have g0 : (aEnd0 h (nI k)).2.1 4 k = nI g := by
    unfold aEnd0; rw [ec, hset_n (by decide), hset_n (by decide)]; exact eg
  have t0 : (aEnd0 h (nI k)).2.1 3 k = 0 := by
    unfold aEnd0; rw [ec, hset_n (by decide), hset_n (by decide)]; exact s0
  have o1 : OffB k h (aEnd1 h (nI k)) (fun _ => 0) (fun _ => 0) := by
    unfold aEnd1; rw [ec]; exact o0.set (by decide)
  have g1 : (aEnd1 h (nI k)).2.1 4 k = nI (g + 1) := by
    unfold aEnd1; rw [ec, hset_s, upd_s, g0]; exact nI_1 g
  have t1 : (aEnd1 h (nI k)).2.1 3 k = 0 := by
    unfold aEnd1; rw [ec, hset_n (by decide)]; exact t0
  unfold aEnd
  split
  · exact xk_fin x hk o0 (Or.inr ⟨rfl, by rw [g0]; exact n3_ne g hg⟩)
  · split
    · exact x.bill o1 (XB.opn t1)
    · rename_i c3
      refine xk_fin x hk o1 (Or.inl ⟨rfl, ?_⟩)
      rw [ec, g1] at c3
      rw [g1]
      have : ¬ g + 1 < 3 := fun z => c3 ((nI_ltI (b := 3) (by omega) (by decide)).mpr z)
      rw [show g + 1 = 3 by omega]; rfl
theorem xk_move {h : HV} (q : HX h) (x : XK h) {b y c : Int32} (f : fMove h b y c = 0) : XK (aMove h b y c) := by
  obtain ⟨c1, -, s0, -⟩ := fMove_0 f
  obtain ⟨k, hk, rfl⟩ := hx_b q c1
  rw [cN_nI (by omega)] at s0
  obtain ⟨m, n, u, q⟩ := q.row
  obtain ⟨-, -, ⟨p, hp, ep, -⟩, -⟩ := q.bl hk
  rw [aMove_e hk (by omega) ep]
  exact x.bill (r := fun _ => 0) (((OffB.rf.seta hk).sets hk).set (by decide)) (XB.opn (by rw [hset_n (by decide), hset_n (by omega), hset_n (by omega)]; exact s0))
theorem xk_second {h : HV} (q : HX h) (x : XK h) {b p y : Int32} (f : fSecond h b p y = 0) : XK (aSecond h b p y) := by
  obtain ⟨c1, s0, -⟩ := fSecond_0 f
  obtain ⟨k, hk, rfl⟩ := hx_b q c1
  rw [cN_nI (by omega)] at s0
  unfold aSecond
  rw [cN_nI (by omega)]
  exact x.bill (r := fun _ => 0) (OffB.rf.sets hk) (XB.opn (by rw [hset_n (by omega)]; exact s0))
theorem xk_decide {h : HV} (q : HX h) (x : XK h) {b : Int32} (f : fDecide h b = 0) : XK (aDecide h b) := by
  obtain ⟨c1, s0, -, -⟩ := fDecide_0 f
  obtain ⟨k, hk, rfl⟩ := hx_b q c1
  rw [cN_nI (by omega)] at s0
  have ec : cN (nI k) = k := cN_nI (by omega)
  have o1 : ∀ v : HV, OffB k h v (fun _ => 0) (fun _ => 0) → OffB k h (aDec1 v (nI k)) (fun _ => 0) (fun _ => 0) := fun v o => by
    unfold aDec1; rw [ec]; exact o.set (by decide)
  have o0 : OffB k h (aDec0 h (nI k)) (fun _ => 0) (fun _ => 0) := by
    unfold aDec0; rw [ec]; exact OffB.rf.clx.sc4
  have t : ∀ v : HV, v.2.1 3 k = 0 → (aShift (aDec1 v (nI k)) (nI k) 3).2.1 3 k = 0 := fun v hv => by
    rw [(aShift_o hk 3).2.2 3 (by omega) (by omega)]
    unfold aDec1; rw [ec, hset_n (by decide)]; exact hv
  unfold aDecide
  split
  · exact x.bill (aShift_off hk (o1 _ o0) 3) (XB.opn (t _ s0))
  · exact x.bill (aShift_off hk (o1 _ OffB.rf) 3) (XB.opn (t _ s0))
theorem xk_hold {h : HV} (q : HX h) (x : XK h) {y b n : Int32} (f : fHold h y b n = 0) : XK (aHold h b n) := by
  obtain ⟨c1, -, s0⟩ := fHold_0 f
  obtain ⟨k, hk, rfl⟩ := hx_b q c1
  rw [cN_nI (by omega)] at s0
  obtain ⟨g, hg, eg⟩ := opn_g q hk s0
  have ec : cN (nI k) = k := cN_nI (by omega)
  have o0 : OffB k h (aHold0 h (nI k) n) (fun _ => 0) (fun _ => 0) := by
    unfold aHold0; rw [ec]; exact OffB.rf.set (by decide)
  unfold aHold
  split
  · exact x.bill o0 (XB.opn (by unfold aHold0; rw [ec, hset_n (by decide)]; exact s0))
  · refine xk_fin x hk o0 (Or.inr ⟨rfl, ?_⟩)
    unfold aHold0; rw [ec, hset_n (by decide), eg]; exact n3_ne g hg
/-! both together, command by command -/
theorem hx_of {cs : List String} {f a : Int32} {h' u : HV} {y : Res × HV} (c : ChOK cs f h' a u y) (f0 : f = 0) : HX h' := by
  rcases c with ⟨-, v, -, -, hs⟩ | ⟨hf, -⟩
  · exact ⟨_, hs⟩
  · exact absurd (ok0_0 f0) hf
theorem yk_do {h : HV} (q : HX h) (x : XK h) {k a b c : Int32} (h0 : cFault h k a b c = 0) : HX (cDo h k a b c) ∧ XK (cDo h k a b c) := by
  obtain ⟨m, n, u, q2⟩ := q.row
  unfold cDo
  unfold cFault at h0
  split
  · rename_i e; rw [if_pos e] at h0; exact ⟨hx_of (ch_addMember q2 a b) h0, xk_admit q x h0⟩
  rename_i e; rw [if_neg e] at h0; clear e
  split
  · rename_i e; rw [if_pos e] at h0; exact ⟨hx_of (ch_enter q2 a) h0, xk_in q x h0⟩
  rename_i e; rw [if_neg e] at h0; clear e
  split
  · rename_i e; rw [if_pos e] at h0; exact ⟨hx_of (ch_leave q2 a) h0, xk_out x⟩
  rename_i e; rw [if_neg e] at h0; clear e
  split
  · rename_i e; rw [if_pos e] at h0; exact ⟨hx_of (ch_setQuorum q2 a) h0, xk_quor x h0⟩
  rename_i e; rw [if_neg e] at h0; clear e
  split
  · rename_i e; rw [if_pos e] at h0; exact ⟨hx_of (ch_introduce q2 a b c) h0, xk_bring x⟩
  rename_i e; rw [if_neg e] at h0; clear e
  split
  · rename_i e; rw [if_pos e] at h0; exact ⟨hx_of (ch_voteFor q2 a b) h0, xk_for q x h0⟩
  rename_i e; rw [if_neg e] at h0; clear e
  split
  · rename_i e; rw [if_pos e] at h0; exact ⟨hx_of (ch_voteAgainst q2 a b) h0, xk_against q x h0⟩
  rename_i e; rw [if_neg e] at h0; clear e
  split
  · rename_i e; rw [if_pos e] at h0; exact ⟨hx_of (ch_closeReading q2 a) h0, xk_end q x h0⟩
  rename_i e; rw [if_neg e] at h0; clear e
  split
  · rename_i e; rw [if_pos e] at h0; exact ⟨hx_of (ch_propose q2 a b c) h0, xk_move q x h0⟩
  rename_i e; rw [if_neg e] at h0; clear e
  split
  · rename_i e; rw [if_pos e] at h0; exact ⟨hx_of (ch_support q2 a b c) h0, xk_second q x h0⟩
  rename_i e; rw [if_neg e] at h0; clear e
  split
  · rename_i e; rw [if_pos e] at h0; exact ⟨hx_of (ch_decide q2 a) h0, xk_decide q x h0⟩
  · rename_i e; rw [if_neg e] at h0; exact ⟨hx_of (ch_ride q2 a b c) h0, xk_hold q x h0⟩
theorem yk_co : ∀ (k j : Nat) {h T : HV}, HX h → XK h → XK (coS k j h T).2.1
  | 0, _, _, _, _, x => x
  | k + 1, j, h, T, q, x => by
    by_cases c : cF h (tSign (tCmd T) 59) = 0
    · rw [coS_y c]
      obtain ⟨q1, x1⟩ := yk_do q x c
      exact yk_co k (j + 1) q1 x1
    · rw [coS_n c]; exact x
