/-! ===== history: the House k changes back ===== -/
def Dp (k : Nat) (v : PV) (u : HV) : Prop := (k = 0 ∧ v.1 0 = u) ∨ (0 < k ∧ ∃ K N : Nat, K ≤ 8 ∧ N < 8 ∧ v.2.2.2.2 2 = nI K ∧ v.2.2.2.2 1 = nI N ∧ k ≤ K ∧ v.2.1 ((N + 8 - k) % 8) = u)
theorem wRem_2 {v : PV} {x : HV} : (wRem v x).2.2.2.2 2 = (if (8 : Int32) < v.2.2.2.2 2 + 1 then 8 else v.2.2.2.2 2 + 1) := rfl
theorem wRem_1 {v : PV} {x : HV} : (wRem v x).2.2.2.2 1 = (if v.2.2.2.2 1 = 7 then 0 else v.2.2.2.2 1 + 1) := rfl
theorem Dp.rem {k : Nat} {v : PV} {u x : HV} (hr : ∃ K N : Nat, K ≤ 8 ∧ N < 8 ∧ v.2.2.2.2 2 = nI K ∧ v.2.2.2.2 1 = nI N) (hk : k < 8) (hx : k = 0 → x = u) (d : k = 0 ∨ Dp k v u) : Dp (k + 1) (wRem v x) u := by
  obtain ⟨K, N, hK, hN, eK, eN⟩ := hr
  have ecN : cN (v.2.2.2.2 1) = N := by rw [eN, cN_nI (by omega)]
  have e2 : (wRem v x).2.2.2.2 2 = nI (if K = 8 then 8 else K + 1) := by
    rw [wRem_2, eK, nI_1]
    by_cases c : K = 8
    · subst c; rw [if_pos (by decide), if_pos rfl]; rfl
    · rw [if_neg (fun e => by have := (nI_ltI (a := 8) (by decide) (by omega)).mp e; omega), if_neg c]
  have e1 : (wRem v x).2.2.2.2 1 = nI ((N + 1) % 8) := by
    rw [wRem_1, eN, nI_1]
    by_cases c : N = 7
    · subst c; rfl
    · rw [if_neg (show ¬ nI N = (7 : Int32) from fun e => c ((nI_eq (b := 7) (by omega) (by decide)).mp e)), Nat.mod_eq_of_lt (by omega)]
  have es : ∀ j, (wRem v x).2.1 j = if j = N then x else v.2.1 j := fun j => by
    show (if j = cN (v.2.2.2.2 1) then x else v.2.1 j) = _
    rw [ecN]
  refine Or.inr ⟨by omega, _, _, ?_, ?_, e2, e1, ?_, ?_⟩
  · split <;> omega
  · omega
  · rcases d with rfl | ⟨rfl, -⟩ | ⟨h0, K', N', hK', hN', eK', eN', hkK, -⟩
    · split <;> omega
    · split <;> omega
    · have : K' = K := (nI_eq (by omega) (by omega)).mp (eK'.symm.trans eK)
      split <;> omega
  · rw [es]
    have ei : ((N + 1) % 8 + 8 - (k + 1)) % 8 = (N + 8 - k) % 8 := by omega
    rw [ei]
    by_cases c : k = 0
    · subst c
      rw [show (N + 8 - 0) % 8 = N by omega, if_pos rfl]
      exact hx rfl
    · rw [if_neg (by omega)]
      rcases d with d | ⟨d, -⟩ | ⟨h0, K', N', hK', hN', eK', eN', hkK, e⟩
      · exact absurd d c
      · exact absurd d c
      · have : N' = N := (nI_eq (by omega) (by omega)).mp (eN'.symm.trans eN)
        subst this; exact e
theorem Dp.push {k : Nat} {v : PV} {u h' : HV} (hr : ∃ K N : Nat, K ≤ 8 ∧ N < 8 ∧ v.2.2.2.2 2 = nI K ∧ v.2.2.2.2 1 = nI N) (hk : k < 8) (d : Dp k v u) : Dp (k + 1) (wH (wRem v (v.1 0)) 0 h') u := by
  have h := Dp.rem (x := v.1 0) hr hk (fun z => by
    rcases d with ⟨-, e⟩ | ⟨h0, -⟩
    · exact e
    · omega) (Or.inr d)
  rcases h with ⟨z, -⟩ | h
  · omega
  · exact Or.inr h
theorem Dp.line {k : Nat} {v : PV} {u Z : HV} (d : Dp k v u) : Dp k (wL v Z) u := d
theorem Dp.zero {v : PV} {u : HV} (d : Dp 0 v u) : v.1 0 = u := by
  rcases d with ⟨-, e⟩ | ⟨h0, -⟩
  · exact e
  · omega
theorem Dp.undo {k : Nat} {v : PV} {u : HV} (d : Dp (k + 1) v u) : pUndo v = (rI (v.2.2.2.2 2 - 1), wUndo v) ∧ 0 ≤ v.2.2.2.2 2 - 1 ∧ Dp k (wUndo v) u := by
  rcases d with ⟨z, -⟩ | ⟨h0, K, N, hK, hN, eK, eN, hkK, e⟩
  · omega
  have hK1 : 1 ≤ K := by omega
  have c : ¬ v.2.2.2.2 2 = 0 := fun z => by rw [eK] at z; have := (nI_z (by omega)).mp z; omega
  refine ⟨pG_y c, by rw [eK, nI_sub1 hK1]; exact nneg (by omega), ?_⟩
  have en : cN (nxU (v.2.2.2.2 1)) = (N + 7) % 8 := by rw [eN, nxU_nI hN, cN_nI (by omega)]
  by_cases ck : k = 0
  · refine Or.inl ⟨ck, ?_⟩
    show v.2.1 (cN (nxU (v.2.2.2.2 1))) = u
    rw [en, show (N + 7) % 8 = (N + 8 - (k + 1)) % 8 by subst ck; omega]; exact e
  · refine Or.inr ⟨by omega, K - 1, (N + 7) % 8, by omega, by omega, ?_, ?_, by omega, ?_⟩
    · show v.2.2.2.2 2 - 1 = _
      rw [eK, nI_sub1 hK1]
    · show nxU (v.2.2.2.2 1) = _
      rw [eN, nxU_nI hN]
    · show v.2.1 _ = u
      rw [show ((N + 7) % 8 + 8 - k) % 8 = (N + 8 - (k + 1)) % 8 by omega]; exact e
/-! the snapshot stays -/
def KS (w v : PV) : Prop := v.1 2 = w.1 2 ∧ v.2.2.2.2 0 = w.2.2.2.2 0
def KQ (w v : PV) : Prop := v.1 0 = w.1 0 ∧ KS w v
theorem KS.rf {w : PV} : KS w w := ⟨rfl, rfl⟩
theorem KS.tr {a b c : PV} (h : KS a b) (h2 : KS b c) : KS a c := ⟨h2.1.trans h.1, h2.2.trans h.2⟩
theorem KQ.tr {a b c : PV} (h : KQ a b) (h2 : KQ b c) : KQ a c := ⟨h2.1.trans h.1, h.2.tr h2.2⟩
theorem ks_rem {v : PV} {x h' : HV} : KS v (wH (wRem v x) 0 h') := ⟨rfl, rfl⟩
theorem ks_undo {v : PV} : KS v (wUndo v) := ⟨rfl, rfl⟩
theorem ks_line {v : PV} {Z : HV} : KS v (wL v Z) := ⟨rfl, rfl⟩
theorem ks_ch {v : PV} {f a : Int32} {h' : HV} (c : f = 0 ∨ ¬ ok0 f) : KS v (pCh f v a h').2 := by
  rcases c with rfl | c
  · rw [pCh_0]; exact ks_rem
  · rw [show pCh f v a h' = (.inr (exn f), v) from pG_n c]; exact KS.rf
/-! ===== rides until a bill falls ===== -/
theorem cs_bump {st st' : Nat → Int32} {k : Nat} (ho : ∀ c, c < 8 → c ≠ k → st' c = st c) (h0 : st k = 0) (h2 : st' k = 2) : ∀ n, n ≤ 8 → cntS st' 2 n = if k < n then cntS st 2 n + 1 else cntS st 2 n
  | 0, _ => rfl
  | n + 1, hn => by
    show (if st' n = 2 then cntS st' 2 n + 1 else cntS st' 2 n) = if k < n + 1 then (if st n = 2 then cntS st 2 n + 1 else cntS st 2 n) + 1 else (if st n = 2 then cntS st 2 n + 1 else cntS st 2 n)
    rw [cs_bump ho h0 h2 n (by omega)]
    by_cases c : n = k
    · subst c
      rw [if_pos h2, if_neg (Nat.lt_irrefl _), if_pos (Nat.lt_succ_self _), h0, if_neg (by decide)]
    · rw [ho n (by omega) c]
      by_cases c2 : k < n
      · have c3 : k < n + 1 := Nat.lt_succ_of_lt c2
        rw [if_pos c2]
        by_cases e : st n = 2
        · rw [if_pos e, if_pos e, if_pos c3]
        · rw [if_neg e, if_neg e, if_pos c3]
      · have c3 : ¬ k < n + 1 := fun z => by omega
        rw [if_neg c2, if_neg c3]
theorem n60 {a : Nat} (ha : a < 1000) : nI a / 60 < 3 ↔ a < 180 := by
  rw [show (60 : Int32) = nI 60 from rfl, nI_div (by omega) (by decide), show (3 : Int32) = nI 3 from rfl, nI_ltI (by omega) (by decide)]
  omega
theorem ah_f {h : HV} {k e : Nat} (hk : k < 8) (he : h.2.1 5 k = nI e) (h8 : e < 180) (s0 : h.2.1 3 k = 0) : OffB k h (aHold h (nI k) 30) (fun _ => 0) (fun _ => 0) ∧ (aHold h (nI k) 30).2.1 5 k = nI (e + 30) ∧ (aHold h (nI k) 30).2.1 3 k = (if e + 30 < 180 then 0 else 2) := by
  have ec : cN (nI k) = k := cN_nI (by omega)
  have o0 : OffB k h (aHold0 h (nI k) 30) (fun _ => 0) (fun _ => 0) := by
    unfold aHold0; rw [ec]; exact OffB.rf.set (by decide)
  have d0 : (aHold0 h (nI k) 30).2.1 5 k = nI (e + 30) := by
    unfold aHold0; rw [ec, hset_s, upd_s, he]; exact nI_add e 30
  have t0 : (aHold0 h (nI k) 30).2.1 3 k = 0 := by
    unfold aHold0; rw [ec, hset_n (by decide)]; exact s0
  have cond : hRust (aHold0 h (nI k) 30) (cN (nI k)) < 3 ↔ e + 30 < 180 := by
    show (aHold0 h (nI k) 30).2.1 5 (cN (nI k)) / 60 < 3 ↔ _
    rw [ec, d0]; exact n60 (by omega)
  unfold aHold
  by_cases c : e + 30 < 180
  · rw [if_pos (cond.mpr c), if_pos c]; exact ⟨o0, d0, t0⟩
  · rw [if_neg (fun z => c (cond.mp z)), if_neg c, aFinish_e hk]
    refine ⟨(((o0.set (by decide)).set (by decide)).set (by decide)).set (by decide), ?_, ?_⟩
    · rw [hset_n (by decide), hset_n (by decide), hset_n (by decide), hset_n (by decide)]; exact d0
    · rw [hset_n (by decide), hset_n (by decide), hset_n (by decide), hset_s, upd_s]
def RD (w v : PV) (k d R r : Nat) : Prop := KS w v ∧ Dp r v (w.1 0) ∧ ((v.1 0).1 0 = (w.1 0).1 0 ∧ (v.1 0).1 1 = (w.1 0).1 1 ∧ (v.1 0).1 3 = (w.1 0).1 3) ∧ (v.1 0).2.1 5 k = nI (d + 30 * r) ∧ (v.1 0).2.1 3 k = (if r < R then 0 else 2) ∧ ∀ c, c < 8 → c ≠ k → (v.1 0).2.1 3 c = (w.1 0).2.1 3 c
theorem rd_f0 {v : PV} {k i : Nat} (hk : k < 8) (hm : hasM (v.1 0) (nI i)) (hb : hasB (v.1 0) (nI k)) (hs : inS ((v.1 0).1 1) (nI i)) (s0 : (v.1 0).2.1 3 k = 0) : fHold (v.1 0) (nI i) (nI k) 30 = 0 := by
  unfold fHold
  rw [if_neg (fun z => z.elim (fun z => z hm) (fun z => z hb)), if_neg (by decide), if_neg (by rw [cN_nI (by omega)]; exact pN s0), if_pos hs]
theorem rd_ep {v : PV} {k i : Nat} (f0 : fHold (v.1 0) (nI i) (nI k) 30 = 0) : pRide v (nI i) (nI k) 30 = (rI (hRust (aHold (v.1 0) (nI k) 30) (cN (nI k))), wH (wRem v (v.1 0)) 0 (aHold (v.1 0) (nI k) 30)) := by
  show pCh (fHold (v.1 0) (nI i) (nI k) 30) v _ _ = _
  rw [f0, pCh_0]
theorem rd_r {w v : PV} {k d R r : Nat} {h' : HV} (hr : r < R) (hR : R = (209 - d) / 30) (ring : ∃ K N : Nat, K ≤ 8 ∧ N < 8 ∧ v.2.2.2.2 2 = nI K ∧ v.2.2.2.2 1 = nI N) (q : RD w v k d R r) (o : OffB k (v.1 0) h' (fun _ => 0) (fun _ => 0)) (e5 : h'.2.1 5 k = nI (d + 30 * r + 30)) (e3 : h'.2.1 3 k = (if d + 30 * r + 30 < 180 then 0 else 2)) : RD w (wH (wRem v (v.1 0)) 0 h') k d R (r + 1) := by
  obtain ⟨q1, q2, ⟨q3, q4, q5⟩, q6, q7, q8⟩ := q
  have e5 : h'.2.1 5 k = nI (d + 30 * (r + 1)) := e5.trans (congrArg nI (by omega))
  have e3 : h'.2.1 3 k = (if r + 1 < R then 0 else 2) := by
    refine e3.trans ?_
    by_cases c : r + 1 < R
    · rw [if_pos c, if_pos (by omega)]
    · rw [if_neg c, if_neg (by omega)]
  exact ⟨q1.tr ks_rem, q2.push ring (by omega), ⟨(o.1 0 (by decide)).trans q3, (o.1 1 (by decide)).trans q4, (o.1 3 (by decide)).trans q5⟩, e5, e3, fun c hc hn => (o.2.2.1 3 (by decide) (by decide) c hn).trans (q8 c hc hn)⟩
theorem rd_step {w v : PV} {k d R r i : Nat} (hJ : J v) (hk : k < 8) (hd : d < 180) (hR : R = (209 - d) / 30) (hr : r < R) (hi : i < 24) (hm : hasM (w.1 0) (nI i)) (hb : hasB (w.1 0) (nI k)) (hs : inS ((w.1 0).1 1) (nI i)) (q : RD w v k d R r) : ∃ v', pRide v (nI i) (nI k) 30 = (rI (hRust (v'.1 0) (cN (nI k))), v') ∧ J v' ∧ RD w v' k d R (r + 1) := by
  have q3 : (v.1 0).1 0 = (w.1 0).1 0 := q.2.2.1.1
  have q4 : (v.1 0).1 1 = (w.1 0).1 1 := q.2.2.1.2.1
  have q5 : (v.1 0).1 3 = (w.1 0).1 3 := q.2.2.1.2.2
  have q6 := q.2.2.2.1
  have q7 : (v.1 0).2.1 3 k = 0 := q.2.2.2.2.1.trans (if_pos hr)
  have f0 : fHold (v.1 0) (nI i) (nI k) 30 = 0 := rd_f0 hk ⟨hm.1, by rw [q3]; exact hm.2⟩ ⟨hb.1, by rw [q5]; exact hb.2⟩ (by rw [q4]; exact hs) q7
  have ep := rd_ep f0
  have hj := (j_ride hJ (nI i) (nI k) 30).2
  rw [ep] at hj
  have a := ah_f hk q6 (by omega) q7
  exact ⟨wH (wRem v (v.1 0)) 0 (aHold (v.1 0) (nI k) 30), ep, hj, rd_r hr hR hJ.ring q a.1 a.2.1 a.2.2⟩
theorem ru_open {v : PV} {k d : Nat} (hk : k < 8) (hb : hasB (v.1 0) (nI k)) (ed : (v.1 0).2.1 5 k = nI d) (hd : d < 180) (s0 : (v.1 0).2.1 3 k = 0) : wI (-1000) (pRidesUntilFall v (nI k) 30).1 = nI ((209 - d) / 30) := by
  have ec : cN (nI k) = k := cN_nI (by omega)
  rw [show pRidesUntilFall v (nI k) 30 = _ from pG_y hb, pG_y (show (1 : Int32) ≤ 30 ∧ (30 : Int32) ≤ 30 by decide), pG_y (by rw [ec]; exact s0)]
  show (180 - (v.1 0).2.1 5 (cN (nI k)) + 30 - 1) / 30 = _
  rw [ec, ed]
  have e1 : (180 : Int32) - nI d = nI (180 - d) := by
    have h := nI_add (180 - d) d
    rw [show 180 - d + d = 180 by omega] at h
    rw [show (180 : Int32) = nI 180 from rfl, ← h]
    exact Int32.add_sub_cancel _ _
  rw [e1, show (30 : Int32) = nI 30 from rfl, nI_add, nI_sub1 (by omega), nI_div (by omega) (by decide)]
  rw [show 180 - d + 30 - 1 = 209 - d by omega]
theorem ru_clos {v : PV} {k : Nat} (hk : k < 8) (hb : hasB (v.1 0) (nI k)) (s0 : ¬ (v.1 0).2.1 3 k = 0) : wI (-1000) (pRidesUntilFall v (nI k) 30).1 = -1000 := by
  have ec : cN (nI k) = k := cN_nI (by omega)
  rw [show pRidesUntilFall v (nI k) 30 = _ from pG_y hb, pG_y (show (1 : Int32) ≤ 30 ∧ (30 : Int32) ≤ 30 by decide), pG_n (by rw [ec]; exact s0)]
  rfl
/-! ===== amendments decided in order ===== -/
def alN (u : HV) : Nat → Int32
  | 0 => 0
  | t + 1 => alN u t + hWW u (nI t)
theorem al_e {m n : Nat} {h u : HV} (q : HSn m n h (u.2.1 1)) : alN h 4 = hW h (h.1 1) := (cons_all q).2
def DD (w v : PV) (k p s : Nat) : Prop := KS w v ∧ Dp s v (w.1 0) ∧ ((v.1 0).1 0 = (w.1 0).1 0 ∧ (v.1 0).1 1 = (w.1 0).1 1 ∧ (v.1 0).1 2 = (w.1 0).1 2 ∧ (v.1 0).1 3 = (w.1 0).1 3) ∧ ((v.1 0).2.1 1 = (w.1 0).2.1 1 ∧ (v.1 0).2.1 2 = (w.1 0).2.1 2) ∧ (v.1 0).2.1 8 k = nI (p - s)
theorem ad_f {h : HV} {k p : Nat} (hk : k < 8) (hp : p ≤ 4) (hp1 : 1 ≤ p) (ep : h.2.1 8 k = nI p) : OffB k h (aDecide h (nI k)) (fun _ => 0) (fun _ => 0) ∧ (aDecide h (nI k)).2.1 8 k = nI (p - 1) ∧ (aDecide h (nI k)).2.2 k = (if accD h (nI k) then h.2.2 k ^^^ lsl 1 (h.2.1 (12 + k) 0) else h.2.2 k) ∧ (2 ≤ p → (aDecide h (nI k)).2.1 (12 + k) 0 = h.2.1 (12 + k) 1) := by
  have ec : cN (nI k) = k := cN_nI (by omega)
  have o0 : OffB k h (aDec0 h (nI k)) (fun _ => 0) (fun _ => 0) := by
    unfold aDec0; rw [ec]; exact OffB.rf.clx.sc4
  have key : ∀ v : HV, OffB k h v (fun _ => 0) (fun _ => 0) → v.2.1 8 k = nI p → v.2.1 (12 + k) = h.2.1 (12 + k) → OffB k h (aShift (aDec1 v (nI k)) (nI k) 3) (fun _ => 0) (fun _ => 0) ∧ (aShift (aDec1 v (nI k)) (nI k) 3).2.1 8 k = nI (p - 1) ∧ (aShift (aDec1 v (nI k)) (nI k) 3).2.2 = v.2.2 ∧ (2 ≤ p → (aShift (aDec1 v (nI k)) (nI k) 3).2.1 (12 + k) 0 = h.2.1 (12 + k) 1) := by
    intro v o e8 e12
    have o1 : OffB k h (aDec1 v (nI k)) (fun _ => 0) (fun _ => 0) := by unfold aDec1; rw [ec]; exact o.set (by decide)
    have s := aShift_o (h := aDec1 v (nI k)) hk 3
    refine ⟨aShift_off hk o1 3, ?_, s.2.1.trans ?_, fun _ => ?_⟩
    · rw [s.2.2 8 (by omega) (by omega)]
      unfold aDec1
      rw [ec, hset_s, upd_s, e8, nI_sub1 hp1]
    · unfold aDec1; rfl
    · rw [(aShift_r hk 3 0).1, if_pos (by decide)]
      unfold aDec1
      rw [hset_n (by omega), e12]
  unfold aDecide
  by_cases c : accD h (nI k)
  · rw [if_pos c, if_pos c]
    obtain ⟨a1, a2, a3, a4⟩ := key (aDec0 h (nI k)) o0 (by unfold aDec0; exact ep) (by unfold aDec0; rfl)
    refine ⟨a1, a2, ?_, a4⟩
    rw [a3]
    unfold aDec0
    rw [ec]
    show (if k = k then h.2.2 k ^^^ lsl 1 (h.2.1 (12 + k) 0) else h.2.2 k) = _
    rw [if_pos rfl]
  · rw [if_neg c, if_neg c]
    obtain ⟨a1, a2, a3, a4⟩ := key h OffB.rf ep rfl
    exact ⟨a1, a2, by rw [a3], a4⟩
theorem ite_cg {α : Type} {c : Prop} [Decidable c] {a b a' b' : α} (h : a = a') (h2 : b = b') : (if c then a else b) = if c then a' else b' := by rw [h, h2]
theorem de_f0 {v : PV} {k p : Nat} (hp : p < 9) (hp1 : 1 ≤ p) (hb : hasB (v.1 0) (nI k)) (s0 : (v.1 0).2.1 3 (cN (nI k)) = 0) (e8 : (v.1 0).2.1 8 (cN (nI k)) = nI p) (hq : hQuor (v.1 0)) : fDecide (v.1 0) (nI k) = 0 := by
  unfold fDecide
  rw [if_neg (pN hb), if_neg (pN s0), if_neg (by rw [e8]; exact fun z => by have := (nI_z (by omega)).mp z; omega), if_pos hq]
theorem de_ep {v : PV} {k : Nat} (f0 : fDecide (v.1 0) (nI k) = 0) : pDecide v (nI k) = (rI (bI (accD (v.1 0) (nI k))), wH (wRem v (v.1 0)) 0 (aDecide (v.1 0) (nI k))) := by
  show pCh (fDecide (v.1 0) (nI k)) v _ _ = _
  rw [f0, pCh_0]
theorem de_r {w v : PV} {k p s : Nat} {h' : HV} (hp : p ≤ 4) (hs : s < p) (ring : ∃ K N : Nat, K ≤ 8 ∧ N < 8 ∧ v.2.2.2.2 2 = nI K ∧ v.2.2.2.2 1 = nI N) (q : DD w v k p s) (o : OffB k (v.1 0) h' (fun _ => 0) (fun _ => 0)) (e8 : h'.2.1 8 k = nI (p - s - 1)) : DD w (wH (wRem v (v.1 0)) 0 h') k p (s + 1) := by
  obtain ⟨q1, q2, ⟨q3, q4, q5, q6⟩, ⟨q7, q8⟩, q9⟩ := q
  have e8 : h'.2.1 8 k = nI (p - (s + 1)) := e8.trans (congrArg nI (by omega))
  exact ⟨q1.tr ks_rem, q2.push ring (by omega), ⟨(o.1 0 (by decide)).trans q3, (o.1 1 (by decide)).trans q4, (o.1 2 (by decide)).trans q5, (o.1 3 (by decide)).trans q6⟩, ⟨o.2.1.1.trans q7, o.2.1.2.trans q8⟩, e8⟩
theorem de_a {v v' : PV} {k p : Nat} (hp : p ≤ 4) (hp1 : 1 ≤ p) (hb : hasB (v.1 0) (nI k)) (hb' : hasB (v'.1 0) (nI k)) (q9 : (v.1 0).2.1 8 (cN (nI k)) = nI p) (e8 : (v'.1 0).2.1 8 (cN (nI k)) = nI (p - 1)) (e12 : 2 ≤ p → (v'.1 0).2.1 (12 + cN (nI k)) (cN 0) = (v.1 0).2.1 (12 + cN (nI k)) (cN 1)) : wI (-1000) (pAmendedClause v' (nI k) 0).1 = wI (-1000) (pAmendedClause v (nI k) 1).1 := by
  by_cases c : 2 ≤ p
  · have g1 : hasB (v'.1 0) (nI k) ∧ hasP (v'.1 0) (nI k) 0 := ⟨hb', by decide, by rw [e8]; exact (nI_ltI (a := 0) (by decide) (by omega)).mpr (by omega)⟩
    have g2 : hasB (v.1 0) (nI k) ∧ hasP (v.1 0) (nI k) 1 := ⟨hb, by decide, by rw [q9]; exact (nI_ltI (a := 1) (by decide) (by omega)).mpr (by omega)⟩
    exact (wI_y g1).trans ((e12 c).trans (wI_y g2).symm)
  · have g1 : ¬ (hasB (v'.1 0) (nI k) ∧ hasP (v'.1 0) (nI k) 0) := fun z => by
      have z := z.2.2
      rw [e8] at z
      have := (nI_ltI (a := 0) (by decide) (by omega)).mp z
      omega
    have g2 : ¬ (hasB (v.1 0) (nI k) ∧ hasP (v.1 0) (nI k) 1) := fun z => by
      have z := z.2.2
      rw [q9] at z
      have := (nI_ltI (a := 1) (by decide) (by omega)).mp z
      omega
    exact (wI_n g1).trans (wI_n g2).symm
theorem de_x {w v : PV} {k p s : Nat} {h' : HV} {z : Int32} (hk : k < 8) (hp : p ≤ 4) (hs : s < p) (hb : hasB (v.1 0) (nI k)) (ring : ∃ K N : Nat, K ≤ 8 ∧ N < 8 ∧ v.2.2.2.2 2 = nI K ∧ v.2.2.2.2 1 = nI N) (q : DD w v k p s) (o : OffB k (v.1 0) h' (fun _ => 0) (fun _ => 0)) (e8 : h'.2.1 8 k = nI (p - s - 1)) (e12 : 2 ≤ p - s → h'.2.1 (12 + k) 0 = (v.1 0).2.1 (12 + k) 1) : DD w (wH (wRem v (v.1 0)) 0 h') k p (s + 1) ∧ hasB ((wH (wRem v (v.1 0)) 0 h').1 0) (nI k) ∧ ((wH (wRem v (v.1 0)) 0 h').1 0).2.2 (cN (nI k)) = h'.2.2 k ∧ wI (-1000) (pAmendedClause (wH (wRem v (v.1 0)) 0 h') (nI k) 0).1 = wI (-1000) (pAmendedClause v (nI k) 1).1 := by
  have ec : cN (nI k) = k := cN_nI (by omega)
  have hb' : hasB ((wH (wRem v (v.1 0)) 0 h').1 0) (nI k) := ⟨hb.1, by
    show nI k < h'.1 3
    rw [o.1 3 (by decide)]; exact hb.2⟩
  refine ⟨de_r hp hs ring q o e8, hb', ?_, de_a (p := p - s) (by omega) (by omega) hb hb' (by rw [ec]; exact q.2.2.2.2) (by rw [ec]; exact e8) (fun c => by rw [ec]; exact e12 c)⟩
  rw [ec]; rfl
theorem de_step {w v : PV} {k p s : Nat} (hJ : J v) (hk : k < 8) (hp : p ≤ 4) (hs : s < p) (hb : hasB (v.1 0) (nI k)) (ho : (v.1 0).2.1 3 (cN (nI k)) = 0) (hq : hQuor (v.1 0)) (q : DD w v k p s) : ∃ v', pDecide v (nI k) = (rI (bI (accD (v.1 0) (nI k))), v') ∧ J v' ∧ DD w v' k p (s + 1) ∧ hasB (v'.1 0) (nI k) ∧ (v'.1 0).2.2 (cN (nI k)) = (if accD (v.1 0) (nI k) then (v.1 0).2.2 (cN (nI k)) ^^^ lsl 1 ((v.1 0).2.1 (12 + cN (nI k)) (cN 0)) else (v.1 0).2.2 (cN (nI k))) ∧ wI (-1000) (pAmendedClause v' (nI k) 0).1 = wI (-1000) (pAmendedClause v (nI k) 1).1 := by
  have q9 : (v.1 0).2.1 8 k = nI (p - s) := q.2.2.2.2
  have ec : cN (nI k) = k := cN_nI (by omega)
  have f0 : fDecide (v.1 0) (nI k) = 0 := de_f0 (p := p - s) (by omega) (by omega) hb ho (by rw [ec]; exact q9) hq
  have ep := de_ep f0
  have hj := (j_decide hJ (nI k)).2
  rw [ep] at hj
  have a := ad_f hk (by omega) (by omega) q9
  have b := de_x (z := 0) hk hp hs hb hJ.ring q a.1 a.2.1 a.2.2.2
  refine ⟨wH (wRem v (v.1 0)) 0 (aDecide (v.1 0) (nI k)), ep, hj, b.1, b.2.1, b.2.2.1.trans (a.2.2.1.trans (ite_cg ?_ ?_)), b.2.2.2⟩
  · rw [ec]; rfl
  · rw [ec]
/-! a reading closed -/
theorem ae_f {m n : Nat} {h u : HV} (q : HSn m n h (u.2.1 1)) {k : Nat} (hk : k < 8) (s0 : h.2.1 3 k = 0) : (aEnd h (nI k)).2.1 4 k = (if sucE h (nI k) then h.2.1 4 k + 1 else h.2.1 4 k) ∧ ((aEnd h (nI k)).2.1 3 k = 0 ↔ sucE h (nI k) ∧ ¬ 2 ≤ h.2.1 4 k) ∧ (aEnd h (nI k)).1 3 = h.1 3 := by
  have ec : cN (nI k) = k := cN_nI (by omega)
  obtain ⟨g, hg, eg⟩ := opn_g ⟨_, m, n, q⟩ hk s0
  have g0 : (aEnd0 h (nI k)).2.1 4 k = nI g := by unfold aEnd0; rw [ec, hset_n (by decide), hset_n (by decide)]; exact eg
  have t0 : (aEnd0 h (nI k)).2.1 3 k = 0 := by unfold aEnd0; rw [ec, hset_n (by decide), hset_n (by decide)]; exact s0
  have g1 : (aEnd1 h (nI k)).2.1 4 k = nI (g + 1) := by unfold aEnd1; rw [ec, hset_s, upd_s, g0]; exact nI_1 g
  have t1 : (aEnd1 h (nI k)).2.1 3 k = 0 := by unfold aEnd1; rw [ec, hset_n (by decide)]; exact t0
  have fin : ∀ (h1 : HV) (s : Int32), (aFinish h1 (nI k) s).2.1 4 k = h1.2.1 4 k ∧ (aFinish h1 (nI k) s).2.1 3 k = s ∧ (aFinish h1 (nI k) s).1 = h1.1 := fun h1 s => by
    rw [aFinish_e hk]
    refine ⟨?_, ?_, rfl⟩
    · rw [hset_n (by decide), hset_n (by decide), hset_n (by decide), hset_n (by decide)]
    · rw [hset_n (by decide), hset_n (by decide), hset_n (by decide), hset_s, upd_s]
  have z2 : (2 ≤ h.2.1 4 k) ↔ 2 ≤ g := by rw [eg]; exact nI_leI (a := 2) (by decide) (by omega)
  have z3 : (aEnd1 h (nI k)).2.1 4 (cN (nI k)) < 3 ↔ g + 1 < 3 := by rw [ec, g1]; exact nI_ltI (b := 3) (by omega) (by decide)
  unfold aEnd
  by_cases c : sucE h (nI k)
  · rw [if_neg (pN c), if_pos c]
    by_cases c3 : (aEnd1 h (nI k)).2.1 4 (cN (nI k)) < 3
    · rw [if_pos c3]
      refine ⟨by rw [g1, eg, nI_1], ⟨fun _ => ⟨c, fun z => ?_⟩, fun _ => t1⟩, rfl⟩
      have := z3.mp c3; have := z2.mp z; omega
    · rw [if_neg c3]
      obtain ⟨f1, f2, f3⟩ := fin (aEnd1 h (nI k)) 1
      refine ⟨by rw [f1, g1, eg, nI_1], ⟨fun z => by rw [f2] at z; exact absurd z (by decide), fun z => ?_⟩, by rw [f3]; rfl⟩
      have h3 : ¬ g + 1 < 3 := fun y => c3 (z3.mpr y)
      exact absurd (z2.mpr (by omega)) z.2
  · rw [if_pos c, if_neg c]
    obtain ⟨f1, f2, f3⟩ := fin (aEnd0 h (nI k)) 2
    exact ⟨by rw [f1, g0, eg], ⟨fun z => by rw [f2] at z; exact absurd z (by decide), fun z => absurd z.1 c⟩, by rw [f3]; rfl⟩
theorem cl_f0 {v : PV} {k : Nat} (hb : hasB (v.1 0) (nI k)) (ho : (v.1 0).2.1 3 (cN (nI k)) = 0) (hq : hQuor (v.1 0)) (hp : (v.1 0).2.1 8 (cN (nI k)) = 0) : fEnd (v.1 0) (nI k) = 0 := by
  unfold fEnd
  rw [if_neg (pN hb), if_neg (pN ho), if_pos ⟨hq, hp⟩]
theorem cl_ep {v : PV} {k : Nat} (f0 : fEnd (v.1 0) (nI k) = 0) : pCloseReading v (nI k) = (rI (bI (sucE (v.1 0) (nI k))), wH (wRem v (v.1 0)) 0 (aEnd (v.1 0) (nI k))) := by
  show pCh (fEnd (v.1 0) (nI k)) v _ _ = _
  rw [f0, pCh_0]
theorem cl_x {v : PV} {k : Nat} {h' : HV} (hk : k < 8) (hb : hasB (v.1 0) (nI k)) (ring : ∃ K N : Nat, K ≤ 8 ∧ N < 8 ∧ v.2.2.2.2 2 = nI K ∧ v.2.2.2.2 1 = nI N) (a3 : h'.1 3 = (v.1 0).1 3) : KS v (wH (wRem v (v.1 0)) 0 h') ∧ (∀ s u, s < 8 → Dp s v u → Dp (s + 1) (wH (wRem v (v.1 0)) 0 h') u) ∧ hasB ((wH (wRem v (v.1 0)) 0 h').1 0) (nI k) ∧ ((wH (wRem v (v.1 0)) 0 h').1 0).2.1 4 (cN (nI k)) = h'.2.1 4 k ∧ ((wH (wRem v (v.1 0)) 0 h').1 0).2.1 3 (cN (nI k)) = h'.2.1 3 k := by
  have ec : cN (nI k) = k := cN_nI (by omega)
  refine ⟨ks_rem, fun s u hs d => d.push ring hs, ⟨hb.1, ?_⟩, ?_, ?_⟩
  · show nI k < h'.1 3
    rw [a3]; exact hb.2
  · rw [ec]; rfl
  · rw [ec]; rfl
theorem cl_step {v : PV} {k : Nat} (hJ : J v) (hk : k < 8) (hb : hasB (v.1 0) (nI k)) (ho : (v.1 0).2.1 3 (cN (nI k)) = 0) (hq : hQuor (v.1 0)) (hp : (v.1 0).2.1 8 k = 0) : ∃ v', pCloseReading v (nI k) = (rI (bI (sucE (v.1 0) (nI k))), v') ∧ J v' ∧ KS v v' ∧ (∀ s u, s < 8 → Dp s v u → Dp (s + 1) v' u) ∧ hasB (v'.1 0) (nI k) ∧ (v'.1 0).2.1 4 (cN (nI k)) = (if sucE (v.1 0) (nI k) then (v.1 0).2.1 4 (cN (nI k)) + 1 else (v.1 0).2.1 4 (cN (nI k))) ∧ ((v'.1 0).2.1 3 (cN (nI k)) = 0 ↔ sucE (v.1 0) (nI k) ∧ ¬ 2 ≤ (v.1 0).2.1 4 (cN (nI k))) := by
  have ec : cN (nI k) = k := cN_nI (by omega)
  have f0 : fEnd (v.1 0) (nI k) = 0 := cl_f0 hb ho hq (by rw [ec]; exact hp)
  have ep := cl_ep f0
  have hj := (j_closeReading hJ (nI k)).2
  rw [ep] at hj
  obtain ⟨m, n, u, q⟩ := hJ.hs
  have a := ae_f q hk (by rw [ec] at ho; exact ho)
  have b := cl_x hk hb hJ.ring a.2.2
  refine ⟨wH (wRem v (v.1 0)) 0 (aEnd (v.1 0) (nI k)), ep, hj, b.1, b.2.1, b.2.2.1, b.2.2.2.1.trans (a.1.trans (ite_cg ?_ ?_)), ?_⟩
  · rw [ec]
  · rw [ec]
  · rw [b.2.2.2.2, ec]; exact a.2.1
theorem cl_fail {v : PV} {k : Nat} (hk : k < 8) (h : ¬ ((v.1 0).2.1 3 (cN (nI k)) = 0 ∧ hQuor (v.1 0))) (hb : hasB (v.1 0) (nI k)) : wI (-100000000) (pCloseReading v (nI k)).1 = -100000000 ∧ (pCloseReading v (nI k)).2 = v := by
  have f0 : ¬ ok0 (fEnd (v.1 0) (nI k)) := by
    unfold fEnd
    rw [if_neg (pN hb)]
    by_cases c : (v.1 0).2.1 3 (cN (nI k)) = 0
    · rw [if_neg (pN c), if_neg (fun z => h ⟨c, z.1⟩)]; exact nok5
    · rw [if_pos c]; exact nok3
  rw [show pCloseReading v (nI k) = (.inr (exn (fEnd (v.1 0) (nI k))), v) from pG_n f0]
  exact ⟨rfl, rfl⟩
