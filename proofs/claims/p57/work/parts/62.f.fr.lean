/-! ===== a call that fails leaves the House as it was; what a call answers else isn't the law's FAILED ===== -/
theorem nneg {k : Nat} (h : k < 2 ^ 31) : 0 ≤ nI k := (nI_leI (a := 0) (by decide) h).mpr (Nat.zero_le _)
theorem nn_of {a : Int32} (h : ∃ k, k < 2 ^ 31 ∧ a = nI k) : 0 ≤ a := by obtain ⟨k, hk, rfl⟩ := h; exact nneg hk
theorem fr_ch {w : PV} {f a : Int32} {h' : HV} (c : f = 0 ∨ ¬ ok0 f) (h0 : f = 0 → 0 ≤ a) (e : wI (-100000000) (pCh f w a h').1 = -100000000) : (pCh f w a h').2.1 0 = w.1 0 := by
  rcases c with rfl | c
  · rw [pCh_0] at e
    have e2 : a = -100000000 := e
    have := h0 rfl
    rw [e2] at this
    exact absurd this (by decide)
  · rw [show pCh f w a h' = (.inr (exn f), w) from pG_n c]
theorem hx_w {h : HV} (q : HX h) (s : Int32) : 0 ≤ hW h s := by
  obtain ⟨m, n, u, q⟩ := q.row
  obtain ⟨a, ha, e⟩ := q.wt_le s
  rw [e]; exact nneg (by omega)
theorem hx_r {h : HV} (q : HX h) {b : Nat} (hb : b < 8) : 0 ≤ hRust h b := by
  obtain ⟨m, n, u, q⟩ := q.row
  obtain ⟨-, -, -, -, -, ⟨d, hd, ed, -⟩, -⟩ := q.bl hb
  show 0 ≤ h.2.1 5 b / 60
  rw [ed, show (60 : Int32) = nI 60 from rfl, nI_div (by omega) (by decide)]
  exact nneg (by omega)
theorem hx_p {h : HV} (q : HX h) {b : Nat} (hb : b < 8) : 0 ≤ h.2.1 8 b := by
  obtain ⟨m, n, u, q⟩ := q.row
  obtain ⟨-, -, ⟨p, hp, ep, -⟩, -⟩ := q.bl hb
  rw [ep]; exact nneg (by omega)
theorem jbc_nn (x : Int32) : 0 ≤ jbc x := by
  rw [jbc_ct]; exact nneg (by have := ct_le (bt x) 32; omega)
theorem bI_nn (P : Prop) : 0 ≤ bI P := by
  rcases bI_zo P with h | h
  · rw [h]; decide
  · rw [h]; decide
theorem tCnt_v : ∀ (k c : Nat) (T : HV), (tCnt k (nI c) T).1 = -1 ∨ ∃ j, j ≤ c + k ∧ (tCnt k (nI c) T).1 = nI j
  | 0, _, _ => Or.inl rfl
  | k + 1, c, T => by
    by_cases h : okCmd T
    · by_cases h2 : (tCmd T).1 1 = (tCmd T).1 0
      · rw [tCnt_e h h2]; exact Or.inr ⟨c, by omega, rfl⟩
      · by_cases h3 : tNx (tCmd T) = 59
        · rw [tCnt_s h h2 h3, nI_1]
          rcases tCnt_v k (c + 1) (tAdv (tCmd T)) with e | ⟨j, hj, e⟩
          · exact Or.inl e
          · exact Or.inr ⟨j, by omega, e⟩
        · rw [tCnt_x h h2 h3]; exact Or.inl rfl
    · rw [tCnt_n h]; exact Or.inl rfl
theorem fr_run {w : PV} (e : wI (-100000000) (pRun w).1 = -100000000) : (pRun w).2.1 0 = w.1 0 := by
  rcases hc : rC w with ⟨n, T1⟩
  rcases hs : rS w n T1 with ⟨f, v, T2⟩
  by_cases c : n = -1
  · rw [pRun_e hc c]; rfl
  by_cases c2 : f = -1
  · rw [pRun_o hc hs c c2] at e
    have e2 : n = -100000000 := e
    rcases tCnt_v 60 1 (hsc w.2.2.1 1 0) with z | ⟨j, hj, z⟩
    · rw [show tCnt 60 (nI 1) (hsc w.2.2.1 1 0) = (n, T1) from hc] at z; exact absurd z c
    · rw [show tCnt 60 (nI 1) (hsc w.2.2.1 1 0) = (n, T1) from hc] at z
      have z : n = nI j := z
      have := nneg (k := j) (by omega)
      rw [← z, e2] at this
      exact absurd this (by decide)
  · rw [pRun_n hc hs c c2]; rfl
theorem fr_undo {w : PV} (h : J w) (e : wI (-100000000) (pUndo w).1 = -100000000) : (pUndo w).2.1 0 = w.1 0 := by
  obtain ⟨K, N, hK, hN, eK, eN⟩ := h.ring
  by_cases c : w.2.2.2.2 2 = 0
  · rw [show pUndo w = (.inr eSta, w) from pG_n (pN c)]
  · rw [show pUndo w = (rI (w.2.2.2.2 2 - 1), wUndo w) from pG_y c] at e
    have e2 : w.2.2.2.2 2 - 1 = -100000000 := e
    have h1 : 1 ≤ K := Nat.pos_of_ne_zero fun z => c (by rw [eK, z]; rfl)
    rw [eK, nI_sub1 h1] at e2
    have := nneg (k := K - 1) (by omega)
    rw [e2] at this
    exact absurd this (by decide)
theorem J.hxk {w : PV} (h : J w) {k : Nat} (hk : k < 3) : HX (w.1 k) := by obtain ⟨u, r⟩ := h.1; exact r.2.2.2.2.2.2.2.1 k hk
theorem J.hxq {w : PV} (h : J w) {k : Nat} (hk : k < 8) : HX (w.2.1 k) := by obtain ⟨u, r⟩ := h.1; exact r.2.2.2.2.2.2.2.2 k hk
theorem fr_restore {w : PV} (h : J w) (e : wI (-100000000) (pRestore w).1 = -100000000) : (pRestore w).2.1 0 = w.1 0 := by
  by_cases c : w.2.2.2.2 0 = 0
  · rw [show pRestore w = (.inr eSta, w) from pG_n (pN c)]
  · rw [show pRestore w = (rI ((w.1 2).1 3), wS (wH w 0 (w.1 2)) 2 0) from pG_y c] at e
    have e2 : (w.1 2).1 3 = -100000000 := e
    obtain ⟨m, n, u, q⟩ := (h.hxk (k := 2) (by decide)).row
    have hn := q.1.2
    rw [q.2.2.1.1] at e2
    have := nneg (k := n) (by omega)
    rw [e2] at this
    exact absurd this (by decide)
/-! a text written, sign by sign -/
noncomputable def wWr (w : PV) (i : Nat) : Nat → PV
  | 0 => w
  | k + 1 => (pAppend (wWr w i k) (sB i k)).2
theorem tx_ok : ∀ i, i < 44 → ∀ j, j < sN i → i2cc (sB i j) = sB i j ∧ 32 ≤ sB i j ∧ sB i j ≤ 126 := by decide +kernel
theorem pAppend_k {w : PV} {c : Int32} : (pAppend w c).2.1 = w.1 ∧ (pAppend w c).2.2.1 = w.2.1 ∧ (pAppend w c).2.2.2.2 = w.2.2.2 := by
  unfold pAppend
  by_cases h : 32 ≤ c ∧ c ≤ 126
  · rw [pG_y h]
    by_cases h2 : ¬ 60 ≤ w.2.2.1.1 0
    · rw [pG_y h2]; exact ⟨rfl, rfl, rfl⟩
    · rw [pG_n h2]; exact ⟨rfl, rfl, rfl⟩
  · rw [pG_n h]; exact ⟨rfl, rfl, rfl⟩
theorem wWr_k {w : PV} {i : Nat} : ∀ k, (wWr w i k).1 = w.1 ∧ (wWr w i k).2.1 = w.2.1 ∧ (wWr w i k).2.2.2 = w.2.2.2
  | 0 => ⟨rfl, rfl, rfl⟩
  | k + 1 => by
    obtain ⟨a1, a2, a3⟩ := wWr_k (w := w) (i := i) k
    obtain ⟨b1, b2, b3⟩ := pAppend_k (w := wWr w i k) (c := sB i k)
    exact ⟨b1.trans a1, b2.trans a2, b3.trans a3⟩
/-! the law's digest -/
def dg0 (u : HV) : Int64 := 7 * i2l (u.1 1) + 11 * i2l (u.1 2) + 13 * i2l (u.1 4) + i2l (u.1 0)
def dgM (u : HV) : Nat → Int64
  | 0 => dg0 u
  | k + 1 => 31 * (31 * dgM u k + i2l (u.2.1 1 (cN (nI k)))) + i2l (u.2.1 2 (cN (nI k)))
def dgP (u : HV) (b : Nat) (h : Int64) : Nat → Int64
  | 0 => h
  | k + 1 => 31 * (31 * dgP u b h k + i2l (u.2.1 (12 + cN (nI b)) (cN (nI k)))) + i2l (hW u (u.2.1 (20 + cN (nI b)) (cN (nI k))))
def dgS (u : HV) (b : Nat) : Int32 := if u.2.1 3 (cN (nI b)) = 0 then 1 else if u.2.1 3 (cN (nI b)) = 1 then 2 else 3
def dgB1 (u : HV) (b : Nat) (h : Int64) : Int64 := 31 * (31 * (31 * (31 * h + u.2.2 (cN (nI b))) + i2l (u.2.1 4 (cN (nI b)))) + i2l (u.2.1 5 (cN (nI b)))) + i2l (dgS u b)
def dgB2 (u : HV) (b : Nat) (h : Int64) : Int64 := 31 * (31 * dgB1 u b h + i2l (hW u (u.2.1 6 (cN (nI b))))) + i2l (hW u (u.2.1 7 (cN (nI b))))
def dgB (u : HV) (h : Int64) : Nat → Int64
  | 0 => h
  | b + 1 => dgP u b (dgB2 u b (dgB u h b)) (cN (u.2.1 8 (cN (nI b))))
def dgH (u : HV) : Int64 := dgB u (dgM u (cN (u.1 0))) (cN (u.1 3))
theorem ge_N {a b : Nat} (ha : a < 2 ^ 31) (hb : b < 2 ^ 31) {x : Int32} (e : x = nI a) (c : x ≤ nI b) : a ≤ b := (nI_leI ha hb).mp (e ▸ c)
theorem lt_N {a b : Nat} (ha : a < 2 ^ 31) (hb : b < 2 ^ 31) {x : Int32} (e : x = nI a) (c : ¬ x ≤ nI b) : b < a := Nat.not_le.mp fun z => c (e ▸ (nI_leI ha hb).mpr z)
theorem ltc_N {a b : Nat} (ha : a < 2 ^ 31) (hb : b < 2 ^ 31) {x : Int32} (e : x = nI a) (c : ¬ nI b < x) : a ≤ b := Nat.not_lt.mp fun z => c (e ▸ (nI_ltI hb ha).mpr z)
theorem gM_N {u : HV} {m i : Nat} (e : u.1 0 = nI m) (hm : m ≤ 24) (hi : i < m) : hasM u (nI i) := ⟨nneg (by omega), by rw [e]; exact (nI_ltI (by omega) (by omega)).mpr hi⟩
theorem gB_N {u : HV} {n i : Nat} (e : u.1 3 = nI n) (hn : n ≤ 8) (hi : i < n) : hasB u (nI i) := ⟨nneg (by omega), by rw [e]; exact (nI_ltI (by omega) (by omega)).mpr hi⟩
theorem gP_N {u : HV} {b : Int32} {p i : Nat} (e : u.2.1 8 (cN b) = nI p) (hp : p ≤ 4) (hi : i < p) : hasP u b (nI i) := ⟨nneg (by omega), by rw [e]; exact (nI_ltI (by omega) (by omega)).mpr hi⟩
theorem fr_addMember {w : PV} (h : J w) (x y : Int32) (e : wI (-100000000) (pAddMember w x y).1 = -100000000) : (pAddMember w x y).2.1 0 = w.1 0 := by
  obtain ⟨u0, r⟩ := id h.1
  obtain ⟨m0, n0, q⟩ := id r.1
  exact fr_ch (ch_addMember q x y).f (fun _ => by obtain ⟨m, n, u, q⟩ := h.hs; have := q.1.1; rw [q.2.1.1]; exact nneg (by omega)) e
theorem fr_enter {w : PV} (h : J w) (x : Int32) (e : wI (-100000000) (pEnter w x).1 = -100000000) : (pEnter w x).2.1 0 = w.1 0 := by
  obtain ⟨u0, r⟩ := id h.1
  obtain ⟨m0, n0, q⟩ := id r.1
  exact fr_ch (ch_enter q x).f (fun _ => jbc_nn _) e
theorem fr_leave {w : PV} (h : J w) (x : Int32) (e : wI (-100000000) (pLeave w x).1 = -100000000) : (pLeave w x).2.1 0 = w.1 0 := by
  obtain ⟨u0, r⟩ := id h.1
  obtain ⟨m0, n0, q⟩ := id r.1
  exact fr_ch (ch_leave q x).f (fun _ => jbc_nn _) e
theorem fr_setQuorum {w : PV} (h : J w) (x : Int32) (e : wI (-100000000) (pSetQuorum w x).1 = -100000000) : (pSetQuorum w x).2.1 0 = w.1 0 := by
  obtain ⟨u0, r⟩ := id h.1
  obtain ⟨m0, n0, q⟩ := id r.1
  exact fr_ch (ch_setQuorum q x).f (fun _ => h.x0.2.2) e
theorem fr_introduce {w : PV} (h : J w) (x y t : Int32) (e : wI (-100000000) (pIntroduce w x y t).1 = -100000000) : (pIntroduce w x y t).2.1 0 = w.1 0 := by
  obtain ⟨u0, r⟩ := id h.1
  obtain ⟨m0, n0, q⟩ := id r.1
  exact fr_ch (ch_introduce q x y t).f (fun _ => by obtain ⟨m, n, u, q⟩ := h.hs; have := q.1.2; rw [q.2.2.1.1]; exact nneg (by omega)) e
theorem fr_voteFor {w : PV} (h : J w) (x y : Int32) (e : wI (-100000000) (pVoteFor w x y).1 = -100000000) : (pVoteFor w x y).2.1 0 = w.1 0 := by
  obtain ⟨u0, r⟩ := id h.1
  obtain ⟨m0, n0, q⟩ := id r.1
  exact fr_ch (ch_voteFor q x y).f (fun z => hx_w (hx_of (ch_voteFor q x y) z) _) e
theorem fr_voteAgainst {w : PV} (h : J w) (x y : Int32) (e : wI (-100000000) (pVoteAgainst w x y).1 = -100000000) : (pVoteAgainst w x y).2.1 0 = w.1 0 := by
  obtain ⟨u0, r⟩ := id h.1
  obtain ⟨m0, n0, q⟩ := id r.1
  exact fr_ch (ch_voteAgainst q x y).f (fun z => hx_w (hx_of (ch_voteAgainst q x y) z) _) e
theorem fr_closeReading {w : PV} (h : J w) (x : Int32) (e : wI (-100000000) (pCloseReading w x).1 = -100000000) : (pCloseReading w x).2.1 0 = w.1 0 := by
  obtain ⟨u0, r⟩ := id h.1
  obtain ⟨m0, n0, q⟩ := id r.1
  exact fr_ch (ch_closeReading q x).f (fun _ => bI_nn _) e
theorem fr_propose {w : PV} (h : J w) (x y t : Int32) (e : wI (-100000000) (pPropose w x y t).1 = -100000000) : (pPropose w x y t).2.1 0 = w.1 0 := by
  obtain ⟨u0, r⟩ := id h.1
  obtain ⟨m0, n0, q⟩ := id r.1
  exact fr_ch (ch_propose q x y t).f (fun z => by obtain ⟨k, hk, rfl⟩ := hx_b h.hx (fMove_0 z).1; exact hx_p h.hx (by rw [cN_nI (by omega)]; exact hk)) e
theorem fr_support {w : PV} (h : J w) (x y t : Int32) (e : wI (-100000000) (pSupport w x y t).1 = -100000000) : (pSupport w x y t).2.1 0 = w.1 0 := by
  obtain ⟨u0, r⟩ := id h.1
  obtain ⟨m0, n0, q⟩ := id r.1
  exact fr_ch (ch_support q x y t).f (fun z => hx_w (hx_of (ch_support q x y t) z) _) e
theorem fr_decide {w : PV} (h : J w) (x : Int32) (e : wI (-100000000) (pDecide w x).1 = -100000000) : (pDecide w x).2.1 0 = w.1 0 := by
  obtain ⟨u0, r⟩ := id h.1
  obtain ⟨m0, n0, q⟩ := id r.1
  exact fr_ch (ch_decide q x).f (fun _ => bI_nn _) e
theorem fr_ride {w : PV} (h : J w) (x y t : Int32) (e : wI (-100000000) (pRide w x y t).1 = -100000000) : (pRide w x y t).2.1 0 = w.1 0 := by
  obtain ⟨u0, r⟩ := id h.1
  obtain ⟨m0, n0, q⟩ := id r.1
  exact fr_ch (ch_ride q x y t).f (fun z => by obtain ⟨k, hk, rfl⟩ := hx_b h.hx (fHold_0 z).1; exact hx_r (hx_of (ch_ride q x (nI k) t) z) (by rw [cN_nI (by omega)]; exact hk)) e
