/-! ===== one bill changed ===== -/
def BV (n b : Nat) (st rd dl fo ag pe : Int32) (cl : Int64) (am su ρ : Nat → Int32) : Prop :=
  (ρ 0 = st ∧ ρ 3 = rd ∧ ρ 4 = dl ∧ ρ 5 = fo ∧ ρ 6 = ag ∧ ρ 7 = pe) ∧ cl = cl64 (ρ 2) (ρ 1) ∧
  (∃ p, p ≤ 4 ∧ pe = nI p ∧ ∀ q, q < p → ρ (8 + 2 * q) = am q ∧ ρ (8 + 2 * q + 1) = su q ∧ ∃ c, c < 64 ∧ am q = nI c) ∧
  (st = 0 ∨ st = 1 ∨ st = 2) ∧ (∃ g, g ≤ 3 ∧ rd = nI g ∧ (st = 0 → g ≤ 2)) ∧ (∃ d, d ≤ 209 ∧ dl = nI d ∧ (st = 0 → d < 180)) ∧ fo &&& ag = 0 ∧
  (n ≤ b → st = 0 ∧ rd = 0 ∧ dl = 0 ∧ fo = 0 ∧ ag = 0 ∧ pe = 0)
theorem BL.bv {n : Nat} {h : HV} {r : Nat → Int32} {b : Nat} (q : BL n h r b) : BV n b (h.2.1 3 b) (h.2.1 4 b) (h.2.1 5 b) (h.2.1 6 b) (h.2.1 7 b) (h.2.1 8 b) (h.2.2 b) (h.2.1 (12 + b)) (h.2.1 (20 + b)) (fun k => r (53 + 16 * b + k)) := q
theorem BL.of {n b : Nat} {h : HV} {r : Nat → Int32} {st rd dl fo ag pe : Int32} {cl : Int64} {am su ρ : Nat → Int32} (q : BV n b st rd dl fo ag pe cl am su ρ) (e3 : h.2.1 3 b = st) (e4 : h.2.1 4 b = rd) (e5 : h.2.1 5 b = dl) (e6 : h.2.1 6 b = fo) (e7 : h.2.1 7 b = ag) (e8 : h.2.1 8 b = pe) (ec : h.2.2 b = cl) (ea : h.2.1 (12 + b) = am) (es : h.2.1 (20 + b) = su) (er : (fun k => r (53 + 16 * b + k)) = ρ) : BL n h r b := by
  subst e3 e4 e5 e6 e7 e8 ec ea es er
  exact q
theorem rho_upd {r : Nat → Int32} {b j : Nat} {x : Int32} : (fun k => upd r (53 + 16 * b + j) x (53 + 16 * b + k)) = upd (fun k => r (53 + 16 * b + k)) j x := by
  funext k
  by_cases c : k = j
  · subst c; rw [upd_s, upd_s]
  · rw [upd_n (by omega), upd_n c]
theorem rho_up4 {r : Nat → Int32} {b j : Nat} {x : Int32} (hj : j < 53) : (fun k => upd r j x (53 + 16 * b + k)) = fun k => r (53 + 16 * b + k) := by
  funext k
  rw [upd_n (by omega)]
def OffB (b : Nat) (h h' : HV) (r r' : Nat → Int32) : Prop := (∀ s, s ≠ 4 → h'.1 s = h.1 s) ∧ (h'.2.1 1 = h.2.1 1 ∧ h'.2.1 2 = h.2.1 2) ∧ (∀ k, 3 ≤ k → k ≤ 8 → ∀ c, c ≠ b → h'.2.1 k c = h.2.1 k c) ∧ (∀ c, c ≠ b → h'.2.2 c = h.2.2 c) ∧ (∀ c, c < 8 → c ≠ b → h'.2.1 (12 + c) = h.2.1 (12 + c) ∧ h'.2.1 (20 + c) = h.2.1 (20 + c)) ∧ (∀ j, j < 53 → j ≠ 4 → r' j = r j) ∧ ∀ c, c < 8 → c ≠ b → ∀ k, k < 16 → r' (53 + 16 * c + k) = r (53 + 16 * c + k)
theorem OffB.rf {b : Nat} {h : HV} {r : Nat → Int32} : OffB b h h r r := ⟨fun _ _ => rfl, ⟨rfl, rfl⟩, fun _ _ _ _ _ => rfl, fun _ _ => rfl, fun _ _ _ => ⟨rfl, rfl⟩, fun _ _ _ => rfl, fun _ _ _ _ _ => rfl⟩
theorem OffB.set {b : Nat} {h h' : HV} {r r' : Nat → Int32} (q : OffB b h h' r r') {i : Nat} {v : Int32} (hi : 3 ≤ i ∧ i ≤ 8) : OffB b h (hset h' i b v) r r' := by
  obtain ⟨q1, ⟨q2, q2'⟩, q3, q4, q5, q6⟩ := q
  refine ⟨q1, ⟨(hset_n (by omega)).trans q2, (hset_n (by omega)).trans q2'⟩, fun k h1 h2 c hc => ?_, q4, fun c hc hn => ⟨(hset_n (by omega)).trans (q5 c hc hn).1, (hset_n (by omega)).trans (q5 c hc hn).2⟩, q6⟩
  by_cases e : k = i
  · subst e; rw [hset_s, upd_n hc]; exact q3 k h1 h2 c hc
  · rw [hset_n e]; exact q3 k h1 h2 c hc
theorem OffB.seta {b : Nat} {h h' : HV} {r r' : Nat → Int32} (q : OffB b h h' r r') {p : Nat} {v : Int32} (hb : b < 8) : OffB b h (hset h' (12 + b) p v) r r' := by
  obtain ⟨q1, ⟨q2, q2'⟩, q3, q4, q5, q6⟩ := q
  exact ⟨q1, ⟨(hset_n (by omega)).trans q2, (hset_n (by omega)).trans q2'⟩, fun k h1 h2 c hc => by rw [hset_n (by omega)]; exact q3 k h1 h2 c hc, q4, fun c hc hn => ⟨(hset_n (by omega)).trans (q5 c hc hn).1, (hset_n (by omega)).trans (q5 c hc hn).2⟩, q6⟩
theorem OffB.sets {b : Nat} {h h' : HV} {r r' : Nat → Int32} (q : OffB b h h' r r') {p : Nat} {v : Int32} (hb : b < 8) : OffB b h (hset h' (20 + b) p v) r r' := by
  obtain ⟨q1, ⟨q2, q2'⟩, q3, q4, q5, q6⟩ := q
  exact ⟨q1, ⟨(hset_n (by omega)).trans q2, (hset_n (by omega)).trans q2'⟩, fun k h1 h2 c hc => by rw [hset_n (by omega)]; exact q3 k h1 h2 c hc, q4, fun c hc hn => ⟨(hset_n (by omega)).trans (q5 c hc hn).1, (hset_n (by omega)).trans (q5 c hc hn).2⟩, q6⟩
theorem OffB.clx {b : Nat} {h h' : HV} {r r' : Nat → Int32} (q : OffB b h h' r r') {v : Int64} : OffB b h (hcl h' (vp_updL h'.2.2 b v)) r r' := by
  obtain ⟨q1, q2, q3, q4, q5, q6⟩ := q
  exact ⟨q1, q2, q3, fun c hc => by show (if c = b then v else h'.2.2 c) = _; rw [if_neg hc]; exact q4 c hc, q5, q6⟩
theorem OffB.sc4 {b : Nat} {h h' : HV} {r r' : Nat → Int32} (q : OffB b h h' r r') {v : Int32} : OffB b h (hsc h' 4 v) r r' := by
  obtain ⟨q1, q2⟩ := q
  exact ⟨fun s hs => (hsc_n hs).trans (q1 s hs), q2⟩
theorem OffB.row {b : Nat} {h h' : HV} {r r' : Nat → Int32} (q : OffB b h h' r r') {k : Nat} {v : Int32} (hk : k < 16) : OffB b h h' r (upd r' (53 + 16 * b + k) v) := by
  obtain ⟨q1, q2, q3, q4, q5, q6, q7⟩ := q
  exact ⟨q1, q2, q3, q4, q5, fun j hj h4 => by rw [upd_n (by omega)]; exact q6 j hj h4, fun c hc hn k' hk' => by rw [upd_n (by omega)]; exact q7 c hc hn k' hk'⟩
theorem OffB.r4 {b : Nat} {h h' : HV} {r r' : Nat → Int32} (q : OffB b h h' r r') {v : Int32} : OffB b h h' r (upd r' 4 v) := by
  obtain ⟨q1, q2, q3, q4, q5, q6, q7⟩ := q
  exact ⟨q1, q2, q3, q4, q5, fun j hj h4 => by rw [upd_n h4]; exact q6 j hj h4, fun c hc hn k' hk' => by rw [upd_n (by omega)]; exact q7 c hc hn k' hk'⟩
theorem BL.same {n n' b : Nat} {h h' : HV} {r r' : Nat → Int32} (q : BL n h r b) (hn : n' ≤ b → n ≤ b) (hr : ∀ k, k < 16 → r' (53 + 16 * b + k) = r (53 + 16 * b + k)) (hh : ∀ k, 3 ≤ k → k ≤ 8 → h'.2.1 k b = h.2.1 k b) (hc : h'.2.2 b = h.2.2 b) (ha : h'.2.1 (12 + b) = h.2.1 (12 + b)) (hs : h'.2.1 (20 + b) = h.2.1 (20 + b)) : BL n' h' r' b := by
  obtain ⟨⟨a0, a3, a4, a5, a6, a7⟩, c0, ⟨p, hp, ep, hq⟩, b1, b2, b3, b4, b5⟩ := q
  have e3 := hh 3 (by decide) (by decide)
  have e4 := hh 4 (by decide) (by decide)
  have e5 := hh 5 (by decide) (by decide)
  have e6 := hh 6 (by decide) (by decide)
  have e7 := hh 7 (by decide) (by decide)
  have e8 := hh 8 (by decide) (by decide)
  unfold BL
  rw [e3, e4, e5, e6, e7, e8, hc, ha, hs, hr 0 (by decide), hr 1 (by decide), hr 2 (by decide), hr 3 (by decide), hr 4 (by decide), hr 5 (by decide), hr 6 (by decide), hr 7 (by decide)]
  refine ⟨⟨a0, a3, a4, a5, a6, a7⟩, c0, ⟨p, hp, ep, fun q hq' => ?_⟩, b1, b2, b3, b4, fun z => b5 (hn z)⟩
  rw [hr (8 + 2 * q) (by omega), hr (8 + 2 * q + 1) (by omega)]
  exact hq q hq'
theorem HSn.bill {m n b : Nat} {h h' : HV} {r r' : Nat → Int32} (q : HSn m n h r) (o : OffB b h h' r r') (h4 : r' 4 = h'.1 4) (hB : BL n h' r' b) : HSn m n h' r' := by
  obtain ⟨q0, ⟨q1, q1'⟩, ⟨q2, q2'⟩, ⟨q3, q4, q5⟩, q6, q7⟩ := q
  obtain ⟨o1, ⟨o2, o2'⟩, o3, o4, o5, o6, o7⟩ := o
  refine ⟨q0, ⟨(o1 0 (by decide)).trans q1, (o6 0 (by decide) (by decide)).trans q1'⟩, ⟨(o1 3 (by decide)).trans q2, (o6 1 (by decide) (by decide)).trans q2'⟩, ⟨?_, ?_, h4⟩, fun k hk => ?_, fun c hc => ?_⟩
  · rw [o6 2 (by decide) (by decide), o1 1 (by decide)]; exact q3
  · rw [o6 3 (by decide) (by decide), o1 2 (by decide)]; exact q4
  · unfold MB
    rw [o6 _ (by omega) (by omega), o6 _ (by omega) (by omega), o2, o2']
    exact q6 k hk
  · by_cases e : c = b
    · subst e; exact hB
    · exact (q7 c hc).same id (o7 c hc e) (fun k h1 h2 => o3 k h1 h2 c e) (o4 c e) (o5 c hc e).1 (o5 c hc e).2
/-! ===== changes of scalars, of members ===== -/
theorem hs_pres {m n : Nat} {h : HV} {r : Nat → Int32} (q : HSn m n h r) (x : Int32) : HSn m n (hsc h 1 x) (upd r 2 x) := by
  obtain ⟨q0, ⟨q1, q1'⟩, ⟨q2, q2'⟩, ⟨q3, q4, q5⟩, q6, q7⟩ := q
  refine ⟨q0, ⟨q1, q1'⟩, ⟨q2, q2'⟩, ⟨upd_s .., q4, q5⟩, fun k hk => ?_, fun b hb => ?_⟩
  · rw [upd_n (by omega), upd_n (by omega)]; exact q6 k hk
  · exact (q7 b hb).same id (fun k hk => upd_n (by omega)) (fun _ _ _ => rfl) rfl rfl rfl
theorem hs_quor {m n : Nat} {h : HV} {r : Nat → Int32} (q : HSn m n h r) (x : Int32) : HSn m n (hsc h 2 x) (upd r 3 x) := by
  obtain ⟨q0, ⟨q1, q1'⟩, ⟨q2, q2'⟩, ⟨q3, q4, q5⟩, q6, q7⟩ := q
  refine ⟨q0, ⟨q1, q1'⟩, ⟨q2, q2'⟩, ⟨q3, upd_s .., q5⟩, fun k hk => ?_, fun b hb => ?_⟩
  · rw [upd_n (by omega), upd_n (by omega)]; exact q6 k hk
  · exact (q7 b hb).same id (fun k hk => upd_n (by omega)) (fun _ _ _ => rfl) rfl rfl rfl
theorem hs_add {m n d t : Nat} {h : HV} {r : Nat → Int32} (q : HSn m n h r) (hm : m < 24) (hd : d < 4) (ht : t ≤ 7) : HSn (m + 1) n (hsc (hset (hset h 1 m (nI d)) 2 m (nI t)) 0 (nI (m + 1))) (upd (upd (upd r 0 (nI (m + 1))) (5 + 2 * m + 0) (nI d)) (5 + 2 * m + 1) (nI t)) := by
  obtain ⟨q0, ⟨q1, q1'⟩, ⟨q2, q2'⟩, ⟨q3, q4, q5⟩, q6, q7⟩ := q
  refine ⟨⟨by omega, q0.2⟩, ⟨rfl, ?_⟩, ⟨q2, ?_⟩, ⟨?_, ?_, ?_⟩, fun k hk => ?_, fun b hb => ?_⟩
  · rw [upd_n (by omega), upd_n (by omega), upd_s]
  · rw [upd_n (by omega), upd_n (by omega), upd_n (by omega)]; exact q2'
  · rw [upd_n (by omega), upd_n (by omega), upd_n (by omega)]; exact q3
  · rw [upd_n (by omega), upd_n (by omega), upd_n (by omega)]; exact q4
  · rw [upd_n (by omega), upd_n (by omega), upd_n (by omega)]; exact q5
  · have e1 : (hsc (hset (hset h 1 m (nI d)) 2 m (nI t)) 0 (nI (m + 1))).2.1 1 k = upd (h.2.1 1) m (nI d) k := rfl
    have e2 : (hsc (hset (hset h 1 m (nI d)) 2 m (nI t)) 0 (nI (m + 1))).2.1 2 k = upd (h.2.1 2) m (nI t) k := rfl
    unfold MB
    rw [e1, e2]
    by_cases c : k = m
    · subst c
      rw [upd_n (by omega), upd_s, upd_s, upd_s, upd_s]
      exact ⟨rfl, rfl, ⟨t, ht, rfl⟩, fun _ => ⟨d, hd, rfl⟩, fun z => by omega⟩
    · rw [upd_n (by omega), upd_n (by omega), upd_n (by omega), upd_n (by omega), upd_n (by omega), upd_n (by omega), upd_n (by omega), upd_n (by omega)]
      obtain ⟨h1, h2, h3, h4, h5⟩ := q6 k hk
      exact ⟨h1, h2, h3, fun z => h4 (by omega), fun z => h5 (by omega)⟩
  · exact (q7 b hb).same id (fun k hk => by rw [upd_n (by omega), upd_n (by omega), upd_n (by omega)]) (fun k h3 h8 => by
      show (hset (hset h 1 m (nI d)) 2 m (nI t)).2.1 k b = _
      rw [hset_n (by omega), hset_n (by omega)]) rfl (by
      show (hset (hset h 1 m (nI d)) 2 m (nI t)).2.1 (12 + b) = _
      rw [hset_n (by omega), hset_n (by omega)]) (by
      show (hset (hset h 1 m (nI d)) 2 m (nI t)).2.1 (20 + b) = _
      rw [hset_n (by omega), hset_n (by omega)])
