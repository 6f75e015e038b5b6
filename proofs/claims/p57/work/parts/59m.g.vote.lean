/-! ===== changes of one bill ===== -/
theorem b_n {x : Int32} {i : Nat} (hi : i < 32) : bt (x ^^^ (-1)) i = !bt x i := by rw [b_xor, b_m1 i hi, Bool.xor_true]
/-- one voter goes from one set to the other: they stay apart -/
theorem cross {f g t : Int32} (h : f &&& g = 0) : (f ||| t) &&& (g &&& (t ^^^ (-1))) = 0 := b_ext fun i hi => by
  have h1 : bt (f &&& g) i = false := by rw [h, b_0]
  rw [b_and] at h1
  rw [b_and, b_or, b_and, b_n hi, b_0]
  cases c1 : bt f i <;> cases c2 : bt g i <;> cases c3 : bt t i <;> first | rfl | (rw [c1, c2] at h1; exact absurd h1 (by decide))
theorem i_and_comm (x y : Int32) : x &&& y = y &&& x := b_ext fun i _ => by rw [b_and, b_and, Bool.and_comm]
theorem i_0and (x : Int32) : 0 &&& x = 0 := b_ext fun i _ => by rw [b_and, b_0, Bool.false_and]
theorem BV.mk {n b : Nat} {st rd dl fo ag pe : Int32} {cl : Int64} {am su ρ : Nat → Int32} (hb : b < n) (h1 : ρ 0 = st ∧ ρ 3 = rd ∧ ρ 4 = dl ∧ ρ 5 = fo ∧ ρ 6 = ag ∧ ρ 7 = pe) (h2 : cl = cl64 (ρ 2) (ρ 1)) (h3 : ∃ p, p ≤ 4 ∧ pe = nI p ∧ ∀ q, q < p → ρ (8 + 2 * q) = am q ∧ ρ (8 + 2 * q + 1) = su q ∧ ∃ c, c < 64 ∧ am q = nI c) (h4 : st = 0 ∨ st = 1 ∨ st = 2) (h5 : ∃ g, g ≤ 3 ∧ rd = nI g ∧ (st = 0 → g ≤ 2)) (h6 : ∃ d, d ≤ 209 ∧ dl = nI d ∧ (st = 0 → d < 180)) (h7 : fo &&& ag = 0) : BV n b st rd dl fo ag pe cl am su ρ := ⟨h1, h2, h3, h4, h5, h6, h7, fun z => absurd z (by omega)⟩
theorem aFor_e {h : HV} {b : Nat} {x : Int32} (hb : b < 8) : aFor h (nI b) x = hset (hset h 6 b (h.2.1 6 b ||| shl 1 x)) 7 b (h.2.1 7 b &&& (shl 1 x ^^^ (-1))) := by
  unfold aFor
  rw [cN_nI (by omega)]
  rfl
theorem aAgainst_e {h : HV} {b : Nat} {x : Int32} (hb : b < 8) : aAgainst h (nI b) x = hset (hset h 7 b (h.2.1 7 b ||| shl 1 x)) 6 b (h.2.1 6 b &&& (shl 1 x ^^^ (-1))) := by
  unfold aAgainst
  rw [cN_nI (by omega)]
  rfl
theorem sVote_e {v : HV} {b s o : Nat} {x : Int32} (h : o ≠ s) : (sVote v b x s o).2.1 1 = upd (upd (v.2.1 1) (53 + 16 * b + s) (v.2.1 1 (53 + 16 * b + s) ||| shl 1 x)) (53 + 16 * b + o) (v.2.1 1 (53 + 16 * b + o) &&& (shl 1 x ^^^ (-1))) := by
  show upd (upd (v.2.1 1) (53 + 16 * b + s) (v.2.1 1 (53 + 16 * b + s) ||| shl 1 x)) (53 + 16 * b + o) (upd (v.2.1 1) (53 + 16 * b + s) (v.2.1 1 (53 + 16 * b + s) ||| shl 1 x) (53 + 16 * b + o) &&& (shl 1 x ^^^ (-1))) = _
  rw [upd_n (i := 53 + 16 * b + s) (j := 53 + 16 * b + o) (by omega)]
theorem hs_for {m n b : Nat} {h v : HV} (q : HSn m n h (v.2.1 1)) (hb : b < n) (h8 : b < 8) (x : Int32) : HSn m n (aFor h (nI b) x) ((sVote v b x 5 6).2.1 1) := by
  rw [aFor_e h8, sVote_e (by decide)]
  obtain ⟨⟨r0, r3, r4, r5, r6, r7⟩, rc, hp, hs, hg, hd, hx, -⟩ := (q.bl h8).bv
  refine q.bill ((OffB.rf.set (by decide)).set (by decide) |>.row (by decide) |>.row (by decide)) ?_ (BL.of (ρ := upd (upd (fun k => v.2.1 1 (53 + 16 * b + k)) 5 (v.2.1 1 (53 + 16 * b + 5) ||| shl 1 x)) 6 (v.2.1 1 (53 + 16 * b + 6) &&& (shl 1 x ^^^ (-1)))) (fo := h.2.1 6 b ||| shl 1 x) (ag := h.2.1 7 b &&& (shl 1 x ^^^ (-1))) (st := h.2.1 3 b) (rd := h.2.1 4 b) (dl := h.2.1 5 b) (pe := h.2.1 8 b) (cl := h.2.2 b) (am := h.2.1 (12 + b)) (su := h.2.1 (20 + b)) ?_ rfl rfl rfl ?_ ?_ rfl rfl ?_ ?_ ?_)
  · rw [upd_n (by omega), upd_n (by omega)]; exact q.2.2.2.1.2.2
  · refine BV.mk hb ⟨r0, r3, r4, ?_, ?_, r7⟩ rc ?_ hs hg hd (cross hx)
    · show v.2.1 1 (53 + 16 * b + 5) ||| shl 1 x = _; rw [show v.2.1 1 (53 + 16 * b + 5) = _ from r5]
    · show v.2.1 1 (53 + 16 * b + 6) &&& (shl 1 x ^^^ (-1)) = _; rw [show v.2.1 1 (53 + 16 * b + 6) = _ from r6]
    · obtain ⟨p, h1, h2, h3⟩ := hp
      refine ⟨p, h1, h2, fun q hq => ?_⟩
      rw [upd_n (by omega), upd_n (by omega), upd_n (by omega), upd_n (by omega)]
      exact h3 q hq
  · show upd (h.2.1 6) b _ b = _; exact upd_s ..
  · show upd (h.2.1 7) b _ b = _; exact upd_s ..
  · rw [hset_n (by omega), hset_n (by omega)]
  · rw [hset_n (by omega), hset_n (by omega)]
  · rw [rho_upd, rho_upd]
theorem hs_against {m n b : Nat} {h v : HV} (q : HSn m n h (v.2.1 1)) (hb : b < n) (h8 : b < 8) (x : Int32) : HSn m n (aAgainst h (nI b) x) ((sVote v b x 6 5).2.1 1) := by
  rw [aAgainst_e h8, sVote_e (by decide)]
  obtain ⟨⟨r0, r3, r4, r5, r6, r7⟩, rc, hp, hs, hg, hd, hx, -⟩ := (q.bl h8).bv
  refine q.bill ((OffB.rf.set (by decide)).set (by decide) |>.row (by decide) |>.row (by decide)) ?_ (BL.of (ρ := upd (upd (fun k => v.2.1 1 (53 + 16 * b + k)) 6 (v.2.1 1 (53 + 16 * b + 6) ||| shl 1 x)) 5 (v.2.1 1 (53 + 16 * b + 5) &&& (shl 1 x ^^^ (-1)))) (ag := h.2.1 7 b ||| shl 1 x) (fo := h.2.1 6 b &&& (shl 1 x ^^^ (-1))) (st := h.2.1 3 b) (rd := h.2.1 4 b) (dl := h.2.1 5 b) (pe := h.2.1 8 b) (cl := h.2.2 b) (am := h.2.1 (12 + b)) (su := h.2.1 (20 + b)) ?_ rfl rfl rfl ?_ ?_ rfl rfl ?_ ?_ ?_)
  · rw [upd_n (by omega), upd_n (by omega)]; exact q.2.2.2.1.2.2
  · refine BV.mk hb ⟨r0, r3, r4, ?_, ?_, r7⟩ rc ?_ hs hg hd ?_
    · show v.2.1 1 (53 + 16 * b + 5) &&& (shl 1 x ^^^ (-1)) = _; rw [show v.2.1 1 (53 + 16 * b + 5) = _ from r5]
    · show v.2.1 1 (53 + 16 * b + 6) ||| shl 1 x = _; rw [show v.2.1 1 (53 + 16 * b + 6) = _ from r6]
    · obtain ⟨p, h1, h2, h3⟩ := hp
      refine ⟨p, h1, h2, fun q hq => ?_⟩
      rw [upd_n (by omega), upd_n (by omega), upd_n (by omega), upd_n (by omega)]
      exact h3 q hq
    · rw [i_and_comm]; exact cross (by rw [i_and_comm]; exact hx)
  · show upd (h.2.1 6) b _ b = _; exact upd_s ..
  · show upd (h.2.1 7) b _ b = _; exact upd_s ..
  · rw [hset_n (by omega), hset_n (by omega)]
  · rw [hset_n (by omega), hset_n (by omega)]
  · rw [rho_upd, rho_upd]
