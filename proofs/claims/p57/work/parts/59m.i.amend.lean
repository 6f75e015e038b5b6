/-! ===== amendments ===== -/
theorem aMove_e {h : HV} {b p : Nat} {x c : Int32} (hb : b < 8) (hp : p < 2 ^ 31) (ep : h.2.1 8 b = nI p) : aMove h (nI b) x c = hset (hset (hset h (12 + b) p c) (20 + b) p (shl 1 x)) 8 b (nI (p + 1)) := by
  unfold aMove
  rw [cN_nI (by omega), ep, cN_nI hp]
  have e1 : (hset (hset h (12 + b) p c) (20 + b) p (bit x)).2.1 8 b = nI p := by rw [hset_n (by omega), hset_n (by omega)]; exact ep
  show hset _ 8 b ((hset (hset h (12 + b) p c) (20 + b) p (bit x)).2.1 8 b + 1) = _
  rw [e1, nI_1]
theorem hs_move {m n b k : Nat} {h v : HV} (q : HSn m n h (v.2.1 1)) (hb : b < n) (h8 : b < 8) (hk : k < 64) (x : Int32) (hp4 : ¬ (4 : Int32) ≤ h.2.1 8 b) : HSn m n (aMove h (nI b) x (nI k)) ((sMov v b x (nI k)).2.1 1) := by
  obtain ⟨⟨r0, r3, r4, r5, r6, r7⟩, rc, ⟨p, hp, ep, hq⟩, hs, hg, hd, hx, -⟩ := (q.bl h8).bv
  have hp3 : p < 4 := by
    rw [ep] at hp4
    have hp5 : ¬ nI 4 ≤ nI p := hp4
    rw [nI_leI (by decide) (by omega)] at hp5
    omega
  have e7 : v.2.1 1 (53 + 16 * b + 7) = nI p := (show v.2.1 1 (53 + 16 * b + 7) = _ from r7).trans ep
  have er : (sMov v b x (nI k)).2.1 1 = upd (upd (upd (v.2.1 1) (53 + 16 * b + 7) (nI (p + 1))) (53 + 16 * b + (8 + 2 * p)) (nI k)) (53 + 16 * b + (8 + 2 * p + 1)) (shl 1 x) := by
    show upd (upd (upd (v.2.1 1) (53 + 16 * b + 7) (v.2.1 1 (53 + 16 * b + 7) + 1)) (53 + 16 * b + (8 + 2 * cN (v.2.1 1 (53 + 16 * b + 7)))) (nI k)) (53 + 16 * b + (8 + 2 * cN (v.2.1 1 (53 + 16 * b + 7)) + 1)) (shl 1 x) = _
    rw [e7, cN_nI (by omega), nI_1]
  rw [aMove_e h8 (by omega) ep, er]
  refine q.bill ((((OffB.rf.seta h8).sets h8).set (by decide)) |>.row (by decide) |>.row (by omega) |>.row (by omega)) ?_ (BL.of (ρ := upd (upd (upd (fun j => v.2.1 1 (53 + 16 * b + j)) 7 (nI (p + 1))) (8 + 2 * p) (nI k)) (8 + 2 * p + 1) (shl 1 x)) (st := h.2.1 3 b) (rd := h.2.1 4 b) (dl := h.2.1 5 b) (fo := h.2.1 6 b) (ag := h.2.1 7 b) (pe := nI (p + 1)) (cl := h.2.2 b) (am := upd (h.2.1 (12 + b)) p (nI k)) (su := upd (h.2.1 (20 + b)) p (shl 1 x)) ?_ ?_ ?_ ?_ ?_ ?_ ?_ rfl ?_ ?_ ?_)
  · rw [upd_n (by omega), upd_n (by omega), upd_n (by omega)]; exact q.2.2.2.1.2.2
  · have z : ∀ j, j < 8 → j ≠ 7 → upd (upd (upd (fun j => v.2.1 1 (53 + 16 * b + j)) 7 (nI (p + 1))) (8 + 2 * p) (nI k)) (8 + 2 * p + 1) (shl 1 x) j = v.2.1 1 (53 + 16 * b + j) := fun j h1 h2 => by rw [upd_n (by omega), upd_n (by omega), upd_n (by omega)]
    refine BV.mk hb ⟨(z 0 (by decide) (by decide)).trans r0, (z 3 (by decide) (by decide)).trans r3, (z 4 (by decide) (by decide)).trans r4, (z 5 (by decide) (by decide)).trans r5, (z 6 (by decide) (by decide)).trans r6, ?_⟩ ?_ ⟨p + 1, by omega, rfl, fun j hj => ?_⟩ hs hg hd hx
    · rw [upd_n (by omega), upd_n (by omega), upd_s]
    · rw [z 2 (by decide) (by decide), z 1 (by decide) (by decide)]; exact rc
    · by_cases c : j = p
      · subst c
        rw [upd_n (i := 8 + 2 * j + 1) (j := 8 + 2 * j) (by omega), upd_s, upd_s, upd_s, upd_s]
        exact ⟨rfl, rfl, k, hk, rfl⟩
      · rw [upd_n (i := 8 + 2 * p + 1) (j := 8 + 2 * j) (by omega), upd_n (i := 8 + 2 * p) (j := 8 + 2 * j) (by omega), upd_n (i := 7) (j := 8 + 2 * j) (by omega), upd_n (i := 8 + 2 * p + 1) (j := 8 + 2 * j + 1) (by omega), upd_n (i := 8 + 2 * p) (j := 8 + 2 * j + 1) (by omega), upd_n (i := 7) (j := 8 + 2 * j + 1) (by omega), upd_n (i := p) (j := j) c, upd_n (i := p) (j := j) c]
        exact hq j (by omega)
  · rw [hset_n (by omega), hset_n (by omega), hset_n (by omega)]
  · rw [hset_n (by omega), hset_n (by omega), hset_n (by omega)]
  · rw [hset_n (by omega), hset_n (by omega), hset_n (by omega)]
  · rw [hset_n (by omega), hset_n (by omega), hset_n (by omega)]
  · rw [hset_n (by omega), hset_n (by omega), hset_n (by omega)]
  · rw [hset_s]; exact upd_s ..
  · rw [hset_n (by omega), hset_n (by omega), hset_s]
  · rw [hset_n (by omega), hset_s, hset_n (by omega)]
  · rw [rho_upd, rho_upd, rho_upd]
theorem hs_second {m n b p0 : Nat} {h v : HV} (q : HSn m n h (v.2.1 1)) (hb : b < n) (h8 : b < 8) (x : Int32) (hp0 : ∃ p, p0 < p ∧ p ≤ 4 ∧ h.2.1 8 b = nI p) : HSn m n (aSecond h (nI b) (nI p0) x) ((sSec v b p0 x).2.1 1) ∧ (aSecond h (nI b) (nI p0) x).2.1 (20 + cN (nI b)) (cN (nI p0)) = rB (sSec v b p0 x) b (8 + 2 * p0 + 1) := by
  obtain ⟨p', hp1, hp2, hp3⟩ := hp0
  obtain ⟨⟨r0, r3, r4, r5, r6, r7⟩, rc, ⟨p, hp, ep, hq⟩, hs, hg, hd, hx, -⟩ := (q.bl h8).bv
  have e : p' = p := (nI_eq (by omega) (by omega)).mp (hp3.symm.trans ep)
  subst e
  have e1 : aSecond h (nI b) (nI p0) x = hset h (20 + b) p0 (h.2.1 (20 + b) p0 ||| shl 1 x) := by
    unfold aSecond
    rw [cN_nI (by omega), cN_nI (by omega)]
  have es := (hq p0 hp1).2.1
  have er : (sSec v b p0 x).2.1 1 = upd (v.2.1 1) (53 + 16 * b + (8 + 2 * p0 + 1)) (h.2.1 (20 + b) p0 ||| shl 1 x) := by
    show upd (v.2.1 1) (53 + 16 * b + (8 + 2 * p0 + 1)) (v.2.1 1 (53 + 16 * b + (8 + 2 * p0 + 1)) ||| shl 1 x) = _
    rw [show v.2.1 1 (53 + 16 * b + (8 + 2 * p0 + 1)) = _ from es]
  refine ⟨?_, ?_⟩
  · rw [e1, er]
    refine q.bill ((OffB.rf.sets h8).row (by omega)) ?_ (BL.of (ρ := upd (fun j => v.2.1 1 (53 + 16 * b + j)) (8 + 2 * p0 + 1) (h.2.1 (20 + b) p0 ||| shl 1 x)) (st := h.2.1 3 b) (rd := h.2.1 4 b) (dl := h.2.1 5 b) (fo := h.2.1 6 b) (ag := h.2.1 7 b) (pe := h.2.1 8 b) (cl := h.2.2 b) (am := h.2.1 (12 + b)) (su := upd (h.2.1 (20 + b)) p0 (h.2.1 (20 + b) p0 ||| shl 1 x)) ?_ ?_ ?_ ?_ ?_ ?_ ?_ rfl ?_ ?_ ?_)
    · rw [upd_n (by omega)]; exact q.2.2.2.1.2.2
    · have z : ∀ j, j < 8 → upd (fun j => v.2.1 1 (53 + 16 * b + j)) (8 + 2 * p0 + 1) (h.2.1 (20 + b) p0 ||| shl 1 x) j = v.2.1 1 (53 + 16 * b + j) := fun j h1 => upd_n (by omega)
      refine BV.mk hb ⟨(z 0 (by decide)).trans r0, (z 3 (by decide)).trans r3, (z 4 (by decide)).trans r4, (z 5 (by decide)).trans r5, (z 6 (by decide)).trans r6, (z 7 (by decide)).trans r7⟩ ?_ ⟨p', hp, ep, fun j hj => ?_⟩ hs hg hd hx
      · rw [z 2 (by decide), z 1 (by decide)]; exact rc
      · rw [upd_n (i := 8 + 2 * p0 + 1) (j := 8 + 2 * j) (by omega)]
        by_cases c : j = p0
        · subst c
          rw [upd_s, upd_s]
          exact ⟨(hq j hj).1, rfl, (hq j hj).2.2⟩
        · rw [upd_n (i := 8 + 2 * p0 + 1) (j := 8 + 2 * j + 1) (by omega), upd_n c]
          exact hq j hj
    · rw [hset_n (by omega)]
    · rw [hset_n (by omega)]
    · rw [hset_n (by omega)]
    · rw [hset_n (by omega)]
    · rw [hset_n (by omega)]
    · rw [hset_n (by omega)]
    · rw [hset_n (by omega)]
    · rw [hset_s]
    · rw [rho_upd]
  · rw [e1, cN_nI (by omega), cN_nI (by omega), hset_s, upd_s]
    show _ = (sSec v b p0 x).2.1 1 (53 + 16 * b + (8 + 2 * p0 + 1))
    rw [er, upd_s]
