/-! ===== finish, closing of a reading, riding ===== -/
theorem aFinish_e {h : HV} {b : Nat} {s : Int32} (hb : b < 8) : aFinish h (nI b) s = hset (hset (hset (hset h 3 b s) 6 b 0) 7 b 0) 8 b 0 := by
  unfold aFinish
  rw [cN_nI (by omega)]
theorem hs_fin {m n b : Nat} {h h1 v1 : HV} {r : Nat → Int32} (q : HSn m n h r) (hb : b < n) (h8 : b < 8) (o : OffB b h h1 r (v1.2.1 1)) (h4 : v1.2.1 1 4 = h1.1 4) (hc : h1.2.2 b = cl64 (v1.2.1 1 (53 + 16 * b + 2)) (v1.2.1 1 (53 + 16 * b + 1))) (hg : ∃ g, g ≤ 3 ∧ h1.2.1 4 b = nI g) (e3 : v1.2.1 1 (53 + 16 * b + 3) = h1.2.1 4 b) (hd : ∃ d, d ≤ 209 ∧ h1.2.1 5 b = nI d) (e4 : v1.2.1 1 (53 + 16 * b + 4) = h1.2.1 5 b) {s : Int32} (hs : s = 1 ∨ s = 2) : HSn m n (aFinish h1 (nI b) s) ((mFin v1 b s).2.1 1) := by
  have er : (mFin v1 b s).2.1 1 = upd (upd (upd (upd (v1.2.1 1) (53 + 16 * b + 0) s) (53 + 16 * b + 7) 0) (53 + 16 * b + 5) 0) (53 + 16 * b + 6) 0 := rfl
  have hs0 : ¬ s = 0 := by rcases hs with rfl | rfl <;> decide
  rw [aFinish_e h8, er]
  refine q.bill ((((o.set (by decide)).set (by decide)).set (by decide)).set (by decide) |>.row (by decide) |>.row (by decide) |>.row (by decide) |>.row (by decide)) ?_ (BL.of (ρ := upd (upd (upd (upd (fun k => v1.2.1 1 (53 + 16 * b + k)) 0 s) 7 0) 5 0) 6 0) (st := s) (fo := 0) (ag := 0) (pe := 0) (rd := h1.2.1 4 b) (dl := h1.2.1 5 b) (cl := h1.2.2 b) (am := h1.2.1 (12 + b)) (su := h1.2.1 (20 + b)) ?_ ?_ rfl rfl ?_ ?_ ?_ rfl ?_ ?_ ?_)
  · rw [upd_n (by omega), upd_n (by omega), upd_n (by omega), upd_n (by omega)]; exact h4
  · obtain ⟨g, hg1, hg2⟩ := hg
    obtain ⟨d, hd1, hd2⟩ := hd
    exact BV.mk hb ⟨rfl, e3, e4, rfl, rfl, rfl⟩ hc ⟨0, by decide, rfl, fun q hq => absurd hq (Nat.not_lt_zero _)⟩ (Or.inr hs) ⟨g, hg1, hg2, fun z => absurd z hs0⟩ ⟨d, hd1, hd2, fun z => absurd z hs0⟩ (i_0and 0)
  · show upd (h1.2.1 3) b s b = s; exact upd_s ..
  · show upd (h1.2.1 6) b 0 b = 0; exact upd_s ..
  · show upd (h1.2.1 7) b 0 b = 0; exact upd_s ..
  · show upd (h1.2.1 8) b 0 b = 0; exact upd_s ..
  · rw [hset_n (by omega), hset_n (by omega), hset_n (by omega), hset_n (by omega)]
  · rw [hset_n (by omega), hset_n (by omega), hset_n (by omega), hset_n (by omega)]
  · rw [rho_upd, rho_upd, rho_upd, rho_upd]
theorem suc_iff {m n b : Nat} {h v : HV} (q : HSn m n h (v.2.1 1)) (h8 : b < 8) : sucE h (nI b) ↔ ¬ rWt v (rB v b 5) ≤ rWt v (rB v b 6) := by
  obtain ⟨⟨r0, r3, r4, r5, r6, r7⟩, -⟩ := q.bl h8
  show hW h (h.2.1 7 (cN (nI b))) < hW h (h.2.1 6 (cN (nI b))) ↔ ¬ rWt v (v.2.1 1 (53 + 16 * b + 5)) ≤ rWt v (v.2.1 1 (53 + 16 * b + 6))
  rw [cN_nI (by omega), r5, r6, q.eW, q.eW, nle_lt]
theorem nI_lt3 {g : Nat} (h : g ≤ 3) : nI g < 3 ↔ ¬ nI g = 3 := by
  rcases (show g = 0 ∨ g = 1 ∨ g = 2 ∨ g = 3 by omega) with rfl | rfl | rfl | rfl <;> decide
theorem hs_close {m n b : Nat} {h v : HV} (q : HSn m n h (v.2.1 1)) (hb : b < n) (h8 : b < 8) (s0 : h.2.1 3 b = 0) (p0 : h.2.1 8 b = 0) : HSn m n (aEnd h (nI b)) ((sCls v b).2.1 1) := by
  obtain ⟨⟨r0, r3, r4, r5, r6, r7⟩, rc, hp, hs, ⟨g, hg1, hg2, hg3⟩, ⟨d, hd1, hd2, hd3⟩, hx, -⟩ := q.bl h8
  have hgg := hg3 s0
  have e0 : aEnd0 h (nI b) = hset (hset h 6 b 0) 7 b 0 := by unfold aEnd0; rw [cN_nI (by omega)]
  have e1 : aEnd1 h (nI b) = hset (hset (hset h 6 b 0) 7 b 0) 4 b (nI (g + 1)) := by
    unfold aEnd1
    rw [e0, cN_nI (by omega)]
    show hset _ 4 b (h.2.1 4 b + 1) = _
    rw [hg2, nI_1]
  have o0 : OffB b h (aEnd0 h (nI b)) (v.2.1 1) ((sCls0 v b).2.1 1) := by
    rw [e0]
    show OffB b h _ (v.2.1 1) (upd (v.2.1 1) (53 + 16 * b + 3) _)
    exact ((OffB.rf.set (by decide)).set (by decide)).row (by decide)
  have o1 : OffB b h (aEnd1 h (nI b)) (v.2.1 1) ((sCls1 v b).2.1 1) := by
    rw [e1]
    show OffB b h _ (v.2.1 1) (upd (v.2.1 1) (53 + 16 * b + 3) _)
    exact (((OffB.rf.set (by decide)).set (by decide)).set (by decide)).row (by decide)
  have r31 : (sCls1 v b).2.1 1 (53 + 16 * b + 3) = nI (g + 1) := by
    show upd (v.2.1 1) (53 + 16 * b + 3) (v.2.1 1 (53 + 16 * b + 3) + 1) (53 + 16 * b + 3) = _
    rw [upd_s, r3, hg2, nI_1]
  have q4 : v.2.1 1 4 = h.1 4 := q.2.2.2.1.2.2
  have rx : ∀ (x : Int32) (k : Nat), k ≠ 3 → upd (v.2.1 1) (53 + 16 * b + 3) x (53 + 16 * b + k) = v.2.1 1 (53 + 16 * b + k) := fun x k hk => upd_n (by omega)
  unfold aEnd sCls
  by_cases c : sucE h (nI b)
  · rw [if_neg (fun z => z c), if_neg ((suc_iff q h8).mp c)]
    have cc : (aEnd1 h (nI b)).2.1 4 (cN (nI b)) = nI (g + 1) := by
      rw [e1, cN_nI (by omega)]
      show upd _ b (nI (g + 1)) b = _
      exact upd_s ..
    rw [cc]
    by_cases c3 : nI (g + 1) < 3
    · rw [if_pos c3, if_neg (show ¬ rB (sCls1 v b) b 3 = 3 from fun z => (nI_lt3 (by omega)).mp c3 (r31.symm.trans z))]
      have er : (mFin (sCls1 v b) b 0).2.1 1 = upd (upd (upd (upd (upd (v.2.1 1) (53 + 16 * b + 3) (v.2.1 1 (53 + 16 * b + 3) + 1)) (53 + 16 * b + 0) 0) (53 + 16 * b + 7) 0) (53 + 16 * b + 5) 0) (53 + 16 * b + 6) 0 := rfl
      rw [er, e1]
      refine q.bill ((((OffB.rf.set (by decide)).set (by decide)).set (by decide)) |>.row (by decide) |>.row (by decide) |>.row (by decide) |>.row (by decide) |>.row (by decide)) ?_ (BL.of (ρ := upd (upd (upd (upd (upd (fun k => v.2.1 1 (53 + 16 * b + k)) 3 (v.2.1 1 (53 + 16 * b + 3) + 1)) 0 0) 7 0) 5 0) 6 0) (st := 0) (fo := 0) (ag := 0) (pe := 0) (rd := nI (g + 1)) (dl := h.2.1 5 b) (cl := h.2.2 b) (am := h.2.1 (12 + b)) (su := h.2.1 (20 + b)) ?_ s0 ?_ rfl ?_ ?_ p0 rfl ?_ ?_ ?_)
      · rw [upd_n (by omega), upd_n (by omega), upd_n (by omega), upd_n (by omega), upd_n (by omega)]; exact q4
      · have hg9 : g + 1 ≤ 2 := by
          have := (nI_ltI (b := 3) (by omega) (by decide)).mp c3
          omega
        refine BV.mk hb ⟨rfl, ?_, r4, rfl, rfl, rfl⟩ rc ⟨0, by decide, rfl, fun q hq => absurd hq (Nat.not_lt_zero _)⟩ (Or.inl rfl) ⟨g + 1, by omega, rfl, fun _ => hg9⟩ ⟨d, hd1, hd2, fun _ => hd3 s0⟩ (i_0and 0)
        show v.2.1 1 (53 + 16 * b + 3) + 1 = _
        rw [r3, hg2, nI_1]
      · show upd (h.2.1 4) b _ b = _; exact upd_s ..
      · show upd (h.2.1 6) b 0 b = 0; exact upd_s ..
      · show upd (h.2.1 7) b 0 b = 0; exact upd_s ..
      · rw [hset_n (by omega), hset_n (by omega), hset_n (by omega)]
      · rw [hset_n (by omega), hset_n (by omega), hset_n (by omega)]
      · rw [rho_upd, rho_upd, rho_upd, rho_upd, rho_upd]
    · rw [if_neg c3, if_pos (show rB (sCls1 v b) b 3 = 3 from Classical.byContradiction fun z => c3 ((nI_lt3 (by omega)).mpr fun y => z (r31.trans y)))]
      refine hs_fin q hb h8 o1 ?_ ?_ ⟨g + 1, by omega, ?_⟩ ?_ ⟨d, hd1, ?_⟩ ?_ (Or.inl rfl)
      · rw [e1]; show upd (v.2.1 1) _ _ 4 = _; rw [upd_n (by omega)]; exact q4
      · rw [e1]; show h.2.2 b = cl64 (upd (v.2.1 1) _ _ _) (upd (v.2.1 1) _ _ _); rw [rx _ 2 (by decide), rx _ 1 (by decide)]; exact rc
      · rw [e1]; show upd (h.2.1 4) b _ b = _; exact upd_s ..
      · rw [r31, e1]; show _ = upd (h.2.1 4) b _ b; rw [upd_s]
      · rw [e1]; exact hd2
      · rw [e1]; show upd (v.2.1 1) _ _ _ = _; rw [rx _ 4 (by decide)]; exact r4
  · rw [if_pos c, if_pos (Classical.byContradiction fun z => c ((suc_iff q h8).mpr z))]
    refine hs_fin q hb h8 o0 ?_ ?_ ⟨g, hg1, ?_⟩ ?_ ⟨d, hd1, ?_⟩ ?_ (Or.inr rfl)
    · rw [e0]; show upd (v.2.1 1) _ _ 4 = _; rw [upd_n (by omega)]; exact q4
    · rw [e0]; show h.2.2 b = cl64 (upd (v.2.1 1) _ _ _) (upd (v.2.1 1) _ _ _); rw [rx _ 2 (by decide), rx _ 1 (by decide)]; exact rc
    · rw [e0]; exact hg2
    · rw [e0]; show upd (v.2.1 1) _ (v.2.1 1 (53 + 16 * b + 3) + 0) _ = _; rw [upd_s, i_add0]; exact r3
    · rw [e0]; exact hd2
    · rw [e0]; show upd (v.2.1 1) _ _ _ = _; rw [rx _ 4 (by decide)]; exact r4
theorem nI_div {a b : Nat} (ha : a < 2 ^ 31) (hb : b < 2 ^ 31) : nI a / nI b = nI (a / b) := by
  apply Int32.toInt_inj.mp
  have hd : a / b < 2 ^ 31 := Nat.lt_of_le_of_lt (Nat.div_le_self a b) ha
  rw [nI_toInt hd, Int32.toInt_div, nI_toInt ha, nI_toInt hb]
  rw [show ((a : Int).tdiv (b : Int)) = ((a / b : Nat) : Int) from rfl]
  generalize a / b = c at hd ⊢
  exact Int.bmod_eq_of_le (by omega) (by omega)
theorem hs_ride {m n b k : Nat} {h v : HV} (q : HSn m n h (v.2.1 1)) (hb : b < n) (h8 : b < 8) (s0 : h.2.1 3 b = 0) (hk : k ≤ 30) : HSn m n (aHold h (nI b) (nI k)) ((sHol v b (nI k)).2.1 1) ∧ hRust (aHold h (nI b) (nI k)) (cN (nI b)) = rB (sHol v b (nI k)) b 4 / 60 := by
  obtain ⟨⟨r0, r3, r4, r5, r6, r7⟩, rc, hp, hs, ⟨g, hg1, hg2, hg3⟩, ⟨d, hd1, hd2, hd3⟩, hx, -⟩ := q.bl h8
  have hdd := hd3 s0
  have e0 : aHold0 h (nI b) (nI k) = hset h 5 b (nI (d + k)) := by
    unfold aHold0
    rw [cN_nI (by omega), hd2, nI_add]
  have er0 : (sHol0 v b (nI k)).2.1 1 = upd (v.2.1 1) (53 + 16 * b + 4) (nI (d + k)) := by
    show upd (v.2.1 1) (53 + 16 * b + 4) (v.2.1 1 (53 + 16 * b + 4) + nI k) = _
    rw [r4, hd2, nI_add]
  have q4 : v.2.1 1 4 = h.1 4 := q.2.2.2.1.2.2
  have o0 : OffB b h (hset h 5 b (nI (d + k))) (v.2.1 1) ((sHol0 v b (nI k)).2.1 1) := by rw [er0]; exact (OffB.rf.set (by decide)).row (by decide)
  have eh : hRust (aHold0 h (nI b) (nI k)) (cN (nI b)) = nI (d + k) / 60 := by
    rw [e0, cN_nI (by omega)]
    show upd (h.2.1 5) b _ b / 60 = _
    rw [upd_s]
  have ev : rB (sHol0 v b (nI k)) b 4 / 60 = nI (d + k) / 60 := by
    show (sHol0 v b (nI k)).2.1 1 (53 + 16 * b + 4) / 60 = _
    rw [er0, upd_s]
  unfold aHold sHol
  rw [eh, ev]
  by_cases c : nI (d + k) / 60 < 3
  · rw [if_pos c, if_pos c]
    refine ⟨?_, by rw [eh, ev]⟩
    rw [e0, er0]
    refine q.bill ((OffB.rf.set (by decide)).row (by decide)) ?_ (BL.of (ρ := upd (fun j => v.2.1 1 (53 + 16 * b + j)) 4 (nI (d + k))) (st := h.2.1 3 b) (rd := h.2.1 4 b) (dl := nI (d + k)) (fo := h.2.1 6 b) (ag := h.2.1 7 b) (pe := h.2.1 8 b) (cl := h.2.2 b) (am := h.2.1 (12 + b)) (su := h.2.1 (20 + b)) ?_ rfl rfl ?_ rfl rfl rfl rfl ?_ ?_ ?_)
    · rw [upd_n (by omega)]; exact q4
    · refine BV.mk hb ⟨r0, r3, rfl, r5, r6, r7⟩ rc ?_ hs ⟨g, hg1, hg2, hg3⟩ ⟨d + k, by omega, rfl, fun _ => ?_⟩ hx
      · obtain ⟨p, h1, h2, h3⟩ := hp
        refine ⟨p, h1, h2, fun q hq => ?_⟩
        rw [upd_n (by omega), upd_n (by omega)]
        exact h3 q hq
      · have e9 : nI (d + k) / 60 = nI ((d + k) / 60) := nI_div (b := 60) (by omega) (by decide)
        rw [e9] at c
        have := (nI_ltI (b := 3) (by omega) (by decide)).mp c
        omega
    · show upd (h.2.1 5) b _ b = _; exact upd_s ..
    · rw [hset_n (by omega)]
    · rw [hset_n (by omega)]
    · rw [rho_upd]
  · rw [if_neg c, if_neg c]
    have rx : ∀ (j : Nat), j ≠ 4 → (sHol0 v b (nI k)).2.1 1 (53 + 16 * b + j) = v.2.1 1 (53 + 16 * b + j) := fun j hj => by rw [er0, upd_n (by omega)]
    refine ⟨?_, ?_⟩
    · rw [e0]
      refine hs_fin q hb h8 o0 ?_ ?_ ⟨g, hg1, hg2⟩ ?_ ⟨d + k, by omega, ?_⟩ ?_ (Or.inr rfl)
      · rw [er0, upd_n (by omega)]; exact q4
      · rw [rx 2 (by decide), rx 1 (by decide)]; exact rc
      · rw [rx 3 (by decide)]; exact r3
      · show upd (h.2.1 5) b _ b = _; exact upd_s ..
      · rw [er0, upd_s]; show _ = upd (h.2.1 5) b _ b; rw [upd_s]
    · have e1 : hRust (aFinish (aHold0 h (nI b) (nI k)) (nI b) 2) (cN (nI b)) = nI (d + k) / 60 := by
        rw [aFinish_e h8, e0, cN_nI (by omega)]
        show upd (h.2.1 5) b _ b / 60 = _
        rw [upd_s]
      have e2 : rB (mFin (sHol0 v b (nI k)) b 2) b 4 / 60 = nI (d + k) / 60 := by
        show upd (upd (upd (upd ((sHol0 v b (nI k)).2.1 1) (53 + 16 * b + 0) 2) (53 + 16 * b + 7) 0) (53 + 16 * b + 5) 0) (53 + 16 * b + 6) 0 (53 + 16 * b + 4) / 60 = _
        rw [upd_n (by omega), upd_n (by omega), upd_n (by omega), upd_n (by omega)]
        exact ev
      rw [e1, e2]
