/-! ===== what the law's checks of a bill and of the ranks stand on ===== -/
theorem wL_0 {w : PV} : wL w w.2.2.2.1 = w := rfl
theorem ll_put {L : HV} {c : Int32} {n : Nat} (e : L.1 0 = nI n) (hn : n < 24) : (lPut L c).1 0 = nI (n + 1) := by
  rw [lPut_y (by rw [e]; exact (nI_ltI (b := 24) (by omega) (by decide)).mpr hn)]
  show L.1 0 + 1 = _
  rw [e]; exact nI_1 n
theorem ll_num {L : HV} {n : Nat} {x : Int32} (e : L.1 0 = nI n) (hn : n + 3 ≤ 24) : ∃ j, n + 1 ≤ j ∧ j ≤ n + 3 ∧ (lNum L x).1 0 = nI j := by
  have h1 : ∃ j, n ≤ j ∧ j ≤ n + 1 ∧ (lN1 L x).1 0 = nI j := by
    unfold lN1; split
    · exact ⟨n, by omega, by omega, e⟩
    · exact ⟨n + 1, by omega, by omega, ll_put e (by omega)⟩
  obtain ⟨j1, a1, a2, e1⟩ := h1
  have h2 : ∃ j, n ≤ j ∧ j ≤ n + 2 ∧ (lN2 L x).1 0 = nI j := by
    unfold lN2; split
    · exact ⟨j1, a1, by omega, e1⟩
    · exact ⟨j1 + 1, by omega, by omega, ll_put e1 (by omega)⟩
  obtain ⟨j2, b1, b2, e2⟩ := h2
  exact ⟨j2 + 1, by omega, by omega, ll_put e2 (by omega)⟩
theorem ll_star {L : HV} {n : Nat} (e : L.1 0 = nI n) : ∀ k, n + k ≤ 24 → (lStar L k).1 0 = nI (n + k)
  | 0, _ => e
  | k + 1, h => ll_put (n := n + k) (ll_star e k (by omega)) (by omega)
theorem ll_all {h L : HV} {b : Int32} {r : Nat} (hr : r ≤ 3) (er : hRust h (cN b) = nI r) : ∃ j, (h.2.1 3 (cN b) = 0 → 9 + r ≤ j) ∧ 5 + r ≤ j ∧ j ≤ 24 ∧ (dL h L b).1 0 = nI j := by
  have e0 : (hsc L 0 0).1 0 = nI 0 := hsc_s _ _ _
  obtain ⟨j1, a1, b1, e1⟩ := ll_num (x := b) e0 (by decide)
  have e2 := ll_put (c := sgn (h.2.1 3 (cN b))) e1 (by omega)
  obtain ⟨j3, a3, b3, e3⟩ := ll_num (x := h.2.1 4 (cN b)) e2 (by omega)
  have e3 : (dL3 h L b).1 0 = nI j3 := e3
  have e4 := ll_star e3 r (by omega)
  have e5 := ll_put (c := 58) e4 (by omega)
  obtain ⟨j6, a6, b6, e6⟩ := ll_num (x := jbl (h.2.2 (cN b))) e5 (by omega)
  have e6 : (dL6 h L b).1 0 = nI j6 := by unfold dL6; rw [er, cN_nI (by omega)]; exact e6
  by_cases c : h.2.1 3 (cN b) = 0
  · have e7 := ll_put (c := 43) e6 (by omega)
    obtain ⟨j8, a8, b8, e8⟩ := ll_num (x := hW h (h.2.1 6 (cN b))) e7 (by omega)
    have e9 := ll_put (c := 45) e8 (by omega)
    obtain ⟨j10, a10, b10, e10⟩ := ll_num (x := hW h (h.2.1 7 (cN b))) e9 (by omega)
    refine ⟨j10, fun _ => by omega, by omega, by omega, ?_⟩
    unfold dL; rw [if_pos c]; exact e10
  · refine ⟨j6, fun z => absurd z c, by omega, by omega, ?_⟩
    unfold dL; rw [if_neg c]; exact e6
theorem sh_all {m n : Nat} {h u : HV} (q : HSn m n h (u.2.1 1)) {b : Nat} (hb : b < 8) (c : ¬ shB h (nI b) = 0) : vf_n32 (shX h (nI b)) ∧ Op.cmpValue (FP.fcmp (shX h (nI b)) (shX h (nI b))) .l = 0 ∧ bsV (shX h (nI b)) = (shX h (nI b)).toInt32 := by
  obtain ⟨a, d, hac, e1, e2, e3, e4⟩ := q.share hb
  have hp : 1 ≤ a + d := Nat.pos_of_ne_zero fun z => c (by rw [e1, z]; rfl)
  have k := shN_use (shN_all (a := a) hp hac (by omega))
  rw [e3]
  exact ⟨k.1, k.2.2.2, k.2.2.1⟩
theorem wSum_z (w : Nat → Int32) : ∀ n, n ≤ 24 → wSum w 0 n = 0
  | 0, _ => rfl
  | n + 1, h => by
    show (if inS 0 (nI n) then _ else _) = _
    rw [if_neg (fun z => by have := (inS_bt (by omega)).mp z; rw [b_0] at this; exact absurd this (by decide))]
    exact wSum_z w n (by omega)
theorem hW_z {h : HV} : hW h 0 = 0 := wSum_z _ 24 (Nat.le_refl _)
theorem rd3 {h : HV} {b : Nat} (x : XB h b) (hs : h.2.1 3 b = 0 ∨ h.2.1 3 b = 1 ∨ h.2.1 3 b = 2) (hg : h.2.1 3 b = 0 → ¬ h.2.1 4 b = 3) : h.2.1 3 b = 1 ↔ h.2.1 4 b = 3 := by
  refine ⟨x.2.1, fun z => ?_⟩
  rcases hs with s | s | s
  · exact absurd z (hg s)
  · exact s
  · exact absurd z (x.2.2 s)
theorem one_bit (x : Int64) : lg_cmp (x &&& 1) 1 = 0 ↔ ¬ lg_cmp (x &&& 1) 0 = 0 := by
  have h2 : x &&& 1 = 0 ∨ x &&& 1 = 1 := by
    cases c : bl x 0
    · exact Or.inl (l_and1.mpr c)
    · right
      refine l_ext fun i hi => ?_
      rw [l_and, l_1]
      by_cases e : i = 0
      · subst e; rw [c]; rfl
      · rw [decide_eq_false e, Bool.and_false]
  rcases h2 with e | e
  · rw [e]; decide
  · rw [e]; decide
theorem rl_0 {x : Int64} {i : Nat} (c : ¬ lg_cmp (lus x (nI i) &&& 1) 1 = 0) : (0 : Int32) = runL x (i + 1) := (if_pos (Classical.not_not.mp fun z => c ((one_bit _).mpr z))).symm
theorem rl_1 {x : Int64} {i : Nat} (c : lg_cmp (lus x (nI i) &&& 1) 1 = 0) : runL x i + 1 = runL x (i + 1) := (if_neg ((one_bit _).mp c)).symm
/-- ranks: the bill at each rank, and that ranks go on -/
theorem rk_k {m n : Nat} {h u : HV} (q : HSn m n h (u.2.1 1)) : ∃ K : Nat → Nat, (∀ x y, x < 8 → y < 8 → K x = K y → x = y) ∧ (∀ x y, x < 8 → y < 8 → (hAhd h (nI x) (nI y) ↔ K x < K y)) ∧ ∀ b, b < 8 → ∀ B, B ≤ 8 → hRank h (nI b) B = nI (ct (fun x => decide (K x < K b)) B) := by
  have kG : ∀ k, ∃ g, k < 8 → (h.2.1 4 k = nI g ∧ g < 4) := fun k => by
    by_cases hk : k < 8
    · obtain ⟨-, -, -, -, ⟨g, hg, e, -⟩, -⟩ := q.bl hk
      exact ⟨g, fun _ => ⟨e, by omega⟩⟩
    · exact ⟨0, fun z => absurd z hk⟩
  have kR : ∀ k, ∃ g, k < 8 → (hRust h k = nI g ∧ g < 4) := fun k => by
    by_cases hk : k < 8
    · obtain ⟨-, -, -, -, -, ⟨d, hd, e, -⟩, -⟩ := q.bl hk
      refine ⟨d / 60, fun _ => ⟨?_, by omega⟩⟩
      show h.2.1 5 k / 60 = _
      rw [e]
      exact nI_div (b := 60) (by omega) (by decide)
    · exact ⟨0, fun z => absurd z hk⟩
  obtain ⟨G, hG⟩ := Classical.axiomOfChoice kG
  obtain ⟨Ru, hR⟩ := Classical.axiomOfChoice kR
  refine ⟨key G Ru, fun x y hx hy e => ?_, fun x y hx hy => hAhd_key hG hR hx hy, fun b hb B hB => hRankN hb (fun x y hx hy => hAhd_key hG hR hx hy) B hB⟩
  have h1 := (hG x hx).2
  have h2 := (hG y hy).2
  have h3 := (hR x hx).2
  have h4 := (hR y hy).2
  unfold key at e
  omega
theorem bar_f {h : HV} {r : Int32} {B : Nat} : ∀ k, (∃ b, b < k ∧ hRank h (nI b) B = r) → ∃ b, b < k ∧ hRank h (nI b) B = r ∧ bar h r B k = nI b
  | 0, ⟨_, z, _⟩ => absurd z (Nat.not_lt_zero _)
  | k + 1, ⟨b, hb, e⟩ => by
    by_cases c : hRank h (nI k) B = r
    · exact ⟨k, by omega, c, bar_y c⟩
    · have hb2 : b < k := by
        rcases Nat.lt_or_eq_of_le (Nat.le_of_lt_succ hb) with z | z
        · exact z
        · rw [z] at e; exact absurd e c
      obtain ⟨x, h1, h2, h3⟩ := bar_f k ⟨b, hb2, e⟩
      exact ⟨x, by omega, h2, (bar_n c).trans h3⟩
/-- the bills at ranks r and r + 1 -/
theorem rk_at {m n : Nat} {w : PV} {u : HV} (q : HSn m n (w.1 0) (u.2.1 1)) {r : Nat} (hr : r + 1 < n) : ∃ x y, x < n ∧ y < n ∧ wI (-1000) (pBillAtRank w (nI r)).1 = nI x ∧ wI (-1000) (pBillAtRank w (nI (r + 1))).1 = nI y ∧ hAhd (w.1 0) (nI x) (nI y) := by
  have hn := q.1.2
  obtain ⟨K, k1, k2, k3⟩ := rk_k q
  have en : (w.1 0).1 3 = nI n := q.2.2.1.1
  have ec : cN ((w.1 0).1 3) = n := by rw [en, cN_nI (by omega)]
  have at1 : ∀ r, r < n → ∃ x, x < n ∧ wI (-1000) (pBillAtRank w (nI r)).1 = nI x ∧ ct (fun z => decide (K z < K x)) n = r := fun r hr => by
    obtain ⟨b, hb, e⟩ := rk_onto (K := K) (B := n) (fun x y hx hy => k1 x y (by omega) (by omega)) hr
    obtain ⟨x, h1, h2, h3⟩ := bar_f (h := w.1 0) (r := nI r) (B := n) n ⟨b, hb, (k3 b (by omega) n hn).trans (by rw [e])⟩
    refine ⟨x, h1, ?_, ?_⟩
    · have g : 0 ≤ nI r ∧ nI r < (w.1 0).1 3 := ⟨nneg (by omega), by rw [en]; exact (nI_ltI (by omega) (by omega)).mpr hr⟩
      refine (wI_y g).trans ?_
      rw [ec]; exact h3
    · rw [k3 x (by omega) n hn] at h2
      have := ct_le (fun z => decide (K z < K x)) n
      exact (nI_eq (by omega) (by omega)).mp h2
  obtain ⟨x, hx, ex, cx⟩ := at1 r (by omega)
  obtain ⟨y, hy, ey, cy⟩ := at1 (r + 1) hr
  refine ⟨x, y, hx, hy, ex, ey, (k2 x y (by omega) (by omega)).mpr ?_⟩
  refine Nat.not_le.mp fun z => ?_
  have := ct_mono (p := fun z => decide (K z < K y)) (q := fun z => decide (K z < K x)) n (fun i _ h => by
    have h := of_decide_eq_true h
    exact decide_eq_true (by omega))
  omega
theorem ah_ord {h : HV} {x y : Int32} {a b c d : Nat} (ha : a < 4) (hb : b < 4) (hc : c < 4) (hd : d < 4) (e1 : h.2.1 4 (cN x) = nI a) (e2 : h.2.1 4 (cN y) = nI b) (e3 : hRust h (cN x) = nI c) (e4 : hRust h (cN y) = nI d) (z : hAhd h x y) : 0 < h.2.1 4 (cN x) - h.2.1 4 (cN y) ∨ (h.2.1 4 (cN x) - h.2.1 4 (cN y) = 0 ∧ (0 < hRust h (cN y) - hRust h (cN x) ∨ (hRust h (cN y) - hRust h (cN x) = 0 ∧ x < y))) := by
  have k1 : ∀ a, a < 4 → ∀ b, b < 4 → (nI b < nI a → 0 < nI a - nI b) ∧ (nI a = nI b → nI a - nI b = 0) := by decide +kernel
  unfold hAhd at z
  split at z
  · left
    rw [e1, e2] at z ⊢
    exact (k1 a ha b hb).1 z
  · rename_i c1
    have c1 := Classical.not_not.mp c1
    right
    refine ⟨?_, ?_⟩
    · rw [e1, e2] at c1 ⊢; exact (k1 a ha b hb).2 c1
    · split at z
      · left
        rw [e3, e4] at z ⊢
        exact (k1 d hd c hc).1 z
      · rename_i c2
        have c2 := Classical.not_not.mp c2
        right
        refine ⟨?_, z⟩
        rw [e3, e4] at c2 ⊢
        exact (k1 d hd c hc).2 c2.symm
theorem cs_y {st : Nat → Int32} {x : Int32} {j : Nat} (e : cN (nI j) = j) (h : st (cN (nI j)) = x) : cntS st x j + 1 = cntS st x (j + 1) := by
  rw [e] at h; exact (if_pos h).symm
theorem cs_n {st : Nat → Int32} {x : Int32} {j : Nat} (e : cN (nI j) = j) (h : ¬ st (cN (nI j)) = x) : cntS st x j + 0 = cntS st x (j + 1) := by
  rw [e] at h; rw [Int32.add_zero]; exact (if_neg h).symm
/-! the members' sums -/
def prN (s : Int32) : Nat → Int32
  | 0 => 0
  | k + 1 => if inS s (nI k) then prN s k + 1 else prN s k + 0
def suN (wt : Nat → Int32) : Nat → Int32
  | 0 => 0
  | k + 1 => suN wt k + wt (cN (nI k))
theorem prN_ct {s : Int32} : ∀ n, n ≤ 24 → prN s n = nI (ct (bt s) n)
  | 0, _ => rfl
  | n + 1, h => by
    show (if inS s (nI n) then prN s n + 1 else prN s n + 0) = nI (ct (bt s) n + (if bt s n then 1 else 0))
    rw [prN_ct n (by omega)]
    by_cases c : bt s n = true
    · rw [if_pos ((inS_bt (by omega)).mpr c), if_pos c, nI_1]
    · rw [if_neg (fun z => c ((inS_bt (by omega)).mp z)), if_neg c, Int32.add_zero]; rfl
theorem ct_cut {p : Nat → Bool} {m : Nat} : ∀ j, (∀ k, m ≤ k → k < m + j → p k = false) → ct p (m + j) = ct p m
  | 0, _ => rfl
  | j + 1, h => by
    show ct p (m + j) + (if p (m + j) then 1 else 0) = _
    rw [h (m + j) (by omega) (by omega), ct_cut j (fun k a b => h k a (by omega))]
    simp
theorem pr_jbc {h : HV} {m : Nat} (x : XK h) (em : h.1 0 = nI m) (hm : m ≤ 24) : prN (h.1 1) m = jbc (h.1 1) := by
  rw [prN_ct m hm, jbc_ct]
  have := ct_cut (p := bt (h.1 1)) (m := m) (32 - m) (fun k a b => x.1 k (by rw [em, cN_nI (by omega)]; exact a) (by omega))
  rw [show m + (32 - m) = 32 by omega] at this
  rw [this]
theorem suN_n {wt : Nat → Int32} {V : Nat → Nat} (h : ∀ k, k < 24 → wt k = nI (V k)) {s : Int32} : ∀ n, n ≤ 24 → (∀ i, i < n → bt s i = true) → suN wt n = nI (sm s V n)
  | 0, _, _ => rfl
  | n + 1, hn, hs => by
    show suN wt n + wt (cN (nI n)) = nI (sm s V n + (if bt s n then V n else 0))
    rw [suN_n h n (by omega) (fun i hi => hs i (by omega)), cN_nI (by omega), h n (by omega), hs n (by omega), if_pos rfl, nI_add]
theorem sm_cut {s : Int32} {V : Nat → Nat} {m : Nat} (hz : ∀ k, m ≤ k → k < 24 → V k = 0) : ∀ j, m + j ≤ 24 → sm s V (m + j) = sm s V m
  | 0, _ => rfl
  | j + 1, h => by
    show sm s V (m + j) + (if bt s (m + j) then V (m + j) else 0) = _
    rw [hz (m + j) (by omega) (by omega), ite_self, sm_cut hz j (by omega)]; rfl
theorem su_all {m n : Nat} {h u : HV} (q : HSn m n h (u.2.1 1)) : hW h (shl 1 (h.1 0) - 1) = suN (h.2.1 2) m ∧ ∃ a, a ≤ 168 ∧ suN (h.2.1 2) m = nI a := by
  obtain ⟨V, hV, hz⟩ := q.wt
  have hm := q.1.1
  have e1 : suN (h.2.1 2) m = nI (sm (shl 1 (nI m) - 1) V m) := suN_n (fun k hk => (hV k hk).1) m hm (full_mask m (by omega))
  have e2 : hW h (shl 1 (nI m) - 1) = nI (sm (shl 1 (nI m) - 1) V 24) := wSum_n (fun k hk => (hV k hk).1) _ 24 (Nat.le_refl _)
  have e3 := sm_cut (s := shl 1 (nI m) - 1) hz (24 - m) (by omega)
  rw [show m + (24 - m) = 24 by omega] at e3
  rw [q.2.1.1]
  refine ⟨by rw [e1, e2, e3], _, ?_, e1⟩
  have := sm_le (s := shl 1 (nI m) - 1) (V := V) (fun k hk => by have := (hV k hk).2; omega) m hm
  omega
theorem ww_all {m n : Nat} {h u : HV} (q : HSn m n h (u.2.1 1)) (x : Int32) : hWW h x = wWard (h.2.1 1) (h.2.1 2) (h.1 1) x m := by
  have hm := q.1.1
  have := wWard_cut (wd := h.2.1 1) (w := h.2.1 2) (m := m) (fun k h8 h9 => (q.2.2.2.2.1 k h9).2.2.2.2 h8) (h.1 1) x (24 - m) (by omega)
  rw [show m + (24 - m) = 24 by omega] at this
  exact this
/-- one member's weight put into its ward -/
theorem wa_y {wd wt : Nat → Int32} {s : Int32} {f : Nat → Int32} {i : Nat} (hi : i < 24) (hf : ∀ x, x < 4 → f x = wWard wd wt s (nI x) i) {d : Nat} (ed : wd i = nI d) (hd : d < 4) (c : inS s (nI i)) : ∀ x, x < 4 → upd f (cN (wd (cN (nI i)))) (f (cN (wd (cN (nI i)))) + wt (cN (nI i))) x = wWard wd wt s (nI x) (i + 1) := by
  intro x hx
  rw [cN_nI (n := i) (by omega), ed, cN_nI (n := d) (by omega)]
  show _ = (if inS s (nI i) ∧ wd i = nI x then wWard wd wt s (nI x) i + wt i else wWard wd wt s (nI x) i)
  by_cases e : x = d
  · subst e
    rw [upd_s, if_pos ⟨c, ed⟩, hf x hx]
  · rw [upd_n e, if_neg (fun z => e ((nI_eq (by omega) (by omega)).mp (z.2.symm.trans ed))), hf x hx]
theorem wa_n {wd wt : Nat → Int32} {s : Int32} {f : Nat → Int32} {i : Nat} (hi : i < 24) (hf : ∀ x, x < 4 → f x = wWard wd wt s (nI x) i) {d : Nat} (ed : wd i = nI d) (hd : d < 4) (c : ¬ inS s (nI i)) : ∀ x, x < 4 → upd f (cN (wd (cN (nI i)))) (f (cN (wd (cN (nI i)))) + 0) x = wWard wd wt s (nI x) (i + 1) := by
  intro x hx
  rw [cN_nI (n := i) (by omega), ed, cN_nI (n := d) (by omega)]
  show _ = (if inS s (nI i) ∧ wd i = nI x then wWard wd wt s (nI x) i + wt i else wWard wd wt s (nI x) i)
  rw [if_neg (fun z => c z.1)]
  by_cases e : x = d
  · subst e
    rw [upd_s, Int32.add_zero, hf x hx]
  · rw [upd_n e, hf x hx]
def bsN (f : Nat → Int32) : Nat → Nat
  | 0 => 0
  | t + 1 => if f t ≤ f (bsN f t) then bsN f t else t
theorem bsN_lt (f : Nat → Int32) : ∀ t, t ≤ 4 → bsN f t < 4
  | 0, _ => by (show 0 < 4); decide
  | t + 1, h => by
    unfold bsN; split
    · exact bsN_lt f t (by omega)
    · omega
theorem sw_e {h : HV} {f : Nat → Int32} (hf : ∀ x, x < 4 → hWW h (nI x) = f x) : sw3 h = nI (bsN f 4) := by
  have k : ∀ (a b x y : Int32), (if a < b then x else y) = if b ≤ a then y else x := fun a b x y => by
    by_cases c : b ≤ a
    · rw [if_pos c, if_neg (nlt_le.mpr c)]
    · rw [if_neg c, if_pos (nle_lt.mp c)]
  have h0 := hf 0 (by decide)
  have h1 := hf 1 (by decide)
  have h2 := hf 2 (by decide)
  have h3 := hf 3 (by decide)
  have e0 : hWW h 0 = f 0 := h0
  have e1 : hWW h 1 = f 1 := h1
  have e2 : hWW h 2 = f 2 := h2
  have e3 : hWW h 3 = f 3 := h3
  have b1 : bsN f 1 = 0 := by
    show (if f 0 ≤ f (bsN f 0) then bsN f 0 else 0) = 0
    split <;> rfl
  have s1 : sw1 h = nI (bsN f 2) := by
    unfold sw1
    rw [k, e0, e1]
    show _ = nI (if f 1 ≤ f (bsN f 1) then bsN f 1 else 1)
    rw [b1]; split <;> rfl
  have a1 := bsN_lt f 2 (by decide)
  have s2 : sw2 h = nI (bsN f 3) := by
    unfold sw2
    rw [k, s1, hf _ a1, e2]
    show _ = nI (if f 2 ≤ f (bsN f 2) then bsN f 2 else 2)
    split <;> rfl
  have a2 := bsN_lt f 3 (by decide)
  unfold sw3
  rw [k, s2, hf _ a2, e3]
  show _ = nI (if f 3 ≤ f (bsN f 3) then bsN f 3 else 3)
  split <;> rfl
theorem ah_ord2 {m n : Nat} {h u : HV} (q : HSn m n h (u.2.1 1)) {x y : Nat} (hx : x < 8) (hy : y < 8) (z : hAhd h (nI x) (nI y)) : 0 < h.2.1 4 (cN (nI x)) - h.2.1 4 (cN (nI y)) ∨ (h.2.1 4 (cN (nI x)) - h.2.1 4 (cN (nI y)) = 0 ∧ (0 < hRust h (cN (nI y)) - hRust h (cN (nI x)) ∨ (hRust h (cN (nI y)) - hRust h (cN (nI x)) = 0 ∧ nI x < nI y))) := by
  have rr : ∀ k, k < 8 → ∃ c, c < 4 ∧ hRust h (cN (nI k)) = nI c := fun k hk => by
    obtain ⟨-, -, -, -, -, ⟨d, hd, ed, -⟩, -⟩ := q.bl hk
    refine ⟨d / 60, by omega, ?_⟩
    show h.2.1 5 (cN (nI k)) / 60 = _
    rw [cN_nI (by omega), ed]
    exact nI_div (b := 60) (by omega) (by decide)
  have gg : ∀ k, k < 8 → ∃ c, c < 4 ∧ h.2.1 4 (cN (nI k)) = nI c := fun k hk => by
    obtain ⟨-, -, -, -, ⟨g, hg, eg, -⟩, -⟩ := q.bl hk
    exact ⟨g, by omega, by rw [cN_nI (by omega)]; exact eg⟩
  obtain ⟨a, ha, e1⟩ := gg x hx
  obtain ⟨b, hb, e2⟩ := gg y hy
  obtain ⟨c, hc, e3⟩ := rr x hx
  obtain ⟨d, hd, e4⟩ := rr y hy
  exact ah_ord ha hb hc hd e1 e2 e3 e4 z
theorem mw_e {m n : Nat} {h u : HV} (q : HSn m n h (u.2.1 1)) (c : ¬ h.1 0 = 0) : Op.cmpValue (FP.dcmp (FP.ddiv (FP.i2d (suN (h.2.1 2) m)) (FP.i2d (h.1 0))) (FP.ddiv (FP.i2d (suN (h.2.1 2) m)) (FP.i2d (h.1 0)))) .l = 0 := by
  obtain ⟨-, a, ha, e⟩ := su_all q
  have hm : 1 ≤ m := Nat.pos_of_ne_zero fun z => c (by rw [q.2.1.1, z]; rfl)
  rw [e, q.2.1.1]
  have k := mwE_all hm q.1.1 ha
  unfold mwE at k
  exact of_decide_eq_true k
theorem fr_put {A : Nat → Nat} {M M1 : Hp} {o : Nat} {e e' : va_E} (h : Fr A 315 (hup M o e) M1) : Fr A 315 (hup M o e') (hup M1 o e') := fun q hq => by
  by_cases c : q = o
  · subst c; rw [hup_s, hup_s]
  · rw [hup_n c, hup_n c, h q hq, hup_n c]
theorem dr_B {Γ : Gm} {A : Nat → Nat} {w : PV} {M : Hp} {o : Nat} (hB : BRep Γ A w M) (hoA : ∀ i, i < 315 → o ≠ A i) : BRep Γ A w (fun q => if q = o then none else M q) := hB.agree fun i hi => if_neg (fun z => hoA i hi z.symm)
theorem dr_F {A : Nat → Nat} {M M1 : Hp} {o : Nat} {e : va_E} (h : Fr A 315 (hup M o e) M1) (ho : M o = none) : Fr A 315 M (fun q => if q = o then none else M1 q) := fun q hq => by
  show (if q = o then none else M1 q) = M q
  by_cases c : q = o
  · rw [if_pos c, c, ho]
  · rw [if_neg c, h q hq, hup_n c]
theorem BRep.some {Γ : Gm} {A : Nat → Nat} {w : PV} {M : Hp} (hB : BRep Γ A w M) (i : Nat) (hi : i < 315) : ∃ e, M (A i) = some e := by
  obtain ⟨h1, h2, h3, h4, h5, h6, h7⟩ := hB
  by_cases c1 : i < 84
  · have h := (h1 (i / 28) (by omega)).1 (i % 28) (by omega)
    have e : 28 * (i / 28) + i % 28 = i := by omega
    exact ⟨_, by have h9 := h; change M (A (28 * (i / 28) + i % 28)) = _ at h9; rw [e] at h9; exact h9⟩
  by_cases c2 : i < 308
  · have h := (h2 (i / 28 - 3) (by omega)).1 (i % 28) (by omega)
    have e : 28 * (3 + (i / 28 - 3)) + i % 28 = i := by omega
    exact ⟨_, by have h9 := h; change M (A (28 * (3 + (i / 28 - 3)) + i % 28)) = _ at h9; rw [e] at h9; exact h9⟩
  by_cases c3 : i < 311
  · have h := h3.1 (i - 308) (by omega)
    have e : 308 + (i - 308) = i := by omega
    exact ⟨_, by have h9 := h; change M (A (308 + (i - 308))) = _ at h9; rw [e] at h9; exact h9⟩
  by_cases c4 : i < 313
  · have h := h4.1 (i - 311) (by omega)
    have e : 311 + (i - 311) = i := by omega
    exact ⟨_, by have h9 := h; change M (A (311 + (i - 311))) = _ at h9; rw [e] at h9; exact h9⟩
  rcases (show i = 313 ∨ i = 314 by omega) with rfl | rfl
  · exact ⟨_, h5⟩
  · exact ⟨_, h6⟩
