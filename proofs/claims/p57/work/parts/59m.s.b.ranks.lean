/-! ===== ranks ===== -/
def key (G Ru : Nat → Nat) (x : Nat) : Nat := (3 - G x) * 1000 + Ru x * 100 + x
theorem d_44 : ∀ a, a < 4 → ∀ b, b < 4 → (nI a - nI b = 0 ↔ a = b) ∧ (¬ nI a - nI b ≤ 0 ↔ b < a) := by decide +kernel
theorem hAhd_key {h : HV} {G Ru : Nat → Nat} (hG : ∀ k, k < 8 → h.2.1 4 k = nI (G k) ∧ G k < 4) (hR : ∀ k, k < 8 → hRust h k = nI (Ru k) ∧ Ru k < 4) {x y : Nat} (hx : x < 8) (hy : y < 8) : hAhd h (nI x) (nI y) ↔ key G Ru x < key G Ru y := by
  obtain ⟨gx, gx4⟩ := hG x hx
  obtain ⟨gy, gy4⟩ := hG y hy
  obtain ⟨rx, rx4⟩ := hR x hx
  obtain ⟨ry, ry4⟩ := hR y hy
  unfold hAhd
  rw [cN_nI (by omega), cN_nI (by omega), gx, gy, rx, ry]
  have k1 : nI (G x) = nI (G y) ↔ G x = G y := nI_eq (by omega) (by omega)
  have k2 : nI (G y) < nI (G x) ↔ G y < G x := nI_ltI (by omega) (by omega)
  have k3 : nI (Ru x) = nI (Ru y) ↔ Ru x = Ru y := nI_eq (by omega) (by omega)
  have k4 : nI (Ru x) < nI (Ru y) ↔ Ru x < Ru y := nI_ltI (by omega) (by omega)
  have k5 : nI x < nI y ↔ x < y := nI_ltI (by omega) (by omega)
  unfold key
  by_cases c1 : G x = G y
  · rw [if_neg (nn (k1.mpr c1))]
    by_cases c2 : Ru x = Ru y
    · rw [if_neg (nn (k3.mpr c2)), k5]; omega
    · rw [if_pos (fun z => c2 (k3.mp z)), k4]; omega
  · rw [if_pos (fun z => c1 (k1.mp z)), k2]; omega
theorem rAhd_key {u : HV} {G Ru : Nat → Nat} (hG : ∀ k, k < 8 → rB u k 3 = nI (G k) ∧ G k < 4) (hR : ∀ k, k < 8 → rB u k 4 / 60 = nI (Ru k) ∧ Ru k < 4) {x y : Nat} (hx : x < 8) (hy : y < 8) : rAhd u x y ↔ key G Ru x < key G Ru y := by
  obtain ⟨gx, gx4⟩ := hG x hx
  obtain ⟨gy, gy4⟩ := hG y hy
  obtain ⟨rx, rx4⟩ := hR x hx
  obtain ⟨ry, ry4⟩ := hR y hy
  have e1 : rMore u x y = nI (G x) - nI (G y) := by unfold rMore; rw [gx, gy]
  have e2 : rLess u x y = nI (Ru y) - nI (Ru x) := by unfold rLess; rw [rx, ry]
  obtain ⟨k1, k2⟩ := d_44 (G x) gx4 (G y) gy4
  obtain ⟨k3, k4⟩ := d_44 (Ru y) ry4 (Ru x) rx4
  have k5 : nI x < nI y ↔ x < y := nI_ltI (by omega) (by omega)
  unfold rAhd key
  rw [e1, e2]
  by_cases c1 : G x = G y
  · rw [if_pos (k1.mpr c1)]
    by_cases c2 : Ru y = Ru x
    · rw [if_pos (k3.mpr c2), k5]; omega
    · rw [if_neg (fun z => c2 (k3.mp z)), k4]; omega
  · rw [if_neg (fun z => c1 (k1.mp z)), k2]; omega
theorem hRankN {h : HV} {K : Nat → Nat} {b : Nat} (hb : b < 8) (e : ∀ x y, x < 8 → y < 8 → (hAhd h (nI x) (nI y) ↔ K x < K y)) : ∀ n, n ≤ 8 → hRank h (nI b) n = nI (ct (fun x => decide (K x < K b)) n)
  | 0, _ => rfl
  | n + 1, hn => by
    have ih := hRankN hb e n (by omega)
    show _ = nI (ct (fun x => decide (K x < K b)) n + (if decide (K n < K b) = true then 1 else 0))
    by_cases c : hAhd h (nI n) (nI b)
    · rw [hRank_t c, ih, if_pos (decide_eq_true ((e n b (by omega) hb).mp c)), nI_1]
    · rw [hRank_f c, ih, if_neg (fun z => c ((e n b (by omega) hb).mpr (of_decide_eq_true z))), Nat.add_zero]
theorem rRankN {u : HV} {K : Nat → Nat} {b : Nat} (hb : b < 8) (e : ∀ x y, x < 8 → y < 8 → (rAhd u x y ↔ K x < K y)) : ∀ n, n ≤ 8 → rRank u b n = nI (ct (fun x => decide (K x < K b)) n)
  | 0, _ => rfl
  | n + 1, hn => by
    have ih := rRankN hb e n (by omega)
    show @ite Int32 (rAhd u n b) (Classical.propDecidable _) (rRank u b n + 1) (rRank u b n + 0) = nI (ct (fun x => decide (K x < K b)) n + (if decide (K n < K b) = true then 1 else 0))
    by_cases c : rAhd u n b
    · rw [if_pos c, ih, if_pos (decide_eq_true ((e n b (by omega) hb).mp c)), nI_1]
    · rw [if_neg c, ih, if_neg (fun z => c ((e n b (by omega) hb).mpr (of_decide_eq_true z))), Nat.add_zero, i_add0]
theorem ct_mono {p q : Nat → Bool} : ∀ n, (∀ i, i < n → p i = true → q i = true) → ct p n ≤ ct q n
  | 0, _ => Nat.le_refl 0
  | n + 1, h => by
    show ct p n + (if p n then 1 else 0) ≤ ct q n + (if q n then 1 else 0)
    have h1 := ct_mono n fun i hi => h i (by omega)
    have h2 := h n (Nat.lt_succ_self n)
    by_cases c : p n = true
    · rw [if_pos c, if_pos (h2 c)]; omega
    · rw [if_neg c]; omega
theorem ct_lt {p q : Nat → Bool} : ∀ n, (∀ i, i < n → p i = true → q i = true) → (∃ j, j < n ∧ q j = true ∧ p j = false) → ct p n < ct q n
  | 0, _, ⟨j, hj, _⟩ => absurd hj (Nat.not_lt_zero j)
  | n + 1, h, ⟨j, hj, hq, hp⟩ => by
    show ct p n + (if p n then 1 else 0) < ct q n + (if q n then 1 else 0)
    by_cases c : j = n
    · subst c
      have h1 := ct_mono (p := p) (q := q) j fun i hi => h i (by omega)
      rw [hp, hq]
      simp
      omega
    · have h1 := ct_lt n (fun i hi => h i (by omega)) ⟨j, by omega, hq, hp⟩
      have h2 := h n (Nat.lt_succ_self n)
      by_cases c2 : p n = true
      · rw [if_pos c2, if_pos (h2 c2)]; omega
      · rw [if_neg c2]; omega
theorem rk_lt {K : Nat → Nat} {B b : Nat} (hb : b < B) : ct (fun x => decide (K x < K b)) B < B := by
  have h := ct_lt (p := fun x => decide (K x < K b)) (q := fun _ => true) B (fun _ _ _ => rfl) ⟨b, hb, rfl, decide_eq_false (Nat.lt_irrefl _)⟩
  exact Nat.lt_of_lt_of_le h (ct_le _ _)
theorem rk_onto {K : Nat → Nat} {B : Nat} (hK : ∀ x y, x < B → y < B → K x = K y → x = y) {y : Nat} (hy : y < B) : ∃ b, b < B ∧ ct (fun x => decide (K x < K b)) B = y := by
  refine fb_onto (f := fun b => ct (fun x => decide (K x < K b)) B) (fun i hi => rk_lt hi) (fun i j hij hj => ?_) hy
  have mono : ∀ i j, i < B → K i < K j → ct (fun x => decide (K x < K i)) B < ct (fun x => decide (K x < K j)) B := fun i j hi hl =>
    ct_lt B (fun k _ z => decide_eq_true (Nat.lt_trans (of_decide_eq_true z) hl)) ⟨i, hi, decide_eq_true hl, decide_eq_false (Nat.lt_irrefl _)⟩
  rcases Nat.lt_trichotomy (K i) (K j) with h | h | h
  · exact Nat.ne_of_lt (mono i j (by omega) h)
  · exact absurd (hK i j (by omega) hj h) (by omega)
  · exact (Nat.ne_of_lt (mono j i hj h)).symm
theorem HSn.rank {m n : Nat} {h u : HV} (q : HSn m n h (u.2.1 1)) : ∃ K : Nat → Nat, (∀ x y, x < 8 → y < 8 → K x = K y → x = y) ∧ ∀ b, b < 8 → ∀ B, B ≤ 8 → hRank h (nI b) B = nI (ct (fun x => decide (K x < K b)) B) ∧ rRank u b B = nI (ct (fun x => decide (K x < K b)) B) := by
  have kG : ∀ k, ∃ g, k < 8 → (h.2.1 4 k = nI g ∧ g < 4) := fun k => by
    by_cases hk : k < 8
    · obtain ⟨-, -, -, -, ⟨g, hg, e, -⟩, -⟩ := q.bl hk
      exact ⟨g, fun _ => ⟨e, by omega⟩⟩
    · exact ⟨0, fun z => absurd z hk⟩
  have kR : ∀ k, ∃ g, k < 8 → (hRust h k = nI g ∧ g < 4) := fun k => by
    by_cases hk : k < 8
    · obtain ⟨-, -, -, -, -, ⟨d, hd, e, -⟩, -⟩ := q.bl hk
      refine ⟨d / 60, fun _ => ⟨?_, by omega⟩⟩
      show h.2.1 5 k / 60 = _
      rw [e]
      exact nI_div (b := 60) (by omega) (by decide)
    · exact ⟨0, fun z => absurd z hk⟩
  obtain ⟨G, hG⟩ := Classical.axiomOfChoice kG
  obtain ⟨Ru, hR⟩ := Classical.axiomOfChoice kR
  refine ⟨key G Ru, fun x y hx hy e => ?_, fun b hb B hB => ⟨hRankN hb (fun x y hx hy => hAhd_key hG hR hx hy) B hB, rRankN hb (fun x y hx hy => rAhd_key (fun k hk => ⟨(q.bl hk).1.2.1.trans (hG k hk).1, (hG k hk).2⟩) (fun k hk => ⟨?_, (hR k hk).2⟩) hx hy) B hB⟩⟩
  · have h1 := (hG x hx).2
    have h2 := (hG y hy).2
    have h3 := (hR x hx).2
    have h4 := (hR y hy).2
    unfold key at e
    omega
  · show u.2.1 1 (53 + 16 * k + 4) / 60 = _
    rw [(q.bl hk).1.2.2.1]
    exact (hR k hk).1
theorem bar_e {m n : Nat} {h u : HV} (q : HSn m n h (u.2.1 1)) (r : Int32) {B : Nat} (hB : B ≤ 8) : ∀ k, k ≤ B → (∃ b, b < k ∧ hRank h (nI b) B = r) → bar h r B k = rBar u r B k ∧ 0 ≤ rBar u r B k
  | 0, _, ⟨b, hb, _⟩ => absurd hb (Nat.not_lt_zero b)
  | k + 1, hk, ⟨b, hb, hr⟩ => by
    obtain ⟨K, -, e⟩ := q.rank
    obtain ⟨e1, e2⟩ := e k (by omega) B hB
    show @ite Int32 (hRank h (nI k) B = r) (Classical.propDecidable _) (nI k) (bar h r B k) = (if rRank u k B = r then nI k else rBar u r B k) ∧ 0 ≤ (if rRank u k B = r then nI k else rBar u r B k)
    by_cases c : hRank h (nI k) B = r
    · rw [if_pos c, if_pos (by rw [e2, ← e1]; exact c)]
      exact ⟨rfl, (nI_leI (a := 0) (by decide) (by omega)).mpr (Nat.zero_le _)⟩
    · rw [if_neg c, if_neg (by rw [e2, ← e1]; exact c)]
      refine bar_e q r hB k (by omega) ⟨b, ?_, hr⟩
      have : b ≠ k := fun z => c (by rw [← z]; exact hr)
      omega
theorem bar_no {m n : Nat} {h u : HV} (q : HSn m n h (u.2.1 1)) (r : Int32) {B : Nat} (hB : B ≤ 8) : ∀ k, k ≤ B → (¬ ∃ b, b < k ∧ hRank h (nI b) B = r) → rBar u r B k = -1
  | 0, _, _ => rfl
  | k + 1, hk, hn => by
    obtain ⟨K, -, e⟩ := q.rank
    obtain ⟨e1, e2⟩ := e k (by omega) B hB
    show (if rRank u k B = r then nI k else rBar u r B k) = -1
    rw [if_neg (fun z => hn ⟨k, Nat.lt_succ_self k, by rw [e1, ← e2]; exact z⟩)]
    exact bar_no q r hB k (by omega) fun ⟨b, hb, hr⟩ => hn ⟨b, by omega, hr⟩
theorem sc_billAtRank {w : PV} {u : HV} (h : Rel w u) : SC_billAtRank Rel w u := by
  obtain ⟨m, n, q⟩ := h.1
  intro r
  have hn := q.1.2
  have eB : cN ((w.1 0).1 3) = n := by rw [q.2.2.1.1, cN_nI (by omega)]
  have eR : cN (u.2.1 1 1) = n := by rw [q.2.2.1.2, cN_nI (by omega)]
  have hg : (0 ≤ r ∧ r < (w.1 0).1 3) ↔ ∃ b, b < n ∧ hRank (w.1 0) (nI b) n = r := by
    rw [q.2.2.1.1, ← btw_lt (by omega)]
    obtain ⟨K, hK, e⟩ := q.rank
    constructor
    · intro z
      obtain ⟨y, hy, -, rfl⟩ := btw_nat (by omega) z
      obtain ⟨b, hb, eb⟩ := rk_onto (K := K) (B := n) (fun x y hx hy => hK x y (by omega) (by omega)) hy
      exact ⟨b, hb, by rw [(e b (by omega) n hn).1, eb]⟩
    · rintro ⟨b, hb, rfl⟩
      rw [(e b (by omega) n hn).1, btw_lt (by omega)]
      exact ⟨(nI_leI (a := 0) (by decide) (by have := rk_lt (K := K) hb; omega)).mpr (Nat.zero_le _), (nI_ltI (by have := rk_lt (K := K) hb; omega) (by omega)).mpr (rk_lt hb)⟩
  have hg2 : (0 ≤ r ∧ r < (w.1 0).1 3) ↔ ¬ ¬ 0 ≤ rBar u r (cN (u.2.1 1 1)) (cN (u.2.1 1 1)) := by
    rw [hg, eR, Classical.not_not]
    constructor
    · exact fun z => (bar_e q r hn n (Nat.le_refl _) z).2
    · intro z
      refine Classical.byContradiction fun y => ?_
      rw [bar_no q r hn n (Nat.le_refl _) y] at z
      exact absurd z (by decide)
  refine ⟨sm_gate hg2 wex1 isI_0 fun c _ => sm_val ?_ rfl, rel_gate hg2 (h.z 1) fun _ _ => h.z 0⟩
  rw [eB, eR]
  exact (bar_e q r hn n (Nat.le_refl _) (hg.mp c)).1
