/-! ===== a House and a row of the reference ===== -/
def MB (m : Nat) (h : HV) (k : Nat) : Prop := (∃ v, v ≤ 7 ∧ h.2.1 2 k = nI v) ∧ (k < m → ∃ d, d < 4 ∧ h.2.1 1 k = nI d) ∧ (m ≤ k → h.2.1 2 k = 0)
def cl64 (hi lo : Int32) : Int64 := lsl (i2l hi) 32 ||| i2l lo &&& 4294967295
def BL (n : Nat) (h : HV) (r : Nat → Int32) (b : Nat) : Prop :=
  (r (53 + 16 * b + 0) = h.2.1 3 b ∧ r (53 + 16 * b + 3) = h.2.1 4 b ∧ r (53 + 16 * b + 4) = h.2.1 5 b ∧ r (53 + 16 * b + 5) = h.2.1 6 b ∧ r (53 + 16 * b + 6) = h.2.1 7 b ∧ r (53 + 16 * b + 7) = h.2.1 8 b) ∧
  h.2.2 b = cl64 (r (53 + 16 * b + 2)) (r (53 + 16 * b + 1)) ∧
  (∃ p, p ≤ 4 ∧ h.2.1 8 b = nI p ∧ ∀ q, q < p → r (53 + 16 * b + (8 + 2 * q)) = h.2.1 (12 + b) q ∧ r (53 + 16 * b + (8 + 2 * q + 1)) = h.2.1 (20 + b) q ∧ ∃ c, c < 64 ∧ h.2.1 (12 + b) q = nI c) ∧
  (h.2.1 3 b = 0 ∨ h.2.1 3 b = 1 ∨ h.2.1 3 b = 2) ∧
  (∃ g, g ≤ 3 ∧ h.2.1 4 b = nI g ∧ (h.2.1 3 b = 0 → g ≤ 2)) ∧
  (∃ d, d ≤ 209 ∧ h.2.1 5 b = nI d ∧ (h.2.1 3 b = 0 → d < 180)) ∧
  h.2.1 6 b &&& h.2.1 7 b = 0 ∧
  (n ≤ b → h.2.1 3 b = 0 ∧ h.2.1 4 b = 0 ∧ h.2.1 5 b = 0 ∧ h.2.1 6 b = 0 ∧ h.2.1 7 b = 0 ∧ h.2.1 8 b = 0)
def HSn (m n : Nat) (h : HV) (r : Nat → Int32) : Prop := (m ≤ 24 ∧ n ≤ 8) ∧ (h.1 0 = nI m ∧ r 0 = nI m) ∧ (h.1 3 = nI n ∧ r 1 = nI n) ∧ (r 2 = h.1 1 ∧ r 3 = h.1 2 ∧ r 4 = h.1 4) ∧
  (∀ k, k < 24 → r (5 + 2 * k + 0) = h.2.1 1 k ∧ r (5 + 2 * k + 1) = h.2.1 2 k ∧ MB m h k) ∧ ∀ b, b < 8 → BL n h r b
def HS (h : HV) (r : Nat → Int32) : Prop := ∃ m n, HSn m n h r
def HX (h : HV) : Prop := ∃ r, HS h r
theorem BL.row {n : Nat} {h : HV} {r r' : Nat → Int32} {b : Nat} (q : BL n h r b) (hb : b < 8) (e : ∀ j, j < 181 → r' j = r j) : BL n h r' b := by
  obtain ⟨⟨a0, a3, a4, a5, a6, a7⟩, hc, ⟨p, hp, ep, ha⟩, q4⟩ := q
  refine ⟨⟨(e _ (by omega)).trans a0, (e _ (by omega)).trans a3, (e _ (by omega)).trans a4, (e _ (by omega)).trans a5, (e _ (by omega)).trans a6, (e _ (by omega)).trans a7⟩, ?_, ⟨p, hp, ep, fun q hq => ?_⟩, q4⟩
  · rw [e _ (by omega), e _ (by omega)]; exact hc
  · obtain ⟨h1, h2, h3⟩ := ha q hq
    exact ⟨(e _ (by omega)).trans h1, (e _ (by omega)).trans h2, h3⟩
theorem HSn.row {m n : Nat} {h : HV} {r r' : Nat → Int32} (q : HSn m n h r) (e : ∀ j, j < 181 → r' j = r j) : HSn m n h r' := by
  obtain ⟨h0, ⟨h1, h1'⟩, ⟨h2, h2'⟩, ⟨h3, h4, h5⟩, h6, h7⟩ := q
  exact ⟨h0, ⟨h1, (e _ (by decide)).trans h1'⟩, ⟨h2, (e _ (by decide)).trans h2'⟩, ⟨(e _ (by decide)).trans h3, (e _ (by decide)).trans h4, (e _ (by decide)).trans h5⟩, fun k hk => ⟨(e _ (by omega)).trans (h6 k hk).1, (e _ (by omega)).trans (h6 k hk).2.1, (h6 k hk).2.2⟩, fun b hb => (h7 b hb).row hb e⟩
theorem HS.row {h : HV} {r r' : Nat → Int32} (q : HS h r) (e : ∀ j, j < 181 → r' j = r j) : HS h r' := by
  obtain ⟨m, n, q⟩ := q
  exact ⟨m, n, q.row e⟩
theorem HS.inv {h : HV} {r : Nat → Int32} (q : HS h r) : HInv h := by
  obtain ⟨m, n, ⟨hm, hn⟩, ⟨h1, -⟩, ⟨h2, -⟩, -, -, h7⟩ := q
  refine ⟨?_, ?_, fun b hb => ?_⟩
  · rw [h1]; exact ⟨(nI_leI (a := 0) (by decide) (by omega)).mpr (by omega), (nI_leI (b := 24) (by omega) (by decide)).mpr hm⟩
  · rw [h2]; exact ⟨(nI_leI (a := 0) (by decide) (by omega)).mpr (by omega), (nI_leI (b := 8) (by omega) (by decide)).mpr hn⟩
  · obtain ⟨p, hp, ep, -⟩ := (h7 b hb).2.2.1
    rw [ep]; exact ⟨(nI_leI (a := 0) (by decide) (by omega)).mpr (by omega), (nI_leI (b := 4) (by omega) (by decide)).mpr hp⟩
theorem HX.inv {h : HV} (q : HX h) : HInv h := by obtain ⟨r, q⟩ := q; exact q.inv
theorem HS.rinv {h : HV} {r : Nat → Int32} (q : HS h r) : RInv r := by
  obtain ⟨m, n, ⟨hm, hn⟩, ⟨-, h1⟩, ⟨-, h2⟩, -, -, h7⟩ := q
  refine ⟨⟨m, hm, h1⟩, ⟨n, hn, h2⟩, fun b hb => ?_⟩
  obtain ⟨⟨-, -, -, -, -, e⟩, -, ⟨p, hp, ep, -⟩, -⟩ := h7 b hb
  exact ⟨p, hp, e.trans ep⟩
/-! ===== the whole of both sides ===== -/
def RHist (w : PV) (u : HV) : Prop := ∃ K N : Nat, K ≤ 8 ∧ N < 8 ∧ w.2.2.2.2 2 = nI K ∧ u.1 1 = nI K ∧ w.2.2.2.2 1 = nI N ∧ ∀ j, j < K → HS (w.2.1 ((N + 8 - K + j) % 8)) (u.2.1 (5 + j))
def RSnap (w : PV) (u : HV) : Prop := w.2.2.2.2 0 = u.1 2 ∧ (¬ u.1 2 = 0 → HS (w.1 2) (u.2.1 2))
def RText (T u : HV) : Prop := TInv T ∧ (∃ n : Nat, n ≤ 60 ∧ T.1 0 = nI n ∧ u.1 5 = nI n) ∧ (∀ j, j < 60 → u.2.1 14 j = T.2.1 1 j) ∧ (∃ p : Nat, p ≤ 200 ∧ u.1 6 = nI p) ∧ (u.1 12 = 0 ∨ u.1 12 = 1)
def RLine (Z u : HV) : Prop := LInv Z ∧ (∃ n : Nat, n ≤ 24 ∧ Z.1 0 = nI n ∧ u.1 4 = nI n ∧ ∀ j, j < n → u.2.1 13 j = Z.2.1 1 j) ∧ ∀ j, j < 40 → narrow .char (.int (u.2.1 13 j)) = .int (u.2.1 13 j)
def Rel (w : PV) (u : HV) : Prop := HS (w.1 0) (u.2.1 1) ∧ RHist w u ∧ RSnap w u ∧ RText w.2.2.1 u ∧ RLine w.2.2.2.1 u ∧ (w.2.2.2.2 3 = u.1 7 ∧ w.2.2.2.2 4 = u.1 8 ∧ -1 ≤ u.1 7 ∧ -1 ≤ u.1 8) ∧ u.1 3 = 0 ∧ (∀ k, k < 3 → HX (w.1 k)) ∧ ∀ k, k < 8 → HX (w.2.1 k)
/-- the number of an exception alone changes nothing -/
theorem Rel.z {w : PV} {u : HV} (h : Rel w u) (x : Int32) : Rel w (hsc u 0 x) := h
/-! ===== gates ===== -/
theorem sm_val {cs : List String} {w : PV} {u : HV} {a b : Int32} (e : a = b) (h0 : u.1 0 = 0) : SmV isI cs (rI a, w) (rI b, u) := ⟨.int b, ⟨b, rfl⟩, rfl, Or.inl ⟨by rw [e], h0⟩⟩
theorem sm_exc {P : Value → Prop} {cs : List String} {w : PV} {u : HV} {E : String} {z : Value} {n : Int32} (hz : P z) (h : WEx cs 1 E n) : SmV P cs (.inr E, w) (.inl (some z), hsc u 0 n) := ⟨z, hz, rfl, Or.inr ⟨E, rfl, h⟩⟩
theorem sm_gate {P : Value → Prop} {cs : List String} {w : PV} {u : HV} {ok c : Prop} {e : String} {n : Int32} {z : Value} {kx : Res × PV} {ky : Res × HV} (hg : ok ↔ ¬ c) (he : WEx cs 1 e n) (hz : P z) (hk : ok → ¬ c → SmV P cs kx ky) : SmV P cs (pG ok e w kx) (mG c n (some z) u ky) := by
  by_cases h : c
  · rw [pG_n (fun q => hg.mp q h), mG_y h]; exact sm_exc hz he
  · rw [pG_y (hg.mpr h), mG_n h]; exact hk (hg.mpr h) h
theorem rel_gate {R : PV → HV → Prop} {w : PV} {u : HV} {ok c : Prop} {e : String} {n : Int32} {z : Option Value} {kx : Res × PV} {ky : Res × HV} (hg : ok ↔ ¬ c) (h0 : R w (hsc u 0 n)) (hk : ok → ¬ c → R kx.2 ky.2) : R (pG ok e w kx).2 (mG c n z u ky).2 := by
  by_cases h : c
  · rw [pG_n (fun q => hg.mp q h), mG_y h]; exact h0
  · rw [pG_y (hg.mpr h), mG_n h]; exact hk (hg.mpr h) h
theorem isI_0 : isI (.int 0) := ⟨0, rfl⟩
theorem wex1 {e : String} {cs : List String} : WEx (e :: cs) 1 e 1 := Or.inl ⟨rfl, rfl⟩
theorem wex2 {a e : String} {cs : List String} : WEx (a :: e :: cs) 1 e 2 := Or.inr (Or.inl ⟨rfl, rfl⟩)
theorem wex3 {a b e : String} {cs : List String} : WEx (a :: b :: e :: cs) 1 e 3 := Or.inr (Or.inr (Or.inl ⟨rfl, rfl⟩))
theorem wex4 {a b c e : String} {cs : List String} : WEx (a :: b :: c :: e :: cs) 1 e 4 := Or.inr (Or.inr (Or.inr (Or.inl ⟨rfl, rfl⟩)))
theorem u0_0 {u : HV} {x : Int32} : (hsc u 0 x).1 0 = x := rfl
/-- one gate, one value -/
theorem sm_r1 {w : PV} {u : HV} {ok c : Prop} {e : String} {a b : Int32} (h : Rel w u) (hg : ok ↔ ¬ c) (hv : ok → a = b) : SmV isI [e] (pG ok e w (rI a, w)) (mG c 1 zI u (rI b, u0 u)) ∧ Rel (pG ok e w (rI a, w)).2 (mG c 1 zI u (rI b, u0 u)).2 :=
  ⟨sm_gate hg wex1 isI_0 fun h1 _ => sm_val (hv h1) rfl, rel_gate hg (h.z 1) fun _ _ => h.z 0⟩
theorem sm_q {w : PV} {u : HV} {a b : Int32} (h : Rel w u) (e : a = b) : SmQ (rI a, w) (rI b, u0 u) ∧ Rel w (u0 u) := ⟨⟨b, by rw [e], rfl⟩, h.z 0⟩
/-! the gates of both sides -/
theorem HSn.gM {m n : Nat} {h u : HV} (q : HSn m n h (u.2.1 1)) (x : Int32) : hasM h x ↔ ¬ ¬ isM u x := by
  obtain ⟨⟨hm, -⟩, ⟨h1, h2⟩, -⟩ := q
  show (0 ≤ x ∧ x < h.1 0) ↔ ¬ ¬ btw x 0 (u.2.1 1 0 - 1)
  rw [Classical.not_not, h1, h2, btw_lt (by omega)]
theorem HSn.gB {m n : Nat} {h u : HV} (q : HSn m n h (u.2.1 1)) (x : Int32) : hasB h x ↔ ¬ ¬ isBl u x := by
  obtain ⟨⟨-, hn⟩, -, ⟨h1, h2⟩, -⟩ := q
  show (0 ≤ x ∧ x < h.1 3) ↔ ¬ ¬ btw x 0 (u.2.1 1 1 - 1)
  rw [Classical.not_not, h1, h2, btw_lt (by omega)]
/-- an index let through -/
theorem HSn.mem {m n : Nat} {h : HV} {r : Nat → Int32} (q : HSn m n h r) {x : Int32} (c : hasM h x) : ∃ k, k < m ∧ k < 24 ∧ x = nI k := by
  obtain ⟨⟨hm, -⟩, ⟨h1, -⟩, -⟩ := q
  have c1 : 0 ≤ x ∧ x < nI m := by rw [← h1]; exact c
  obtain ⟨k, hk, -, e⟩ := btw_nat (by omega) ((btw_lt (by omega)).mpr c1)
  exact ⟨k, hk, by omega, e⟩
theorem HSn.bil {m n : Nat} {h : HV} {r : Nat → Int32} (q : HSn m n h r) {x : Int32} (c : hasB h x) : ∃ k, k < n ∧ k < 8 ∧ x = nI k := by
  obtain ⟨⟨-, hn⟩, -, ⟨h1, -⟩, -⟩ := q
  have c1 : 0 ≤ x ∧ x < nI n := by rw [← h1]; exact c
  obtain ⟨k, hk, -, e⟩ := btw_nat (by omega) ((btw_lt (by omega)).mpr c1)
  exact ⟨k, hk, by omega, e⟩
theorem HSn.gP {m n : Nat} {h u : HV} (q : HSn m n h (u.2.1 1)) {b : Nat} (hb : b < 8) (x : Int32) : hasP h (nI b) x ↔ ¬ ¬ btw x 0 (rB u (cN (nI b)) 7 - 1) := by
  obtain ⟨⟨-, -, -, -, -, e⟩, -, ⟨p, hp, ep, -⟩, -⟩ := q.2.2.2.2.2 b hb
  show (0 ≤ x ∧ x < h.2.1 8 (cN (nI b))) ↔ ¬ ¬ btw x 0 (u.2.1 1 (53 + 16 * cN (nI b) + 7) - 1)
  rw [Classical.not_not, cN_nI (by omega), e, ep, btw_lt (by omega)]
theorem HSn.pos {m n : Nat} {h : HV} {r : Nat → Int32} (q : HSn m n h r) {b : Nat} (hb : b < 8) {x : Int32} (c : hasP h (nI b) x) : ∃ k p, k < p ∧ p ≤ 4 ∧ h.2.1 8 b = nI p ∧ x = nI k := by
  obtain ⟨-, -, ⟨p, hp, ep, -⟩, -⟩ := q.2.2.2.2.2 b hb
  have c1 : 0 ≤ x ∧ x < nI p := by
    have c2 : 0 ≤ x ∧ x < h.2.1 8 (cN (nI b)) := c
    rw [cN_nI (by omega), ep] at c2; exact c2
  obtain ⟨k, hk, -, e⟩ := btw_nat (by omega) ((btw_lt (by omega)).mpr c1)
  exact ⟨k, p, hk, hp, ep, e⟩
theorem HSn.eW {m n : Nat} {h u : HV} (q : HSn m n h (u.2.1 1)) (s : Int32) : hW h s = rWt u s := by
  obtain ⟨⟨hm, -⟩, ⟨-, h1⟩, -, -, h6, -⟩ := q
  show wSum (h.2.1 2) s 24 = rSum u s (cN (u.2.1 1 0))
  rw [h1, cN_nI (by omega), ← wSum_r (fun k hk => (h6 k hk).2.1) s m hm]
  have e : m + (24 - m) = 24 := by omega
  have h := wSum_cut (w := h.2.1 2) (m := m) (fun k h8 h9 => (h6 k h9).2.2.2.2 h8) s (24 - m) (by omega)
  rw [e] at h
  exact h
theorem HSn.eWW {m n : Nat} {h u : HV} (q : HSn m n h (u.2.1 1)) (x : Int32) : hWW h x = rWd u x := by
  obtain ⟨⟨hm, -⟩, ⟨-, h1⟩, -, ⟨h3, -, -⟩, h6, -⟩ := q
  show wWard (h.2.1 1) (h.2.1 2) (h.1 1) x 24 = rWard u x (cN (u.2.1 1 0))
  rw [h1, cN_nI (by omega), ← h3, ← wWard_r (fun k hk => (h6 k hk).2.1) (fun k hk => (h6 k hk).1) x m hm]
  have e : m + (24 - m) = 24 := by omega
  have h := wWard_cut (wd := h.2.1 1) (w := h.2.1 2) (m := m) (fun k h8 h9 => (h6 k h9).2.2.2.2 h8) (u.2.1 1 2) x (24 - m) (by omega)
  rw [e] at h
  exact h
theorem rWd_row {r r' : HV} (h : r.2.1 1 = r'.2.1 1) (x : Int32) : rWd r x = rWd r' x := by
  show rWard r x (cN (r.2.1 1 0)) = rWard r' x (cN (r'.2.1 1 0))
  rw [rWard_row h, h]
/-! ===== the readers ===== -/
theorem sc_memberCount {w : PV} {u : HV} (h : Rel w u) : SC_memberCount Rel w u := by
  obtain ⟨m, n, q⟩ := h.1
  exact sm_q h (q.2.1.1.trans q.2.1.2.symm)
theorem sc_presentMask {w : PV} {u : HV} (h : Rel w u) : SC_presentMask Rel w u := by
  obtain ⟨m, n, q⟩ := h.1
  exact sm_q h q.2.2.2.1.1.symm
theorem sc_quorum {w : PV} {u : HV} (h : Rel w u) : SC_quorum Rel w u := by
  obtain ⟨m, n, q⟩ := h.1
  exact sm_q h q.2.2.2.1.2.1.symm
theorem sc_billCount {w : PV} {u : HV} (h : Rel w u) : SC_billCount Rel w u := by
  obtain ⟨m, n, q⟩ := h.1
  exact sm_q h (q.2.2.1.1.trans q.2.2.1.2.symm)
theorem sc_acceptedCount {w : PV} {u : HV} (h : Rel w u) : SC_acceptedCount Rel w u := by
  obtain ⟨m, n, q⟩ := h.1
  exact sm_q h q.2.2.2.1.2.2.symm
theorem HSn.quor {m n : Nat} {h u : HV} (q : HSn m n h (u.2.1 1)) : hQuor h ↔ quo u := by
  show h.1 2 ≤ jbc (h.1 1) ↔ u.2.1 1 3 ≤ jbc (u.2.1 1 2)
  rw [q.2.2.2.1.1, q.2.2.2.1.2.1]
theorem sc_isQuorate {w : PV} {u : HV} (h : Rel w u) : SC_isQuorate Rel w u := by
  obtain ⟨m, n, q⟩ := h.1
  exact sm_q h (bI_cong q.quor)
theorem sc_passedCount {w : PV} {u : HV} (h : Rel w u) : SC_passedCount Rel w u := by
  obtain ⟨m, n, q⟩ := h.1
  refine sm_q h ?_
  rw [rCnt_row (r := u0 u) (r' := u) rfl, q.2.2.1.1, q.2.2.1.2, cN_nI (by have := q.1.2; omega)]
  exact cntS_r (fun b hb => (q.2.2.2.2.2 b hb).1.1) 1 n q.1.2
theorem sc_fallenCount {w : PV} {u : HV} (h : Rel w u) : SC_fallenCount Rel w u := by
  obtain ⟨m, n, q⟩ := h.1
  refine sm_q h ?_
  rw [rCnt_row (r := u0 u) (r' := u) rfl, q.2.2.1.1, q.2.2.1.2, cN_nI (by have := q.1.2; omega)]
  exact cntS_r (fun b hb => (q.2.2.2.2.2 b hb).1.1) 2 n q.1.2
theorem sc_wardOf {w : PV} {u : HV} (h : Rel w u) : SC_wardOf Rel w u := by
  obtain ⟨m, n, q⟩ := h.1
  intro x
  refine sm_r1 h (q.gM x) fun c => ?_
  obtain ⟨k, -, hk, rfl⟩ := q.mem c
  show (w.1 0).2.1 1 (cN (nI k)) = u.2.1 1 (5 + 2 * cN (nI k) + 0)
  rw [cN_nI (by omega)]
  exact (q.2.2.2.2.1 k hk).1.symm
theorem sc_weightOf {w : PV} {u : HV} (h : Rel w u) : SC_weightOf Rel w u := by
  obtain ⟨m, n, q⟩ := h.1
  intro x
  refine sm_r1 h (q.gM x) fun c => ?_
  obtain ⟨k, -, hk, rfl⟩ := q.mem c
  show (w.1 0).2.1 2 (cN (nI k)) = u.2.1 1 (5 + 2 * cN (nI k) + 1)
  rw [cN_nI (by omega)]
  exact (q.2.2.2.2.1 k hk).2.1.symm
theorem HSn.pres {m n : Nat} {h u : HV} (q : HSn m n h (u.2.1 1)) {k : Nat} (hk : k < 24) : inS (h.1 1) (nI k) ↔ prs u (nI k) := by
  show inS (h.1 1) (nI k) ↔ shr (u.2.1 1 2) (nI k) &&& 1 = 1
  rw [q.2.2.2.1.1]
  exact inS_shr (by omega)
theorem sc_isPresent {w : PV} {u : HV} (h : Rel w u) : SC_isPresent Rel w u := by
  obtain ⟨m, n, q⟩ := h.1
  intro x
  refine sm_r1 h (q.gM x) fun c => ?_
  obtain ⟨k, -, hk, rfl⟩ := q.mem c
  exact bI_cong (q.pres hk)
theorem sc_wardWeight {w : PV} {u : HV} (h : Rel w u) : SC_wardWeight Rel w u := by
  obtain ⟨m, n, q⟩ := h.1
  intro x
  refine sm_r1 h (isW_btw.trans Classical.not_not.symm) fun c => ?_
  rw [rWd_row (r := u0 u) (r' := u) rfl]
  exact q.eWW x
theorem sc_strongestWard {w : PV} {u : HV} (h : Rel w u) : SC_strongestWard Rel w u := by
  obtain ⟨m, n, q⟩ := h.1
  refine sm_q h ?_
  have e : ∀ x, rWd (u0 u) x = hWW (w.1 0) x := fun x => (rWd_row (r := u0 u) (r' := u) rfl x).trans (q.eWW x).symm
  have k : ∀ (a b x y : Int32), (if a < b then x else y) = if b ≤ a then y else x := fun a b x y => by
    by_cases c : b ≤ a
    · rw [if_pos c, if_neg (nlt_le.mpr c)]
    · rw [if_neg c, if_pos (nle_lt.mp c)]
  have e1 : sw1 (w.1 0) = rS1 (u0 u) := by unfold sw1 rS1; rw [k, e, e]
  have e2 : sw2 (w.1 0) = rS2 (u0 u) := by unfold sw2 rS2; rw [k, ← e1, e, e]
  show sw3 (w.1 0) = rS3 (u0 u)
  unfold sw3 rS3
  rw [k, ← e2, e, e]
