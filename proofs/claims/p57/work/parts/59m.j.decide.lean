/-! ===== longs by their bits; the set of clauses in two ints ===== -/
def bl (x : Int64) (i : Nat) : Bool := x.toBitVec.getLsbD i
theorem l_ext {x y : Int64} (h : ∀ i, i < 64 → bl x i = bl y i) : x = y := Int64.toBitVec_inj.mp (BitVec.eq_of_getLsbD_eq (fun i hi => h i hi))
theorem l_or (x y : Int64) (i : Nat) : bl (x ||| y) i = (bl x i || bl y i) := by unfold bl; rw [Int64.toBitVec_or, BitVec.getLsbD_or]
theorem l_and (x y : Int64) (i : Nat) : bl (x &&& y) i = (bl x i && bl y i) := by unfold bl; rw [Int64.toBitVec_and, BitVec.getLsbD_and]
theorem l_xor (x y : Int64) (i : Nat) : bl (x ^^^ y) i = (bl x i ^^ bl y i) := by unfold bl; rw [Int64.toBitVec_xor, BitVec.getLsbD_xor]
theorem l_m1 : ∀ i, i < 64 → bl (-1) i = true := by decide +kernel
theorem l_big {x : Int64} {i : Nat} (h : 64 ≤ i) : bl x i = false := BitVec.getLsbD_of_ge _ _ h
theorem l_0 (i : Nat) : bl 0 i = false := BitVec.getLsbD_zero
theorem l_1 (i : Nat) : bl 1 i = decide (i = 0) := by
  by_cases h : i < 64
  · exact (show ∀ i, i < 64 → bl 1 i = decide (i = 0) by decide +kernel) i h
  · rw [l_big (by omega), decide_eq_false (by omega)]
theorem l_mask : ∀ i, i < 64 → bl 4294967295 i = decide (i < 32) := by decide +kernel
theorem l_sl : ∀ n, n < 64 → (((nI n).toInt64 &&& 63).toBitVec.smod 64).toNat = n := by decide +kernel
theorem l_su : ∀ n, n < 64 → (((nI n).toInt64.toUInt64 &&& Int64.toUInt64 63).toBitVec % 64).toNat = n := by decide +kernel
theorem l_shl {n : Nat} (hn : n < 64) (x : Int64) {i : Nat} (hi : i < 64) : bl (lsl x (nI n)) i = (decide (n ≤ i) && bl x (i - n)) := by
  unfold bl
  show (x <<< ((nI n).toInt64 &&& 63)).toBitVec.getLsbD i = _
  rw [Int64.toBitVec_shiftLeft]
  show (x.toBitVec <<< ((((nI n).toInt64 &&& 63).toBitVec.smod 64).toNat)).getLsbD i = _
  rw [l_sl n hn, BitVec.getLsbD_shiftLeft]
  rcases Nat.lt_or_ge i n with h | h
  · simp [h, Nat.not_le.mpr h]
  · simp [hi, h, Nat.not_lt.mpr h]
theorem l_ushr {n : Nat} (hn : n < 64) (x : Int64) (i : Nat) : bl (lus x (nI n)) i = bl x (n + i) := by
  show (x.toUInt64 >>> ((nI n).toInt64.toUInt64 &&& Int64.toUInt64 63)).toBitVec.getLsbD i = x.toUInt64.toBitVec.getLsbD (n + i)
  rw [UInt64.toBitVec_shiftRight]
  show (x.toUInt64.toBitVec >>> ((((nI n).toInt64.toUInt64 &&& Int64.toUInt64 63).toBitVec % 64).toNat)).getLsbD i = _
  rw [l_su n hn, BitVec.getLsbD_ushiftRight]
theorem l_i2l {x : Int32} {i : Nat} (hi : i < 32) : bl (i2l x) i = bt x i := by
  show x.toInt64.toBitVec.getLsbD i = x.toBitVec.getLsbD i
  rw [Int32.toBitVec_toInt64, BitVec.getLsbD_signExtend, if_pos hi, decide_eq_true (by omega), Bool.true_and]
theorem cl64_bl (hi lo : Int32) {i : Nat} (h : i < 64) : bl (cl64 hi lo) i = if i < 32 then bt lo i else bt hi (i - 32) := by
  show bl (lsl (i2l hi) (nI 32) ||| i2l lo &&& 4294967295) i = _
  rw [l_or, l_and, l_shl (by decide) _ h, l_mask i h]
  by_cases c : i < 32
  · rw [if_pos c, l_i2l c, decide_eq_false (show ¬ 32 ≤ i by omega), decide_eq_true c, Bool.false_and, Bool.false_or, Bool.and_true]
  · rw [if_neg c, l_i2l (show i - 32 < 32 by omega), decide_eq_true (show 32 ≤ i by omega), decide_eq_false c, Bool.true_and, Bool.and_false, Bool.or_false]
theorem b_sh1 {c : Nat} (hc : c < 32) {i : Nat} (hi : i < 32) : bt (shl 1 (nI c)) i = decide (i = c) := by
  show bt ((1 : Int32) <<< (nI c &&& 31)) i = _
  rw [b_shl c hc 1 hi, b_1]
  by_cases h : i = c
  · subst h; rw [decide_eq_true (Nat.le_refl i), decide_eq_true (Nat.sub_self i), decide_eq_true rfl]; rfl
  · rw [decide_eq_false h]
    by_cases h2 : c ≤ i
    · rw [decide_eq_false (show ¬ i - c = 0 by omega), Bool.and_false]
    · rw [decide_eq_false h2, Bool.false_and]
theorem l_sh1 {c : Nat} (hc : c < 64) {i : Nat} (hi : i < 64) : bl (lsl 1 (nI c)) i = decide (i = c) := by
  rw [l_shl hc 1 hi, l_1]
  by_cases h : i = c
  · subst h; rw [decide_eq_true (Nat.le_refl i), decide_eq_true (Nat.sub_self i), decide_eq_true rfl]; rfl
  · rw [decide_eq_false h]
    by_cases h2 : c ≤ i
    · rw [decide_eq_false (show ¬ i - c = 0 by omega), Bool.and_false]
    · rw [decide_eq_false h2, Bool.false_and]
theorem tog_lo {c : Nat} (hc : c < 32) (hi lo : Int32) : cl64 hi lo ^^^ lsl 1 (nI c) = cl64 hi (lo ^^^ shl 1 (nI c)) := l_ext fun i h => by
  rw [l_xor, cl64_bl _ _ h, cl64_bl _ _ h, l_sh1 (by omega) h]
  by_cases q : i < 32
  · rw [if_pos q, if_pos q, b_xor, b_sh1 hc q]
  · rw [if_neg q, if_neg q, decide_eq_false (show ¬ i = c by omega), Bool.xor_false]
theorem tog_hi {c : Nat} (hc : c < 32) (hi lo : Int32) : cl64 hi lo ^^^ lsl 1 (nI (32 + c)) = cl64 (hi ^^^ shl 1 (nI c)) lo := l_ext fun i h => by
  rw [l_xor, cl64_bl _ _ h, cl64_bl _ _ h, l_sh1 (by omega) h]
  by_cases q : i < 32
  · rw [if_pos q, if_pos q, decide_eq_false (show ¬ i = 32 + c by omega), Bool.xor_false]
  · rw [if_neg q, if_neg q, b_xor, b_sh1 hc (by omega)]
    have e : (i = 32 + c) ↔ (i - 32 = c) := by omega
    rw [decide_eq_decide.mpr e]
theorem irm32 : ∀ c, c < 64 → irm (nI c) 32 = nI (c % 32) := by decide +kernel
theorem mTog_e {v : HV} {b c : Nat} (hc : c < 64) : ∃ (k : Nat) (x : Int32), (k = 1 ∨ k = 2) ∧ (mTog v b (nI c)).2.1 1 = upd (v.2.1 1) (53 + 16 * b + k) x ∧ cl64 ((mTog v b (nI c)).2.1 1 (53 + 16 * b + 2)) ((mTog v b (nI c)).2.1 1 (53 + 16 * b + 1)) = cl64 (v.2.1 1 (53 + 16 * b + 2)) (v.2.1 1 (53 + 16 * b + 1)) ^^^ lsl 1 (nI c) := by
  by_cases h : c < 32
  · have h9 : ¬ (32 : Int32) ≤ nI c := fun z => by have := (nI_leI (a := 32) (by decide) (by omega)).mp z; omega
    have e : (mTog v b (nI c)).2.1 1 = upd (v.2.1 1) (53 + 16 * b + 1) (v.2.1 1 (53 + 16 * b + 1) ^^^ shl 1 (nI c)) := by
      show upd (v.2.1 1) (53 + 16 * b + (if (32 : Int32) ≤ nI c then 2 else 1)) (v.2.1 1 (53 + 16 * b + (if (32 : Int32) ≤ nI c then 2 else 1)) ^^^ shl 1 (irm (nI c) 32)) = _
      rw [if_neg h9, irm32 c hc, Nat.mod_eq_of_lt h]
    refine ⟨1, _, Or.inl rfl, e, ?_⟩
    rw [e, upd_s, upd_n (by omega)]
    exact (tog_lo h _ _).symm
  · have h9 : (32 : Int32) ≤ nI c := (nI_leI (a := 32) (by decide) (by omega)).mpr (by omega)
    have ec : c % 32 = c - 32 := by omega
    have e : (mTog v b (nI c)).2.1 1 = upd (v.2.1 1) (53 + 16 * b + 2) (v.2.1 1 (53 + 16 * b + 2) ^^^ shl 1 (nI (c - 32))) := by
      show upd (v.2.1 1) (53 + 16 * b + (if (32 : Int32) ≤ nI c then 2 else 1)) (v.2.1 1 (53 + 16 * b + (if (32 : Int32) ≤ nI c then 2 else 1)) ^^^ shl 1 (irm (nI c) 32)) = _
      rw [if_pos h9, irm32 c hc, ec]
    refine ⟨2, _, Or.inr rfl, e, ?_⟩
    rw [e, upd_s, upd_n (by omega)]
    have h2 := tog_hi (c := c - 32) (by omega) (v.2.1 1 (53 + 16 * b + 2)) (v.2.1 1 (53 + 16 * b + 1))
    rw [show 32 + (c - 32) = c by omega] at h2
    exact h2.symm
/-! ===== deciding an amendment ===== -/
theorem sShf_r {v : HV} {b : Nat} : ∀ n j, (sShf v b n).2.1 1 (53 + 16 * b + j) = if 8 ≤ j ∧ j < 8 + n then v.2.1 1 (53 + 16 * b + (j + 2)) else v.2.1 1 (53 + 16 * b + j)
  | 0, j => by rw [if_neg (by omega)]; rfl
  | n + 1, j => by
    show upd ((sShf v b n).2.1 1) (53 + 16 * b + (8 + n)) ((sShf v b n).2.1 1 (53 + 16 * b + (8 + n + 2))) (53 + 16 * b + j) = _
    by_cases c : j = 8 + n
    · subst c
      rw [upd_s, sShf_r n (8 + n + 2), if_neg (by omega), if_pos (by omega)]
    · rw [upd_n (by omega), sShf_r n j]
      by_cases c2 : 8 ≤ j ∧ j < 8 + n
      · rw [if_pos c2, if_pos (by omega)]
      · rw [if_neg c2, if_neg (by omega)]
theorem sShf_off {v : HV} {h h' : HV} {b : Nat} {r : Nat → Int32} (o : OffB b h h' r (v.2.1 1)) : ∀ n, n ≤ 6 → OffB b h h' r ((sShf v b n).2.1 1)
  | 0, _ => o
  | n + 1, hn => by
    show OffB b h h' r (upd ((sShf v b n).2.1 1) (53 + 16 * b + (8 + n)) _)
    exact (sShf_off o n (by omega)).row (by omega)
theorem sShf_4 {v : HV} {b : Nat} : ∀ n, (sShf v b n).2.1 1 4 = v.2.1 1 4
  | 0 => rfl
  | n + 1 => by
    show upd ((sShf v b n).2.1 1) (53 + 16 * b + (8 + n)) _ 4 = _
    rw [upd_n (by omega), sShf_4 n]
theorem aShift_o {h : HV} {b : Nat} (hb : b < 8) : ∀ n, (aShift h (nI b) n).1 = h.1 ∧ (aShift h (nI b) n).2.2 = h.2.2 ∧ ∀ k, k ≠ 12 + b → k ≠ 20 + b → (aShift h (nI b) n).2.1 k = h.2.1 k
  | 0 => ⟨rfl, rfl, fun _ _ _ => rfl⟩
  | n + 1 => by
    obtain ⟨e1, e2, e3⟩ := aShift_o hb n
    refine ⟨e1, e2, fun k h1 h2 => ?_⟩
    show (aShift1 (aShift h (nI b) n) (nI b) n).2.1 k = _
    unfold aShift1
    rw [cN_nI (by omega)]
    show (hset (hset (aShift h (nI b) n) (12 + b) n _) (20 + b) n _).2.1 k = _
    rw [hset_n h2, hset_n h1]
    exact e3 k h1 h2
theorem aShift_r {h : HV} {b : Nat} (hb : b < 8) : ∀ n j, (aShift h (nI b) n).2.1 (12 + b) j = (if j < n then h.2.1 (12 + b) (j + 1) else h.2.1 (12 + b) j) ∧ (aShift h (nI b) n).2.1 (20 + b) j = (if j < n then h.2.1 (20 + b) (j + 1) else h.2.1 (20 + b) j)
  | 0, j => ⟨rfl, rfl⟩
  | n + 1, j => by
    have e : aShift h (nI b) (n + 1) = hset (hset (aShift h (nI b) n) (12 + b) n ((aShift h (nI b) n).2.1 (12 + b) (n + 1))) (20 + b) n ((hset (aShift h (nI b) n) (12 + b) n ((aShift h (nI b) n).2.1 (12 + b) (n + 1))).2.1 (20 + b) (n + 1)) := by
      show aShift1 (aShift h (nI b) n) (nI b) n = _
      unfold aShift1
      rw [cN_nI (by omega)]
    rw [e]
    constructor
    · rw [hset_n (by omega), hset_s]
      by_cases c : j = n
      · subst c; rw [upd_s, (aShift_r hb j (j + 1)).1, if_neg (by omega), if_pos (by omega)]
      · rw [upd_n c, (aShift_r hb n j).1]
        by_cases c2 : j < n
        · rw [if_pos c2, if_pos (by omega)]
        · rw [if_neg c2, if_neg (by omega)]
    · rw [hset_s]
      by_cases c : j = n
      · subst c; rw [upd_s, hset_n (by omega), (aShift_r hb j (j + 1)).2, if_neg (by omega), if_pos (by omega)]
      · rw [upd_n c, hset_n (by omega), (aShift_r hb n j).2]
        by_cases c2 : j < n
        · rw [if_pos c2, if_pos (by omega)]
        · rw [if_neg c2, if_neg (by omega)]
theorem aShift_off {h h' : HV} {b : Nat} {r r' : Nat → Int32} (hb : b < 8) (o : OffB b h h' r r') : ∀ n, OffB b h (aShift h' (nI b) n) r r'
  | 0 => o
  | n + 1 => by
    show OffB b h (aShift1 (aShift h' (nI b) n) (nI b) n) r r'
    unfold aShift1
    rw [cN_nI (by omega)]
    exact ((aShift_off hb o n).seta hb).sets hb
/-- the last of it: h2, v2 with p + 1 pending, then one less, and shifted -/
theorem hs_dec1 {m n b p : Nat} {h h2 v2 : HV} {r : Nat → Int32} (q : HSn m n h r) (hb : b < n) (h8 : b < 8) (hp : p < 4) (o : OffB b h h2 r (v2.2.1 1)) (h4 : v2.2.1 1 4 = h2.1 4) (eq : (v2.2.1 1 (53 + 16 * b + 0) = h2.2.1 3 b ∧ v2.2.1 1 (53 + 16 * b + 3) = h2.2.1 4 b ∧ v2.2.1 1 (53 + 16 * b + 4) = h2.2.1 5 b ∧ v2.2.1 1 (53 + 16 * b + 5) = h2.2.1 6 b ∧ v2.2.1 1 (53 + 16 * b + 6) = h2.2.1 7 b ∧ v2.2.1 1 (53 + 16 * b + 7) = h2.2.1 8 b)) (hc : h2.2.2 b = cl64 (v2.2.1 1 (53 + 16 * b + 2)) (v2.2.1 1 (53 + 16 * b + 1))) (e8 : h2.2.1 8 b = nI (p + 1)) (ha : ∀ j, j < p + 1 → v2.2.1 1 (53 + 16 * b + (8 + 2 * j)) = h2.2.1 (12 + b) j ∧ v2.2.1 1 (53 + 16 * b + (8 + 2 * j + 1)) = h2.2.1 (20 + b) j ∧ ∃ c, c < 64 ∧ h2.2.1 (12 + b) j = nI c) (hs : h2.2.1 3 b = 0 ∨ h2.2.1 3 b = 1 ∨ h2.2.1 3 b = 2) (hg : ∃ g, g ≤ 3 ∧ h2.2.1 4 b = nI g ∧ (h2.2.1 3 b = 0 → g ≤ 2)) (hd : ∃ d, d ≤ 209 ∧ h2.2.1 5 b = nI d ∧ (h2.2.1 3 b = 0 → d < 180)) (hx : h2.2.1 6 b &&& h2.2.1 7 b = 0) : HSn m n (aShift (aDec1 h2 (nI b)) (nI b) 3) ((sShf (sDec1 v2 b) b (2 * p)).2.1 1) := by
  obtain ⟨f0, f3, f4, f5, f6, f7⟩ := eq
  have ed : aDec1 h2 (nI b) = hset h2 8 b (nI p) := by
    unfold aDec1
    rw [cN_nI (by omega), e8, nI_sub1 (by omega)]
    rfl
  have es : (sDec1 v2 b).2.1 1 = upd (v2.2.1 1) (53 + 16 * b + 7) (nI p) := by
    show upd (v2.2.1 1) (53 + 16 * b + 7) (v2.2.1 1 (53 + 16 * b + 7) - 1) = _
    rw [f7, e8, nI_sub1 (by omega)]
    rfl
  rw [ed]
  obtain ⟨o1, o2, o3⟩ := aShift_o (h := hset h2 8 b (nI p)) h8 3
  have od : OffB b h (hset h2 8 b (nI p)) r ((sDec1 v2 b).2.1 1) := by rw [es]; exact (o.set (by decide)).row (by decide)
  have rr : ∀ j, (sShf (sDec1 v2 b) b (2 * p)).2.1 1 (53 + 16 * b + j) = if 8 ≤ j ∧ j < 8 + 2 * p then v2.2.1 1 (53 + 16 * b + (j + 2)) else if j = 7 then nI p else v2.2.1 1 (53 + 16 * b + j) := fun j => by
    rw [sShf_r, es]
    by_cases c : 8 ≤ j ∧ j < 8 + 2 * p
    · rw [if_pos c, if_pos c, upd_n (by omega)]
    · rw [if_neg c, if_neg c]
      by_cases c7 : j = 7
      · subst c7; rw [upd_s, if_pos rfl]
      · rw [upd_n (by omega), if_neg c7]
  have lo : ∀ j, j < 7 → (sShf (sDec1 v2 b) b (2 * p)).2.1 1 (53 + 16 * b + j) = v2.2.1 1 (53 + 16 * b + j) := fun j hj => by rw [rr, if_neg (by omega), if_neg (by omega)]
  refine q.bill (aShift_off h8 (sShf_off od (2 * p) (by omega)) 3) ?_ (BL.of (ρ := fun j => (sShf (sDec1 v2 b) b (2 * p)).2.1 1 (53 + 16 * b + j)) (st := h2.2.1 3 b) (rd := h2.2.1 4 b) (dl := h2.2.1 5 b) (fo := h2.2.1 6 b) (ag := h2.2.1 7 b) (pe := nI p) (cl := h2.2.2 b) (am := fun j => if j < 3 then h2.2.1 (12 + b) (j + 1) else h2.2.1 (12 + b) j) (su := fun j => if j < 3 then h2.2.1 (20 + b) (j + 1) else h2.2.1 (20 + b) j) ?_ ?_ ?_ ?_ ?_ ?_ ?_ ?_ ?_ ?_ rfl)
  · rw [sShf_4, es, upd_n (by omega), o1]; exact h4
  · refine BV.mk hb ⟨(lo 0 (by decide)).trans f0, (lo 3 (by decide)).trans f3, (lo 4 (by decide)).trans f4, (lo 5 (by decide)).trans f5, (lo 6 (by decide)).trans f6, ?_⟩ ?_ ⟨p, by omega, rfl, fun j hj => ?_⟩ hs hg hd hx
    · show (sShf (sDec1 v2 b) b (2 * p)).2.1 1 (53 + 16 * b + 7) = _
      rw [rr, if_neg (by omega), if_pos rfl]
    · show _ = cl64 ((sShf (sDec1 v2 b) b (2 * p)).2.1 1 (53 + 16 * b + 2)) ((sShf (sDec1 v2 b) b (2 * p)).2.1 1 (53 + 16 * b + 1))
      rw [lo 2 (by decide), lo 1 (by decide)]; exact hc
    · obtain ⟨z1, z2, z3⟩ := ha (j + 1) (by omega)
      rw [if_pos (show j < 3 by omega), if_pos (show j < 3 by omega), rr, rr, if_pos (by omega), if_pos (by omega)]
      exact ⟨z1, z2, z3⟩
  · rw [o3 3 (by omega) (by omega), hset_n (by decide)]
  · rw [o3 4 (by omega) (by omega), hset_n (by decide)]
  · rw [o3 5 (by omega) (by omega), hset_n (by decide)]
  · rw [o3 6 (by omega) (by omega), hset_n (by decide)]
  · rw [o3 7 (by omega) (by omega), hset_n (by decide)]
  · rw [o3 8 (by omega) (by omega), hset_s, upd_s]
  · rw [o2]; rfl
  · funext j; rw [(aShift_r h8 3 j).1, hset_n (by omega)]
  · funext j; rw [(aShift_r h8 3 j).2, hset_n (by omega)]
theorem acc_iff {m n b : Nat} {h v : HV} (q : HSn m n h (v.2.1 1)) (h8 : b < 8) (hp : ∃ p, 0 < p ∧ p ≤ 4 ∧ h.2.1 8 b = nI p) : accD h (nI b) ↔ ¬ 2 * rWt v (rB v b 9) ≤ rWt v (v.2.1 1 2) := by
  obtain ⟨p', hp1, hp2, hp3⟩ := hp
  obtain ⟨-, -, ⟨p, hp, ep, hq⟩, -⟩ := q.bl h8
  have e : p' = p := (nI_eq (by omega) (by omega)).mp (hp3.symm.trans ep)
  subst e
  have e9 : v.2.1 1 (53 + 16 * b + 9) = h.2.1 (20 + b) 0 := (hq 0 hp1).2.1
  show hW h (h.1 1) < 2 * hW h (h.2.1 (20 + cN (nI b)) 0) ↔ ¬ 2 * rWt v (v.2.1 1 (53 + 16 * b + 9)) ≤ rWt v (v.2.1 1 2)
  rw [cN_nI (by omega), e9, q.2.2.2.1.1, q.eW, q.eW, nle_lt]
theorem hs_decide {m n b : Nat} {h v : HV} (q : HSn m n h (v.2.1 1)) (hb : b < n) (h8 : b < 8) (hp : ¬ h.2.1 8 b = 0) : HSn m n (aDecide h (nI b)) ((sDec v b).2.1 1) ∧ (accD h (nI b) ↔ rAcc v b) := by
  obtain ⟨⟨r0, r3, r4, r5, r6, r7⟩, rc, ⟨p, hp4, ep, hq⟩, hs, hg, hd, hx, -⟩ := q.bl h8
  have hp1 : 0 < p := Nat.pos_of_ne_zero fun e => hp (by rw [ep, e]; rfl)
  have ha := acc_iff q h8 ⟨p, hp1, hp4, ep⟩
  refine ⟨?_, ha⟩
  have e7 : 2 * cN (rB v b 7 - 1) = 2 * (p - 1) := by
    show 2 * cN (v.2.1 1 (53 + 16 * b + 7) - 1) = _
    rw [r7, ep, nI_sub1 hp1, cN_nI (by omega)]
  have ep' : h.2.1 8 b = nI (p - 1 + 1) := by rw [ep]; congr 1; omega
  have q4 : v.2.1 1 4 = h.1 4 := q.2.2.2.1.2.2
  unfold aDecide sDec
  rw [e7]
  by_cases c : accD h (nI b)
  · rw [if_pos c, if_neg (ha.mp c)]
    obtain ⟨c0, hc0, ec0⟩ := (hq 0 hp1).2.2
    have e8 : v.2.1 1 (53 + 16 * b + 8) = nI c0 := (hq 0 hp1).1.trans ec0
    obtain ⟨k, x, hk, ek, ecl⟩ := mTog_e (v := v) (b := b) hc0
    have ea : aDec0 h (nI b) = hsc (hcl h (vp_updL h.2.2 b (h.2.2 b ^^^ lsl 1 (nI c0)))) 4 (h.1 4 + 1) := by
      unfold aDec0
      rw [cN_nI (by omega), ec0]
      rfl
    have es : (sDec0 v b).2.1 1 = upd (upd (v.2.1 1) (53 + 16 * b + k) x) 4 (h.1 4 + 1) := by
      show upd ((mTog v b (v.2.1 1 (53 + 16 * b + 8))).2.1 1) 4 ((mTog v b (v.2.1 1 (53 + 16 * b + 8))).2.1 1 4 + 1) = _
      rw [e8, ek, upd_n (by omega), q4]
    have rx : ∀ j, j ≠ 1 → j ≠ 2 → (sDec0 v b).2.1 1 (53 + 16 * b + j) = v.2.1 1 (53 + 16 * b + j) := fun j h1 h2 => by
      rw [es, upd_n (by omega), upd_n (by rcases hk with rfl | rfl <;> omega)]
    have rk : ∀ j, (sDec0 v b).2.1 1 (53 + 16 * b + j) = (mTog v b (nI c0)).2.1 1 (53 + 16 * b + j) := fun j => by rw [es, ek, upd_n (by omega)]
    refine hs_dec1 (p := p - 1) (h2 := aDec0 h (nI b)) (v2 := sDec0 v b) q hb h8 (by omega) ?_ ?_ ?_ ?_ ?_ (fun j hj => ?_) ?_ ?_ ?_ ?_
    · rw [ea, es]
      exact ((OffB.rf.clx).sc4).row (by rcases hk with rfl | rfl <;> decide) |>.r4
    · rw [es, ea, upd_s]; rfl
    · rw [ea]
      exact ⟨(rx 0 (by decide) (by decide)).trans r0, (rx 3 (by decide) (by decide)).trans r3, (rx 4 (by decide) (by decide)).trans r4, (rx 5 (by decide) (by decide)).trans r5, (rx 6 (by decide) (by decide)).trans r6, (rx 7 (by decide) (by decide)).trans r7⟩
    · rw [rk 2, rk 1, ecl, ea]
      show (if b = b then h.2.2 b ^^^ lsl 1 (nI c0) else h.2.2 b) = _
      rw [if_pos rfl, rc]
    · rw [ea]; exact ep'
    · rw [rx _ (by omega) (by omega), rx _ (by omega) (by omega), ea]
      exact hq j (by omega)
    · rw [ea]; exact hs
    · rw [ea]; exact hg
    · rw [ea]; exact hd
    · rw [ea]; exact hx
  · rw [if_neg c, if_pos (Classical.byContradiction fun z => c (ha.mpr z))]
    exact hs_dec1 (p := p - 1) (h2 := h) (v2 := v) q hb h8 (by omega) OffB.rf q4 ⟨r0, r3, r4, r5, r6, r7⟩ rc ep' (fun j hj => hq j (by omega)) hs hg hd hx
