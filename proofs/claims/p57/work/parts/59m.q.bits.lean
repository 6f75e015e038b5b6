/-! ===== the count of bits is the number of bits ===== -/
def ct (p : Nat → Bool) : Nat → Nat
  | 0 => 0
  | n + 1 => ct p n + (if p n then 1 else 0)
theorem ct_cong {p q : Nat → Bool} : ∀ n, (∀ i, i < n → p i = q i) → ct p n = ct q n
  | 0, _ => rfl
  | n + 1, h => by
    show ct p n + (if p n then 1 else 0) = ct q n + (if q n then 1 else 0)
    rw [ct_cong n fun i hi => h i (by omega), h n (Nat.lt_succ_self n)]
theorem ct_add (p : Nat → Bool) (m : Nat) : ∀ n, ct p (m + n) = ct p m + ct (fun i => p (m + i)) n
  | 0 => rfl
  | n + 1 => by
    show ct p (m + n) + (if p (m + n) then 1 else 0) = ct p m + (ct (fun i => p (m + i)) n + (if p (m + n) then 1 else 0))
    rw [ct_add p m n]
    omega
def xA (m n : Nat) : Nat := n - ((n / 2) &&& m)
def xB (m n : Nat) : Nat := (n &&& m) + ((n / 4) &&& m)
def xC (m n : Nat) : Nat := (n + n / 16) &&& m
theorem xA_s {m r H L : Nat} (hr : r < 128) (hL : L < 256) : xA (256 * m + r) (256 * H + L) = 256 * xA m H + xA r L := by
  unfold xA
  have e1 : (256 * H + L) / 2 = 256 * (H / 2) + (128 * (H % 2) + L / 2) := by omega
  have e4 : 256 * (H / 2) + (128 * (H % 2) + L / 2) &&& 256 * m + r = 256 * (H / 2 &&& m) + (128 * (H % 2) + L / 2 &&& r) := a_split 8 _ _ _ _ (by omega) (by omega)
  have e5 : 128 * (H % 2) + L / 2 &&& r = L / 2 &&& r := by
    have e3 := a_split 7 (H % 2) (L / 2) 0 r (by omega) hr
    rw [Nat.and_zero] at e3
    have e6 : 128 * (H % 2) + L / 2 &&& (128 * 0 + r) = 128 * 0 + (L / 2 &&& r) := e3
    rw [Nat.mul_zero, Nat.zero_add, Nat.zero_add] at e6
    exact e6
  rw [e1, e4, e5]
  have h1 : H / 2 &&& m ≤ H / 2 := Nat.and_le_left
  have h2 : L / 2 &&& r ≤ L / 2 := Nat.and_le_left
  generalize H / 2 &&& m = x at h1 ⊢
  generalize L / 2 &&& r = y at h2 ⊢
  omega
theorem xB_s {m r H L : Nat} (hr : r < 64) (hL : L < 256) : xB (256 * m + r) (256 * H + L) = 256 * xB m H + xB r L := by
  unfold xB
  have e1 : (256 * H + L) / 4 = 256 * (H / 4) + (64 * (H % 4) + L / 4) := by omega
  have e0 : 256 * H + L &&& 256 * m + r = 256 * (H &&& m) + (L &&& r) := a_split 8 _ _ _ _ hL (by omega)
  have e4 : 256 * (H / 4) + (64 * (H % 4) + L / 4) &&& 256 * m + r = 256 * (H / 4 &&& m) + (64 * (H % 4) + L / 4 &&& r) := a_split 8 _ _ _ _ (by omega) (by omega)
  have e5 : 64 * (H % 4) + L / 4 &&& r = L / 4 &&& r := by
    have e3 := a_split 6 (H % 4) (L / 4) 0 r (by omega) hr
    rw [Nat.and_zero] at e3
    have e6 : 64 * (H % 4) + L / 4 &&& (64 * 0 + r) = 64 * 0 + (L / 4 &&& r) := e3
    rw [Nat.mul_zero, Nat.zero_add, Nat.zero_add] at e6
    exact e6
  rw [e0, e1, e4, e5]
  omega
theorem xC_s {m r H L : Nat} (hr : r < 16) (hL : L ≤ 102) (hH : H % 16 ≤ 6) : xC (256 * m + r) (256 * H + L) = 256 * xC m H + xC r L := by
  unfold xC
  have e1 : 256 * H + L + (256 * H + L) / 16 = 256 * (H + H / 16) + (16 * (H % 16) + (L + L / 16)) := by omega
  have e4 : 256 * (H + H / 16) + (16 * (H % 16) + (L + L / 16)) &&& 256 * m + r = 256 * (H + H / 16 &&& m) + (16 * (H % 16) + (L + L / 16) &&& r) := a_split 8 _ _ _ _ (by omega) (by omega)
  have k : ∀ q x, x < 16 → 16 * q + x &&& r = x &&& r := fun q x hx => by
    have e3 := a_split 4 q x 0 r hx hr
    rw [Nat.and_zero] at e3
    have e6 : 16 * q + x &&& (16 * 0 + r) = 16 * 0 + (x &&& r) := e3
    rw [Nat.mul_zero, Nat.zero_add, Nat.zero_add] at e6
    exact e6
  have e5 : 16 * (H % 16) + (L + L / 16) &&& r = L + L / 16 &&& r := by
    have f1 : 16 * (H % 16) + (L + L / 16) = 16 * (H % 16 + (L + L / 16) / 16) + (L + L / 16) % 16 := by omega
    have f2 : L + L / 16 = 16 * ((L + L / 16) / 16) + (L + L / 16) % 16 := by omega
    rw [f1, k _ _ (Nat.mod_lt _ (by decide))]
    conv => rhs; rw [f2]
    rw [k _ _ (Nat.mod_lt _ (by decide))]
  rw [e1, e4, e5]
theorem byte_ok : ∀ L, L < 256 → xA 85 L < 256 ∧ xB 51 (xA 85 L) ≤ 102 ∧ xB 51 (xA 85 L) % 16 ≤ 6 ∧ xC 15 (xB 51 (xA 85 L)) = ct (fun i => L.testBit i) 8 := by decide +kernel
/-- four bytes -/
theorem by4 {n : Nat} (hn : n < 4294967296) : n = 256 * (256 * (256 * (n / 16777216) + n / 65536 % 256) + n / 256 % 256) + n % 256 := by omega
theorem xB_mod {m r H L : Nat} (hr : r < 64) (hL : L < 256) (hb : xB r L < 256) : xB (256 * m + r) (256 * H + L) % 16 = xB r L % 16 := by
  rw [xB_s hr hL]
  omega
theorem wsC_bytes {n : Nat} (hn : n < 4294967296) : wsC (wsB (wsA n)) = 16777216 * ct (fun i => (n / 16777216).testBit i) 8 + 65536 * ct (fun i => (n / 65536 % 256).testBit i) 8 + 256 * ct (fun i => (n / 256 % 256).testBit i) 8 + ct (fun i => (n % 256).testBit i) 8 := by
  obtain ⟨a0, b0, c0, d0⟩ := byte_ok (n % 256) (Nat.mod_lt _ (by decide))
  obtain ⟨a1, b1, c1, d1⟩ := byte_ok (n / 256 % 256) (Nat.mod_lt _ (by decide))
  obtain ⟨a2, b2, c2, d2⟩ := byte_ok (n / 65536 % 256) (Nat.mod_lt _ (by decide))
  obtain ⟨a3, b3, c3, d3⟩ := byte_ok (n / 16777216) (by omega)
  rw [← d0, ← d1, ← d2, ← d3]
  have e := by4 hn
  have h0 : n % 256 < 256 := Nat.mod_lt _ (by decide)
  have h1 : n / 256 % 256 < 256 := Nat.mod_lt _ (by decide)
  have h2 : n / 65536 % 256 < 256 := Nat.mod_lt _ (by decide)
  generalize n / 16777216 = n3 at e a3 b3 c3 d3 ⊢
  generalize n / 65536 % 256 = n2 at e h2 a2 b2 c2 d2 ⊢
  generalize n / 256 % 256 = n1 at e h1 a1 b1 c1 d1 ⊢
  generalize n % 256 = n0 at e h0 a0 b0 c0 d0 ⊢
  rw [e]
  have eA : wsA (256 * (256 * (256 * n3 + n2) + n1) + n0) = 256 * (256 * (256 * xA 85 n3 + xA 85 n2) + xA 85 n1) + xA 85 n0 := by
    show xA (256 * (256 * (256 * 85 + 85) + 85) + 85) _ = _
    rw [xA_s (by decide) h0, xA_s (by decide) h1, xA_s (by decide) h2]
  rw [eA]
  have eB : wsB (256 * (256 * (256 * xA 85 n3 + xA 85 n2) + xA 85 n1) + xA 85 n0) = 256 * (256 * (256 * xB 51 (xA 85 n3) + xB 51 (xA 85 n2)) + xB 51 (xA 85 n1)) + xB 51 (xA 85 n0) := by
    show xB (256 * (256 * (256 * 51 + 51) + 51) + 51) _ = _
    rw [xB_s (by decide) a0, xB_s (by decide) a1, xB_s (by decide) a2]
  rw [eB]
  generalize xB 51 (xA 85 n3) = y3 at b3 c3 ⊢
  generalize xB 51 (xA 85 n2) = y2 at b2 c2 ⊢
  generalize xB 51 (xA 85 n1) = y1 at b1 c1 ⊢
  generalize xB 51 (xA 85 n0) = y0 at b0 c0 ⊢
  show xC (256 * (256 * (256 * 15 + 15) + 15) + 15) _ = _
  rw [xC_s (by decide) b0 (by omega), xC_s (by decide) b1 (by omega), xC_s (by decide) b2 (by omega)]
  omega
theorem ct_le (p : Nat → Bool) : ∀ n, ct p n ≤ n
  | 0 => Nat.le_refl 0
  | n + 1 => by
    show ct p n + (if p n then 1 else 0) ≤ n + 1
    have := ct_le p n
    split <;> omega
theorem pc32_ct {n : Nat} (hn : n < 4294967296) : pc32 n = ct (fun i => n.testBit i) 32 := by
  have e : ct (fun i => n.testBit i) 32 = ct (fun i => (n % 256).testBit i) 8 + ct (fun i => (n / 256 % 256).testBit i) 8 + ct (fun i => (n / 65536 % 256).testBit i) 8 + ct (fun i => (n / 16777216).testBit i) 8 := by
    have k : ∀ j, ct (fun i => n.testBit (j + i)) 8 = ct (fun i => (n / 2 ^ j % 256).testBit i) 8 := fun j => ct_cong 8 fun i hi => by
      show n.testBit (j + i) = (n / 2 ^ j % 2 ^ 8).testBit i
      rw [Nat.testBit_mod_two_pow, decide_eq_true hi, Bool.true_and, Nat.testBit_div_two_pow, Nat.add_comm]
    have s1 := ct_add (fun i => n.testBit i) 24 8
    have s2 := ct_add (fun i => n.testBit i) 16 8
    have s3 := ct_add (fun i => n.testBit i) 8 8
    have s4 := k 0
    have k1 := k 8
    have k2 := k 16
    have k3 := k 24
    have z0 : ct (fun i => n.testBit (0 + i)) 8 = ct (fun i => n.testBit i) 8 := ct_cong 8 fun i _ => by rw [Nat.zero_add]
    rw [z0, Nat.pow_zero, Nat.div_one] at s4
    have d3 : n / 2 ^ 24 % 256 = n / 16777216 := by
      show n / 16777216 % 256 = _
      exact Nat.mod_eq_of_lt (by omega)
    rw [d3] at k3
    show ct (fun i => n.testBit i) (24 + 8) = _
    rw [s1]
    show ct (fun i => n.testBit i) (16 + 8) + _ = _
    rw [s2]
    show ct (fun i => n.testBit i) (8 + 8) + _ + _ = _
    rw [s3]
    show ct (fun i => n.testBit i) 8 + ct (fun i => n.testBit (8 + i)) 8 + ct (fun i => n.testBit (16 + i)) 8 + ct (fun i => n.testBit (24 + i)) 8 = _
    rw [s4, k1, k2, k3]
  unfold pc32
  rw [wsC_bytes hn, e]
  have h0 := ct_le (fun i => (n % 256).testBit i) 8
  have h1 := ct_le (fun i => (n / 256 % 256).testBit i) 8
  have h2 := ct_le (fun i => (n / 65536 % 256).testBit i) 8
  have h3 := ct_le (fun i => (n / 16777216).testBit i) 8
  generalize ct (fun i => (n % 256).testBit i) 8 = a at h0 ⊢
  generalize ct (fun i => (n / 256 % 256).testBit i) 8 = b at h1 ⊢
  generalize ct (fun i => (n / 65536 % 256).testBit i) 8 = c at h2 ⊢
  generalize ct (fun i => (n / 16777216).testBit i) 8 = d at h3 ⊢
  unfold wsE wsD
  have g1 : (16777216 * d + 65536 * c + 256 * b + a) / 256 = b + 256 * c + 65536 * d := by omega
  rw [g1]
  have g2 : (16777216 * d + 65536 * c + 256 * b + a + (b + 256 * c + 65536 * d)) / 65536 = c + d + 256 * d := by omega
  rw [g2]
  have g3 : 16777216 * d + 65536 * c + 256 * b + a + (b + 256 * c + 65536 * d) + (c + d + 256 * d) = (a + b + c + d) + 64 * (4 * b + 1024 * c + 262144 * d + 4 * c + 1024 * d + 4 * d) := by omega
  rw [g3, Nat.add_mul_mod_self_left]
  exact Nat.mod_eq_of_lt (by omega)
theorem jbc_ct (x : Int32) : jbc x = nI (ct (bt x) 32) := by
  obtain ⟨L, hL, rfl⟩ := of32 x
  rw [jbc_pc hL, pc32_ct hL]
  congr 1
  exact ct_cong 32 fun i hi => (n_bt L hi).symm
