theorem nib (m y : Nat) : y &&& m = 16 * (y / 16 &&& m / 16) + (y % 16 &&& m % 16) := by
  have e2 := a_split 4 (y / 16) (y % 16) (m / 16) (m % 16) (Nat.mod_lt _ (by decide)) (Nat.mod_lt _ (by decide))
  have e3 : 16 * (y / 16) + y % 16 &&& (16 * (m / 16) + m % 16) = 16 * (y / 16 &&& m / 16) + (y % 16 &&& m % 16) := e2
  rw [Nat.div_add_mod, Nat.div_add_mod] at e3
  exact e3
theorem nib3 (m y : Nat) (h : m % 16 = 3) : ∃ d, d ≤ 3 ∧ y &&& m = 16 * (y / 16 &&& m / 16) + d := ⟨_, Nat.and_le_right, by rw [nib m y, h]⟩
theorem m3_8 (y : Nat) : ∃ d0 d1 d2 d3 d4 d5 d6 d7, (d0 ≤ 3 ∧ d1 ≤ 3 ∧ d2 ≤ 3 ∧ d3 ≤ 3 ∧ d4 ≤ 3 ∧ d5 ≤ 3 ∧ d6 ≤ 3 ∧ d7 ≤ 3) ∧ y &&& 858993459 = d0 + 16 * d1 + 256 * d2 + 4096 * d3 + 65536 * d4 + 1048576 * d5 + 16777216 * d6 + 268435456 * d7 := by
  obtain ⟨d0, h0, e0⟩ := nib3 858993459 (y) (by decide)
  obtain ⟨d1, h1, e1⟩ := nib3 53687091 (y / 16) (by decide)
  obtain ⟨d2, h2, e2⟩ := nib3 3355443 (y / 16 / 16) (by decide)
  obtain ⟨d3, h3, e3⟩ := nib3 209715 (y / 16 / 16 / 16) (by decide)
  obtain ⟨d4, h4, e4⟩ := nib3 13107 (y / 16 / 16 / 16 / 16) (by decide)
  obtain ⟨d5, h5, e5⟩ := nib3 819 (y / 16 / 16 / 16 / 16 / 16) (by decide)
  obtain ⟨d6, h6, e6⟩ := nib3 51 (y / 16 / 16 / 16 / 16 / 16 / 16) (by decide)
  obtain ⟨d7, h7, e7⟩ := nib3 3 (y / 16 / 16 / 16 / 16 / 16 / 16 / 16) (by decide)
  rw [show 858993459 / 16 = 53687091 by decide] at e0
  rw [show 53687091 / 16 = 3355443 by decide] at e1
  rw [show 3355443 / 16 = 209715 by decide] at e2
  rw [show 209715 / 16 = 13107 by decide] at e3
  rw [show 13107 / 16 = 819 by decide] at e4
  rw [show 819 / 16 = 51 by decide] at e5
  rw [show 51 / 16 = 3 by decide] at e6
  rw [show 3 / 16 = 0 by decide, Nat.and_zero] at e7
  refine ⟨d0, d1, d2, d3, d4, d5, d6, d7, ⟨h0, h1, h2, h3, h4, h5, h6, h7⟩, ?_⟩
  rw [e0, e1, e2, e3, e4, e5, e6, e7]
  omega
theorem wsB_8 (n : Nat) : ∃ e0 e1 e2 e3 e4 e5 e6 e7, (e0 ≤ 6 ∧ e1 ≤ 6 ∧ e2 ≤ 6 ∧ e3 ≤ 6 ∧ e4 ≤ 6 ∧ e5 ≤ 6 ∧ e6 ≤ 6 ∧ e7 ≤ 6) ∧ wsB n = e0 + 16 * e1 + 256 * e2 + 4096 * e3 + 65536 * e4 + 1048576 * e5 + 16777216 * e6 + 268435456 * e7 := by
  obtain ⟨a0, a1, a2, a3, a4, a5, a6, a7, ⟨p0, p1, p2, p3, p4, p5, p6, p7⟩, e⟩ := m3_8 n
  obtain ⟨b0, b1, b2, b3, b4, b5, b6, b7, ⟨q0, q1, q2, q3, q4, q5, q6, q7⟩, e'⟩ := m3_8 (n / 4)
  refine ⟨a0 + b0, a1 + b1, a2 + b2, a3 + b3, a4 + b4, a5 + b5, a6 + b6, a7 + b7, ⟨by omega, by omega, by omega, by omega, by omega, by omega, by omega, by omega⟩, ?_⟩
  unfold wsB
  rw [e, e']
  omega
theorem mF_8 {f0 f1 f2 f3 f4 f5 f6 f7 : Nat} (h : f0 ≤ 15 ∧ f1 ≤ 15 ∧ f2 ≤ 15 ∧ f3 ≤ 15 ∧ f4 ≤ 15 ∧ f5 ≤ 15 ∧ f6 ≤ 15 ∧ f7 ≤ 15) : (f0 + 16 * f1 + 256 * f2 + 4096 * f3 + 65536 * f4 + 1048576 * f5 + 16777216 * f6 + 268435456 * f7) &&& 252645135 = f0 + 256 * f2 + 65536 * f4 + 16777216 * f6 := by
  obtain ⟨h0, h1, h2, h3, h4, h5, h6, h7⟩ := h
  have k15 : ∀ (m y x f : Nat), m % 16 = 15 → f ≤ 15 → y = 16 * x + f → y &&& m = 16 * (x &&& m / 16) + f := fun m y x f hm hf hy => by
    have z : f &&& 15 = f % 16 := Nat.and_two_pow_sub_one_eq_mod f 4
    rw [nib m y, hm, show y / 16 = x by omega, show y % 16 = f by omega, z, Nat.mod_eq_of_lt (by omega)]
  have k0 : ∀ (m y x f : Nat), m % 16 = 0 → f ≤ 15 → y = 16 * x + f → y &&& m = 16 * (x &&& m / 16) := fun m y x f hm hf hy => by
    rw [nib m y, hm, show y / 16 = x by omega, Nat.and_zero, Nat.add_zero]
  have r0 := k15 252645135 (f0 + 16 * f1 + 256 * f2 + 4096 * f3 + 65536 * f4 + 1048576 * f5 + 16777216 * f6 + 268435456 * f7) (f1 + 16 * f2 + 256 * f3 + 4096 * f4 + 65536 * f5 + 1048576 * f6 + 16777216 * f7) f0 (by decide) h0 (by omega)
  have r1 := k0 15790320 (f1 + 16 * f2 + 256 * f3 + 4096 * f4 + 65536 * f5 + 1048576 * f6 + 16777216 * f7) (f2 + 16 * f3 + 256 * f4 + 4096 * f5 + 65536 * f6 + 1048576 * f7) f1 (by decide) h1 (by omega)
  have r2 := k15 986895 (f2 + 16 * f3 + 256 * f4 + 4096 * f5 + 65536 * f6 + 1048576 * f7) (f3 + 16 * f4 + 256 * f5 + 4096 * f6 + 65536 * f7) f2 (by decide) h2 (by omega)
  have r3 := k0 61680 (f3 + 16 * f4 + 256 * f5 + 4096 * f6 + 65536 * f7) (f4 + 16 * f5 + 256 * f6 + 4096 * f7) f3 (by decide) h3 (by omega)
  have r4 := k15 3855 (f4 + 16 * f5 + 256 * f6 + 4096 * f7) (f5 + 16 * f6 + 256 * f7) f4 (by decide) h4 (by omega)
  have r5 := k0 240 (f5 + 16 * f6 + 256 * f7) (f6 + 16 * f7) f5 (by decide) h5 (by omega)
  have r6 := k15 15 (f6 + 16 * f7) (f7) f6 (by decide) h6 (by omega)
  have r7 := k0 0 (f7) (0) f7 (by decide) h7 (by omega)
  rw [show 252645135 / 16 = 15790320 by decide] at r0
  rw [show 15790320 / 16 = 986895 by decide] at r1
  rw [show 986895 / 16 = 61680 by decide] at r2
  rw [show 61680 / 16 = 3855 by decide] at r3
  rw [show 3855 / 16 = 240 by decide] at r4
  rw [show 240 / 16 = 15 by decide] at r5
  rw [show 15 / 16 = 0 by decide] at r6
  rw [Nat.zero_and] at r7
  rw [r0, r1, r2, r3, r4, r5, r6, r7]
  omega
theorem wsC_12 (n : Nat) : ∃ a b c d, a ≤ 12 ∧ b ≤ 12 ∧ c ≤ 12 ∧ d ≤ 12 ∧ wsC (wsB n) = a + 256 * b + 65536 * c + 16777216 * d := by
  obtain ⟨e0, e1, e2, e3, e4, e5, e6, e7, ⟨p0, p1, p2, p3, p4, p5, p6, p7⟩, e⟩ := wsB_8 n
  refine ⟨e0 + e1, e2 + e3, e4 + e5, e6 + e7, by omega, by omega, by omega, by omega, ?_⟩
  unfold wsC
  rw [e]
  have y : e0 + 16 * e1 + 256 * e2 + 4096 * e3 + 65536 * e4 + 1048576 * e5 + 16777216 * e6 + 268435456 * e7 + (e0 + 16 * e1 + 256 * e2 + 4096 * e3 + 65536 * e4 + 1048576 * e5 + 16777216 * e6 + 268435456 * e7) / 16 = (e0 + e1) + 16 * (e1 + e2) + 256 * (e2 + e3) + 4096 * (e3 + e4) + 65536 * (e4 + e5) + 1048576 * (e5 + e6) + 16777216 * (e6 + e7) + 268435456 * e7 := by omega
  rw [y]
  exact mF_8 ⟨by omega, by omega, by omega, by omega, by omega, by omega, by omega, by omega⟩
theorem jbc_48 (x : Int32) : ∃ n, n ≤ 48 ∧ jbc x = nI n := by
  obtain ⟨L, hL, rfl⟩ := of32 x
  refine ⟨pc32 L, ?_, jbc_pc hL⟩
  unfold pc32
  obtain ⟨a, b, c, d, ha, hb, hc, hd, e⟩ := wsC_12 (wsA L)
  rw [e]
  unfold wsE wsD
  have g1 : (a + 256 * b + 65536 * c + 16777216 * d) / 256 = b + 256 * c + 65536 * d := by omega
  rw [g1]
  have g2 : (a + 256 * b + 65536 * c + 16777216 * d + (b + 256 * c + 65536 * d)) / 65536 = c + d + 256 * d := by omega
  rw [g2]
  have g3 : a + 256 * b + 65536 * c + 16777216 * d + (b + 256 * c + 65536 * d) + (c + d + 256 * d) = (a + b + c + d) + 64 * (4 * b + 1024 * c + 262144 * d + 4 * c + 1024 * d + 4 * d) := by omega
  rw [g3, Nat.add_mul_mod_self_left]
  exact Nat.le_trans (Nat.mod_le _ _) (by omega)
