theorem all2 {p : Nat → Nat → Bool} {w s : Nat} {g : Nat → Nat} (h : (List.range w).all (fun b => (List.range (g b)).all fun a => p a (b + s)) = true) {a b : Nat} (hb : s ≤ b) (hb2 : b < s + w) (ha : a < g (b - s)) : p a b = true := by
  have h1 := List.all_eq_true.mp h (b - s) (List.mem_range.mpr (by omega))
  have h2 := List.all_eq_true.mp h1 a (List.mem_range.mpr ha)
  rw [Nat.sub_add_cancel hb] at h2
  exact h2
theorem shN_all {a b : Nat} (hb : 1 ≤ b) (hb2 : b ≤ 168) (ha : a ≤ b) : shN a b = true := by
  by_cases c0 : b < 37
  · exact all2 (g := fun b => b + 2) shN_b0 (by omega) (by omega) (by show a < b - 1 + 2; omega)
  by_cases c1 : b < 52
  · exact all2 (g := fun b => b + 38) shN_b1 (by omega) (by omega) (by show a < b - 37 + 38; omega)
  by_cases c2 : b < 64
  · exact all2 (g := fun b => b + 53) shN_b2 (by omega) (by omega) (by show a < b - 52 + 53; omega)
  by_cases c3 : b < 74
  · exact all2 (g := fun b => b + 65) shN_b3 (by omega) (by omega) (by show a < b - 64 + 65; omega)
  by_cases c4 : b < 83
  · exact all2 (g := fun b => b + 75) shN_b4 (by omega) (by omega) (by show a < b - 74 + 75; omega)
  by_cases c5 : b < 91
  · exact all2 (g := fun b => b + 84) shN_b5 (by omega) (by omega) (by show a < b - 83 + 84; omega)
  by_cases c6 : b < 98
  · exact all2 (g := fun b => b + 92) shN_b6 (by omega) (by omega) (by show a < b - 91 + 92; omega)
  by_cases c7 : b < 105
  · exact all2 (g := fun b => b + 99) shN_b7 (by omega) (by omega) (by show a < b - 98 + 99; omega)
  by_cases c8 : b < 111
  · exact all2 (g := fun b => b + 106) shN_b8 (by omega) (by omega) (by show a < b - 105 + 106; omega)
  by_cases c9 : b < 117
  · exact all2 (g := fun b => b + 112) shN_b9 (by omega) (by omega) (by show a < b - 111 + 112; omega)
  by_cases c10 : b < 122
  · exact all2 (g := fun b => b + 118) shN_b10 (by omega) (by omega) (by show a < b - 117 + 118; omega)
  by_cases c11 : b < 127
  · exact all2 (g := fun b => b + 123) shN_b11 (by omega) (by omega) (by show a < b - 122 + 123; omega)
  by_cases c12 : b < 132
  · exact all2 (g := fun b => b + 128) shN_b12 (by omega) (by omega) (by show a < b - 127 + 128; omega)
  by_cases c13 : b < 137
  · exact all2 (g := fun b => b + 133) shN_b13 (by omega) (by omega) (by show a < b - 132 + 133; omega)
  by_cases c14 : b < 142
  · exact all2 (g := fun b => b + 138) shN_b14 (by omega) (by omega) (by show a < b - 137 + 138; omega)
  by_cases c15 : b < 146
  · exact all2 (g := fun b => b + 143) shN_b15 (by omega) (by omega) (by show a < b - 142 + 143; omega)
  by_cases c16 : b < 150
  · exact all2 (g := fun b => b + 147) shN_b16 (by omega) (by omega) (by show a < b - 146 + 147; omega)
  by_cases c17 : b < 154
  · exact all2 (g := fun b => b + 151) shN_b17 (by omega) (by omega) (by show a < b - 150 + 151; omega)
  by_cases c18 : b < 158
  · exact all2 (g := fun b => b + 155) shN_b18 (by omega) (by omega) (by show a < b - 154 + 155; omega)
  by_cases c19 : b < 162
  · exact all2 (g := fun b => b + 159) shN_b19 (by omega) (by omega) (by show a < b - 158 + 159; omega)
  by_cases c20 : b < 166
  · exact all2 (g := fun b => b + 163) shN_b20 (by omega) (by omega) (by show a < b - 162 + 163; omega)
  by_cases c21 : b < 169
  · exact all2 (g := fun b => b + 167) shN_b21 (by omega) (by omega) (by show a < b - 166 + 167; omega)
  omega
theorem mwN_all {a b : Nat} (hb : 1 ≤ b) (hb2 : b ≤ 24) (ha : a ≤ 168) : mwN a b = true := by
  by_cases c0 : b < 7
  · exact all2 (g := fun _ => 169) mwN_0 (by omega) (by omega) (by show a < 169; omega)
  by_cases c1 : b < 13
  · exact all2 (g := fun _ => 169) mwN_1 (by omega) (by omega) (by show a < 169; omega)
  by_cases c2 : b < 19
  · exact all2 (g := fun _ => 169) mwN_2 (by omega) (by omega) (by show a < 169; omega)
  by_cases c3 : b < 25
  · exact all2 (g := fun _ => 169) mwN_3 (by omega) (by omega) (by show a < 169; omega)
  omega
