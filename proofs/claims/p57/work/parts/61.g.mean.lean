/-- a mean is itself -/
def mwE (a b : Nat) : Bool := decide (Op.cmpValue (FP.dcmp (FP.ddiv (FP.i2d (nI a)) (FP.i2d (nI b))) (FP.ddiv (FP.i2d (nI a)) (FP.i2d (nI b)))) .l = 0)
theorem mwE_0 : (List.range 6).all (fun b => (List.range 169).all fun a => mwE a (b + 1)) = true := by decide +kernel
theorem mwE_1 : (List.range 6).all (fun b => (List.range 169).all fun a => mwE a (b + 7)) = true := by decide +kernel
theorem mwE_2 : (List.range 6).all (fun b => (List.range 169).all fun a => mwE a (b + 13)) = true := by decide +kernel
theorem mwE_3 : (List.range 6).all (fun b => (List.range 169).all fun a => mwE a (b + 19)) = true := by decide +kernel
theorem mwE_all {a b : Nat} (hb : 1 ≤ b) (hb2 : b ≤ 24) (ha : a ≤ 168) : mwE a b = true := by
  by_cases c0 : b < 7
  · exact all2 (g := fun _ => 169) mwE_0 (by omega) (by omega) (by show a < 169; omega)
  by_cases c1 : b < 13
  · exact all2 (g := fun _ => 169) mwE_1 (by omega) (by omega) (by show a < 169; omega)
  by_cases c2 : b < 19
  · exact all2 (g := fun _ => 169) mwE_2 (by omega) (by omega) (by show a < 169; omega)
  by_cases c3 : b < 25
  · exact all2 (g := fun _ => 169) mwE_3 (by omega) (by omega) (by show a < 169; omega)
  omega
