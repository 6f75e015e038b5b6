def shN (a b : Nat) : Bool := decide (shA a b &&& 0x7fffffff ≤ 0x7f800000) && (decide (Op.cmpValue (FP.fcmp (shA a b) 0) .g ≤ 0) || bsT 9 (shA a b) 127) && decide (bsV (shA a b) = (shA a b).toInt32) && decide (Op.cmpValue (FP.fcmp (shA a b) (shA a b)) .l = 0)
def mwN (a b : Nat) : Bool := decide (FP.ddiv (FP.i2d (nI a)) (FP.i2d (nI b)) &&& 0x7fffffffffffffff ≤ 0x7ff0000000000000)
theorem mwN_0 : (List.range 6).all (fun b => (List.range 169).all fun a => mwN a (b + 1)) = true := by decide +kernel
theorem mwN_1 : (List.range 6).all (fun b => (List.range 169).all fun a => mwN a (b + 7)) = true := by decide +kernel
theorem mwN_2 : (List.range 6).all (fun b => (List.range 169).all fun a => mwN a (b + 13)) = true := by decide +kernel
theorem mwN_3 : (List.range 6).all (fun b => (List.range 169).all fun a => mwN a (b + 19)) = true := by decide +kernel
theorem shN_b0 : (List.range 36).all (fun b => (List.range (b + 2)).all fun a => shN a (b + 1)) = true := by decide +kernel
theorem shN_b1 : (List.range 15).all (fun b => (List.range (b + 38)).all fun a => shN a (b + 37)) = true := by decide +kernel
theorem shN_b2 : (List.range 12).all (fun b => (List.range (b + 53)).all fun a => shN a (b + 52)) = true := by decide +kernel
theorem shN_b3 : (List.range 10).all (fun b => (List.range (b + 65)).all fun a => shN a (b + 64)) = true := by decide +kernel
theorem shN_b4 : (List.range 9).all (fun b => (List.range (b + 75)).all fun a => shN a (b + 74)) = true := by decide +kernel
theorem shN_b5 : (List.range 8).all (fun b => (List.range (b + 84)).all fun a => shN a (b + 83)) = true := by decide +kernel
