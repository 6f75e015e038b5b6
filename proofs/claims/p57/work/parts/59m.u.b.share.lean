theorem shN_b6 : (List.range 7).all (fun b => (List.range (b + 92)).all fun a => shN a (b + 91)) = true := by decide +kernel
theorem shN_b7 : (List.range 7).all (fun b => (List.range (b + 99)).all fun a => shN a (b + 98)) = true := by decide +kernel
theorem shN_b8 : (List.range 6).all (fun b => (List.range (b + 106)).all fun a => shN a (b + 105)) = true := by decide +kernel
theorem shN_b9 : (List.range 6).all (fun b => (List.range (b + 112)).all fun a => shN a (b + 111)) = true := by decide +kernel
theorem shN_b10 : (List.range 5).all (fun b => (List.range (b + 118)).all fun a => shN a (b + 117)) = true := by decide +kernel
theorem shN_b11 : (List.range 5).all (fun b => (List.range (b + 123)).all fun a => shN a (b + 122)) = true := by decide +kernel
