theorem shN_b12 : (List.range 5).all (fun b => (List.range (b + 128)).all fun a => shN a (b + 127)) = true := by decide +kernel
theorem shN_b13 : (List.range 5).all (fun b => (List.range (b + 133)).all fun a => shN a (b + 132)) = true := by decide +kernel
theorem shN_b14 : (List.range 5).all (fun b => (List.range (b + 138)).all fun a => shN a (b + 137)) = true := by decide +kernel
theorem shN_b15 : (List.range 4).all (fun b => (List.range (b + 143)).all fun a => shN a (b + 142)) = true := by decide +kernel
theorem shN_b16 : (List.range 4).all (fun b => (List.range (b + 147)).all fun a => shN a (b + 146)) = true := by decide +kernel
theorem shN_b17 : (List.range 4).all (fun b => (List.range (b + 151)).all fun a => shN a (b + 150)) = true := by decide +kernel
