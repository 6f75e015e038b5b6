theorem shN_b18 : (List.range 4).all (fun b => (List.range (b + 155)).all fun a => shN a (b + 154)) = true := by decide +kernel
theorem shN_b19 : (List.range 4).all (fun b => (List.range (b + 159)).all fun a => shN a (b + 158)) = true := by decide +kernel
theorem shN_b20 : (List.range 4).all (fun b => (List.range (b + 163)).all fun a => shN a (b + 162)) = true := by decide +kernel
theorem shN_b21 : (List.range 3).all (fun b => (List.range (b + 167)).all fun a => shN a (b + 166)) = true := by decide +kernel
