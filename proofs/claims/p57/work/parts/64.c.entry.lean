set_option maxRecDepth 100000 in
set_option maxHeartbeats 4000000 in
theorem en_entry {args : Array Value} {s : State} (hts : ∀ w ∈ lw_tbl, w.before args s = true) (hgv : (Jvm.Cond.and given_1 narrow_1).before args s = true) {b L : Nat} {xs : Nat → Int32} (hX : va_X b L xs s s.heap) (hL : L ≤ 260) : ∃ Γ : Gm, En Γ (fun q => s.heap.size ≤ q) s s.heap ∧ scA Γ = b ∧ scN Γ = L := by
  have hA : ∀ a : Nat, a < s.heap.size → ¬ (fun q : Nat => s.heap.size ≤ q) a := fun a h => Nat.not_le.mpr h
  have g : ∀ c ∈ FL, c.before args s = true := flat_of_before _ hgv
  have htg : ∀ w ∈ TG, w.before args s = true := fun w h => hts w (tg_tbl h)
  have h0 : ∀ i : Nat, ∃ p : Nat × Nat, i < 44 → vk_S 1 [sLen.getD i 0] [sByt.getD i []] (fun _ => p.1) (fun _ => p.2) (fun q => s.heap.size ≤ q) s s.heap ∧ (sTm i).eval args s none [] s = some (.ref p.1) := fun i => by
    by_cases hi : i < 44
    · obtain ⟨p, hp⟩ := vk_one g hi
      exact ⟨p, fun _ => hp⟩
    · exact ⟨(0, 0), fun h => absurd h hi⟩
  obtain ⟨ad, had⟩ := Classical.axiomOfChoice h0
  obtain ⟨c0, i0, hK0⟩ := u_known (C := RX0) (T := TX0) (N := 6) (n := 6) htg inX0 (htg _ k111)
  obtain ⟨c1, i1, hK1⟩ := u_known (C := RX1) (T := TX1) (N := 16) (n := 16) htg inX1 (htg _ k35)
  obtain ⟨c2, i2, hK2⟩ := u_known (C := RX2) (T := TX2) (N := 2) (n := 2) htg inX2 (htg _ k140)
  obtain ⟨c3, i3, hK3⟩ := u_known (C := RX3) (T := TX3) (N := 11) (n := 11) htg inX3 (htg _ k27)
  obtain ⟨t0, a0, b0⟩ := arr_prim (ty := .int) (fun _ h => by cases h) (htg _ k107)
  obtain ⟨t1, a1, b1⟩ := arr_prim (ty := .long) (fun _ h => by cases h) (htg _ k108)
  obtain ⟨t2, a2, b2⟩ := arr_prim (ty := .char) (fun _ h => by cases h) (htg _ k138)
  obtain ⟨t3, a3, b3⟩ := arr_arr (ty := .int) (hts _ (List.mem_of_getElem? (i := 55) (by decide +kernel)))
  obtain ⟨t4, a4, b4⟩ := arr_obj (C := "BellParliament$House") (hts _ (List.mem_of_getElem? (i := 123) (by decide +kernel)))
  obtain ⟨tx, etx, hTx⟩ := va_Tof (args := args) (s := s) (tm := tTx) (ty := .object "java/lang/String") (N := 31) (f := fun j => .ref (ad (13 + j)).1) (A := fun q => s.heap.size ≤ q) (by decide) (g _ (List.mem_of_getElem? (i := 12) (by decide +kernel))) (va_eqt (z := Int32.ofNat 31) (g _ (List.mem_of_getElem? (i := 13) (by decide +kernel)))) (fun j hj => Cond.eq_refs (args := args) (first := s) (out := none) (idx := []) (g _ (List.mem_of_getElem? (gv_tx j hj))) (had (13 + j) (by omega)).2 rfl) hA
  obtain ⟨scr, x1, x2, x3, x4, x5⟩ := hX
  have hbl : b < s.heap.size := (Array.getElem?_eq_some_iff.mp x1).1
  refine ⟨((fun k => match k with | 0 => c0 | 1 => c1 | 2 => c2 | _ => c3, fun k => match k with | 0 => i0 | 1 => i1 | 2 => i2 | _ => i3), (fun k => match k with | 0 => t0 | 1 => t1 | 2 => t2 | 3 => t3 | _ => t4), (fun i => if i = 44 then tx else (ad i).1), (fun i => (ad i).2), b, L, xs), ⟨⟨?_, ?_⟩, ?_, ?_, ?_, ?_, ?_, ?_, ?_, ⟨?_, ?_, ?_, ?_, hL⟩, ?_, ?_⟩, rfl, rfl⟩
  · intro k q hq
    match k, hq with
    | 0, hq => cases hq; exact hK0
    | 1, hq => cases hq; exact hK1
    | 2, hq => cases hq; exact hK2
    | 3, hq => cases hq; exact hK3
    | k + 4, hq => simp [CL] at hq
  · intro k q hq
    match k, hq with
    | 0, hq => cases hq; exact ⟨a0, b0⟩
    | 1, hq => cases hq; exact ⟨a1, b1⟩
    | 2, hq => cases hq; exact ⟨a2, b2⟩
    | 3, hq => cases hq; exact ⟨a3, b3⟩
    | 4, hq => cases hq; exact ⟨a4, b4⟩
    | k + 5, hq => simp [TYS] at hq
  · exact vx_Zqof (hts _ (List.mem_of_getElem? (i := 245) (by decide +kernel))) (htg _ k6) (g _ (List.mem_of_getElem? (i := 4) (by decide +kernel))) hA
  · exact vx_Zqof (hts _ (List.mem_of_getElem? (i := 247) (by decide +kernel))) (htg _ k6) (g _ (List.mem_of_getElem? (i := 5) (by decide +kernel))) hA
  · exact fun w hw => va_Nw.of (ng_onT hw) (hts w (ng_tbl hw))
  · exact fun q hq => va_Nc.of (g _ (gv_ncl q hq))
  · intro i hi
    show vk_S 1 _ _ (fun _ => if i = 44 then tx else (ad i).1) _ _ _ _
    rw [if_neg (by omega)]
    exact (had i hi).1
  · intro i hi
    show vk_R _ _ _ (if i = 44 then tx else (ad i).1) _
    rw [if_neg (by omega)]
    exact vk_R.of (hts _ (gv_str i hi)) (had i hi).2
  · exact va_Zof (hts _ (List.mem_of_getElem? (i := 566) (by decide +kernel))) (htg _ k11) (va_eqt (g _ (List.mem_of_getElem? (i := 6) (by decide +kernel)))) hA
  · exact va_Zqof (hts _ (List.mem_of_getElem? (i := 582) (by decide +kernel))) (htg _ k22) (g _ (List.mem_of_getElem? (i := 7) (by decide +kernel))) hA
  · show va_Z _ _ _ (.ref (if (44 : Nat) = 44 then tx else (ad 44).1)) _ _ _
    rw [if_pos rfl]
    exact va_Zof (hts _ (List.mem_of_getElem? (i := 791) (by decide +kernel))) (htg _ k0) etx hA
  · show va_T _ (if (44 : Nat) = 44 then tx else (ad 44).1) 31 (fun j => .ref (if 13 + j = 44 then tx else (ad (13 + j)).1)) _ _ _
    rw [if_pos rfl]
    obtain ⟨cell, y1, y2, y3, y4, y5, y6, y7⟩ := hTx
    exact ⟨cell, y1, y2, y3, y4, y5, fun j hj => (y6 j hj).trans (congrArg some (congrArg Value.ref (if_neg (by omega)).symm)), y7⟩
  · exact ⟨scr, x1, x2, x3, Nat.le_of_eq x4.symm, by rw [x4], x5, hA b hbl⟩
  · exact va_AO.of (hts _ (List.mem_of_getElem? (i := 123) (by decide +kernel)))
  · obtain ⟨cI, kI, cc, h1, h2, h3⟩ := Cond.arrayClass_spec (htg _ k107)
    obtain ⟨comp, cA, kA, q1, -, q2, q3, q4⟩ := arrayOverA_spec (t := .int) (hts _ (List.mem_of_getElem? (i := 55) (by decide +kernel)))
    have e : comp = cI := Option.some.inj (q1.symm.trans h1)
    subst e
    exact ⟨comp, cA, cc, kI, kA, h1, q4, q2, q3, h2, h3⟩
