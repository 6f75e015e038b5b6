set_option maxRecDepth 100000 in
set_option maxHeartbeats 4000000 in
theorem en_entry {args : Array Value} {s : State} (hts : ∀ w ∈ lw_tbl, w.before args s = true) (hgv : (Jvm.Cond.and given_1 narrow_1).before args s = true) : ∃ Γ : Gm, En Γ (fun q => s.heap.size ≤ q) s s.heap := by
  have hA : ∀ a : Nat, a < s.heap.size → ¬ (fun q : Nat => s.heap.size ≤ q) a := fun a h => Nat.not_le.mpr h
  have g : ∀ c ∈ FL, c.before args s = true := flat_of_before _ hgv
  have htg : ∀ w ∈ TG, w.before args s = true := fun w h => hts w (tg_tbl h)
  obtain ⟨adK, adV, hS, hE⟩ := vk_Sof (args := args) (s := s) (N := 25) (tm := sTm) (len := sLen) (byt := sByt) (A := fun q => s.heap.size ≤ q) gv_len31 (fun i hi => g _ (gv_exa i hi)) (fun i hi => g _ (gv_cod i hi)) (fun i hi => g _ (gv_arr i hi)) (fun i hi => g _ (gv_len i hi)) (fun i hi j hj => g _ (gv_elm i hi j hj)) (fun i j hi hj hij => (Nat.lt_or_gt_of_ne hij).elim (fun h => Or.inl (g _ (gv_ne j hj i h))) (fun h => Or.inr (g _ (gv_ne i hi j h)))) hA
  obtain ⟨c0, i0, hK0⟩ := u_known (C := RX0) (T := TX0) (N := 6) (n := 6) htg inX0 (htg _ k111)
  obtain ⟨c1, i1, hK1⟩ := u_known (C := RX1) (T := TX1) (N := 16) (n := 16) htg inX1 (htg _ k35)
  obtain ⟨c2, i2, hK2⟩ := u_known (C := RX2) (T := TX2) (N := 2) (n := 2) htg inX2 (htg _ k140)
  obtain ⟨c3, i3, hK3⟩ := u_known (C := RX3) (T := TX3) (N := 11) (n := 11) htg inX3 (htg _ k27)
  obtain ⟨c4, i4, hK4⟩ := u_known (C := RX4) (T := TX4) (N := 20) (n := 20) htg inX4 (htg _ k1083)
  obtain ⟨t0, a0, b0⟩ := arr_prim (ty := .int) (fun _ h => by cases h) (htg _ k107)
  obtain ⟨t1, a1, b1⟩ := arr_prim (ty := .long) (fun _ h => by cases h) (htg _ k108)
  obtain ⟨t2, a2, b2⟩ := arr_prim (ty := .char) (fun _ h => by cases h) (htg _ k138)
  obtain ⟨t3, a3, b3⟩ := arr_arr (ty := .int) (hts _ (List.mem_of_getElem? (i := 92) (by decide +kernel)))
  obtain ⟨t4, a4, b4⟩ := arr_obj (C := "BellParliament$House") (hts _ (List.mem_of_getElem? (i := 160) (by decide +kernel)))
  obtain ⟨t5, a5, b5⟩ := arr_prim (ty := .double) (fun _ h => by cases h) (htg _ k1566)
  refine ⟨((fun k => match k with | 0 => c0 | 1 => c1 | 2 => c2 | 3 => c3 | _ => c4, fun k => match k with | 0 => i0 | 1 => i1 | 2 => i2 | 3 => i3 | _ => i4), (fun k => match k with | 0 => t0 | 1 => t1 | 2 => t2 | 3 => t3 | 4 => t4 | _ => t5), adK, adV), ⟨?_, ?_⟩, ?_, ?_, ?_, ?_, hS, ?_, ?_, ?_, ?_, ?_⟩
  · intro k q hq
    match k, hq with
    | 0, hq => cases hq; exact hK0
    | 1, hq => cases hq; exact hK1
    | 2, hq => cases hq; exact hK2
    | 3, hq => cases hq; exact hK3
    | 4, hq => cases hq; exact hK4
    | k + 5, hq => simp [CL] at hq
  · intro k q hq
    match k, hq with
    | 0, hq => cases hq; exact ⟨a0, b0⟩
    | 1, hq => cases hq; exact ⟨a1, b1⟩
    | 2, hq => cases hq; exact ⟨a2, b2⟩
    | 3, hq => cases hq; exact ⟨a3, b3⟩
    | 4, hq => cases hq; exact ⟨a4, b4⟩
    | 5, hq => cases hq; exact ⟨a5, b5⟩
    | k + 6, hq => simp [TYS] at hq
  · exact vx_Zqof (hts _ (List.mem_of_getElem? (i := 358) (by decide +kernel))) (htg _ k6) (g _ (List.mem_of_getElem? (i := 4) (by decide +kernel))) hA
  · exact vx_Zqof (hts _ (List.mem_of_getElem? (i := 360) (by decide +kernel))) (htg _ k6) (g _ (List.mem_of_getElem? (i := 5) (by decide +kernel))) hA
  · exact fun w hw => va_Nw.of (ng_onT hw) (hts w (ng_tbl hw))
  · exact fun q hq => va_Nc.of (g _ (gv_ncl q hq))
  · exact fun i hi => vk_R.of (hts _ (gv_str i hi)) (hE i hi)
  · exact va_Zof (hts _ (List.mem_of_getElem? (i := 959) (by decide +kernel))) (htg _ k11) (va_eqt (g _ (List.mem_of_getElem? (i := 6) (by decide +kernel)))) hA
  · exact va_Zqof (hts _ (List.mem_of_getElem? (i := 975) (by decide +kernel))) (htg _ k22) (g _ (List.mem_of_getElem? (i := 7) (by decide +kernel))) hA
  · exact va_AO.of (hts _ (List.mem_of_getElem? (i := 160) (by decide +kernel)))
  · obtain ⟨cI, kI, cc, h1, h2, h3⟩ := Cond.arrayClass_spec (htg _ k107)
    obtain ⟨comp, cA, kA, q1, -, q2, q3, q4⟩ := arrayOverA_spec (t := .int) (hts _ (List.mem_of_getElem? (i := 92) (by decide +kernel)))
    have e : comp = cI := Option.some.inj (q1.symm.trans h1)
    subst e
    exact ⟨comp, cA, cc, kI, kA, h1, q4, q2, q3, h2, h3⟩
