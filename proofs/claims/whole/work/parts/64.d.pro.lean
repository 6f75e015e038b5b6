theorem BRep.some {Γ : Gm} {A : Nat → Nat} {w : PV} {M : Hp} (hB : BRep Γ A w M) (i : Nat) (hi : i < 315) : ∃ e, M (A i) = some e := by
  obtain ⟨h1, h2, h3, h4, h5, h6, h7⟩ := hB
  by_cases c1 : i < 84
  · have h := (h1 (i / 28) (by omega)).1 (i % 28) (by omega)
    have e : 28 * (i / 28) + i % 28 = i := by omega
    exact ⟨_, by have h9 := h; change M (A (28 * (i / 28) + i % 28)) = _ at h9; rw [e] at h9; exact h9⟩
  by_cases c2 : i < 308
  · have h := (h2 (i / 28 - 3) (by omega)).1 (i % 28) (by omega)
    have e : 28 * (3 + (i / 28 - 3)) + i % 28 = i := by omega
    exact ⟨_, by have h9 := h; change M (A (28 * (3 + (i / 28 - 3)) + i % 28)) = _ at h9; rw [e] at h9; exact h9⟩
  by_cases c3 : i < 311
  · have h := h3.1 (i - 308) (by omega)
    have e : 308 + (i - 308) = i := by omega
    exact ⟨_, by have h9 := h; change M (A (308 + (i - 308))) = _ at h9; rw [e] at h9; exact h9⟩
  by_cases c4 : i < 313
  · have h := h4.1 (i - 311) (by omega)
    have e : 311 + (i - 311) = i := by omega
    exact ⟨_, by have h9 := h; change M (A (311 + (i - 311))) = _ at h9; rw [e] at h9; exact h9⟩
  rcases (show i = 313 ∨ i = 314 by omega) with rfl | rfl
  · exact ⟨_, h5⟩
  · exact ⟨_, h6⟩
set_option maxRecDepth 100000 in
set_option maxHeartbeats 8000000 in
theorem law_pro {κ : KT} {tab : List ExceptionTableEntry} {nm : String} {sb Ls : Nat} {xs : Nat → Int32} (X : Cx κ RL cL_law (some .boolean) tab nm) (hl : κ.l.stackTraces = false) (hnL : κ.nL = 9) (hRm : κ.R = room_1) (hX : va_X sb Ls xs κ.s κ.s.heap ∧ sb < κ.s.heap.size ∧ ¬ κ.A sb) (hL : Ls ≤ 2048) {R : PV → HV → Prop} (hSim : Simu R) (h0 : R bZ mZ) (fin : ∀ M cells slots L, cells ≤ 603072 → slots ≤ 7182442 → G κ M cells slots L 2986 []) : G κ (fun _ => none) 0 0 [(0, .ref sb)] 0 [] := by
  refine g_new (ci := 3) X dL_law_0 rfl k26 k27 k1 (fun ty hty j hj => zf_3 ty hty j hj) (by rw [hRm]; exact Nat.le_of_ble_eq_true rfl) (by rw [hRm]; exact Nat.le_of_ble_eq_true rfl) (fun q1 hq1 => ?_)
  refine g_dup X dL_law_3 rfl ?_
  refine g_callI (As := []) X dL_law_4 (c_X3_init κ.l hl κ.Γ (hup (fun _ => none) q1 obZ3) q1 (hup_s ..)) k28 k29 k1 k30 rfl ⟨by decide, by decide, (show (parseMethodDescriptor yX3_init.desc).map (fun d => d.parameters.length) = some 0 by decide +kernel)⟩ rfl (Nat.le_of_ble_eq_true rfl) (by rw [hRm]; decide) (by rw [hRm]; exact ⟨Nat.le_of_ble_eq_true rfl, Nat.le_of_ble_eq_true rfl⟩) (fun v9 M9 h9 => ?_) (fun _ _ h9 => by cases h9.1)
  obtain ⟨e9, A, hA0, hB1, hF1, hn1⟩ := h9
  cases e9
  subst hA0
  refine g_gen (P := fun M8 => BRep κ.Γ A bZ M8) hB1 (fun M1 hB1 => ?_)
  refine g_astore_n (L' := [(1, .ref (A 313)), (0, .ref sb)]) X dL_law_7 rfl (by rw [hnL]; decide) rfl ?_
  refine g_new (ci := 4) X dL_law_8 rfl k1082 k1083 k5 (fun ty hty j hj => zf_4 ty hty j hj) (by rw [hRm]; exact Nat.le_of_ble_eq_true rfl) (by rw [hRm]; exact Nat.le_of_ble_eq_true rfl) (fun q2 hq2 => ?_)
  refine g_dup X dL_law_11 rfl ?_
  refine g_callI (As := []) X dL_law_12 (c_X4_init κ.l hl κ.Γ (hup M1 q2 obZ4) q2 (hup_s ..)) k1084 k1085 k5 k1086 rfl ⟨by decide, by decide, (show (parseMethodDescriptor yX4_init.desc).map (fun d => d.parameters.length) = some 0 by decide +kernel)⟩ rfl (Nat.le_of_ble_eq_true rfl) (by rw [hRm]; decide) (by rw [hRm]; exact ⟨Nat.le_of_ble_eq_true rfl, Nat.le_of_ble_eq_true rfl⟩) (fun v9 M9 h9 => ?_) (fun _ _ h9 => by cases h9.1)
  obtain ⟨e9, a, ha0, hR2, hF2, hn2⟩ := h9
  cases e9
  subst ha0
  have hAlt : ∀ i, i < 315 → A i < a 0 := fun i hi => by obtain ⟨e, he⟩ := hB1.some i hi; exact hq2 _ _ he
  have hAa : ∀ i, i < 315 → ∀ j, j < 15 → A i ≠ a j := by
    intro i hi j hj e
    by_cases c : j = 0
    · subst c; have := hAlt i hi; omega
    · have h := hn2 j (by omega) hj
      rw [← e, hup_n (Nat.ne_of_lt (hAlt i hi))] at h
      obtain ⟨e2, he⟩ := hB1.some i hi
      rw [h] at he; cases he
  have hB2 : BRep κ.Γ A bZ M9 := hB1.agree fun i hi => (hF2 _ (hAa i hi)).trans (hup_n (Nat.ne_of_lt (hAlt i hi)))
  refine g_gen (P := fun M8 => BRep κ.Γ A bZ M8 ∧ MRep κ.Γ a mZ M8) ⟨hB2, hR2⟩ (fun M2 hBR => ?_)
  refine g_astore_n (L' := [(2, .ref (a 0)), (1, .ref (A 313)), (0, .ref sb)]) X dL_law_15 rfl (by rw [hnL]; decide) rfl ?_
  refine g_iconst (v := 1) X dL_law_16 (by decide) ?_
  refine g_newa (t0 := 1) (N := 1) (ty := .long) (a0 := (1, .inr (.inl (fun _ => 0)))) X dL_law_17 k108 rfl rfl (fun _ => rfl) (by decide) (by decide) (by decide) (by rw [hRm]; exact Nat.le_of_ble_eq_true rfl) (by rw [hRm]; exact Nat.le_of_ble_eq_true rfl) (fun o ho => ?_)
  have hoA : ∀ i, i < 315 → o ≠ A i := fun i hi => by obtain ⟨e, he⟩ := hBR.1.some i hi; exact (ho.ne he).symm
  have hoa : ∀ j, j < 15 → o ≠ a j := fun j hj => (ho.ne (hBR.2.1 j hj)).symm
  refine g_astore_n (L' := [(3, .ref o), (2, .ref (a 0)), (1, .ref (A 313)), (0, .ref sb)]) X dL_law_19 rfl (by rw [hnL]; decide) rfl ?_
  refine g_iconst (v := 1) X dL_law_20 (by decide) ?_
  refine g_newa (t0 := 5) (N := 1) (ty := .double) (a0 := (1, .inr (.inr (.inr (.inl (fun _ => 0)))))) X dL_law_21 k1566 rfl rfl (fun _ => rfl) (by decide) (by decide) (by decide) (by rw [hRm]; exact Nat.le_of_ble_eq_true rfl) (by rw [hRm]; exact Nat.le_of_ble_eq_true rfl) (fun od hod => ?_)
  have hodA : ∀ i, i < 315 → od ≠ A i := fun i hi => by obtain ⟨e, he⟩ := hBR.1.some i hi; exact (hod.ne ((hup_n fun h => hoA i hi h.symm).trans he)).symm
  have hoda : ∀ j, j < 15 → od ≠ a j := fun j hj => (hod.ne ((hup_n fun h => hoa j hj h.symm).trans (hBR.2.1 j hj))).symm
  have hoo : od ≠ o := (hod.ne (hup_s ..)).symm
  refine g_astore (L' := [(4, .ref od), (3, .ref o), (2, .ref (a 0)), (1, .ref (A 313)), (0, .ref sb)]) X dL_law_23 (by rw [hnL]; decide) rfl ?_
  refine g_iconst (v := 0) X dL_law_25 (by decide) ?_
  refine g_istore (L' := LL sb A a o od 0) X dL_law_26 (by rw [hnL]; decide) rfl ?_
  refine g_widen (k := 1000 + 0) (n := 10000 + 5 * 0) (Nat.le_of_ble_eq_true rfl) (Nat.le_of_ble_eq_true rfl) ?_
  refine law_loop (c0 := 1000) (s0 := 10000) X hl hnL hRm ⟨hX, hAa, ⟨hoA, hodA⟩, ⟨hoa, hoda⟩, hoo, hL⟩ hSim (by decide) (by decide) fin (Ls + 1) 0 bZ mZ _ (by omega) (by omega) h0 ?_
  exact ⟨(hBR.1.off hoA).off hodA, ⟨fun j hj => (hup_n fun h => hoda j hj h.symm).trans ((hup_n fun h => hoa j hj h.symm).trans (hBR.2.1 j hj)), hBR.2.2⟩, ⟨_, (hup_n hoo.symm).trans (hup_s ..)⟩, ⟨_, hup_s ..⟩⟩
