set_option maxRecDepth 100000 in
set_option maxHeartbeats 4000000 in
theorem c_X4_fails1 (l : Launch) (hl : l.stackTraces = false) (Γ : Gm) (M : Hp) (a : Nat → Nat) (u : HV) (hR : MRep Γ a u M) (n : Int32) : Ct l Γ yX4_fails cX4_fails 3 (some .boolean) 0 0 0 [.ref (a 0), .int n, .int 1] M (MMu Γ a (rI 1, hsc u 0 n) M) := by
  refine Ct.of hl (by decide) (Nat.le_of_ble_eq_true rfl) rfl ?_
  intro κ e1 e2 hnL hRm X F hlt
  subst e1 e2
  refine g_aload_n X dX4_fails_0 rfl 0 rfl ?_
  refine g_iload_n X dX4_fails_1 rfl 2 rfl ?_
  refine g_if_eq (tgt := 9) X dX4_fails_2 (by decide) (fun c1 => absurd c1 (by decide)) (fun c1 => ?_)
  refine g_iload_n X dX4_fails_5 rfl 1 rfl ?_
  refine g_goto (tgt := 10) X dX4_fails_6 (by decide) ?_
  refine g_put X dX4_fails_10 (ci := 4) (k := 0) (ty := .int) rfl k1089 (by decide) rfl rfl (by decide +kernel) rfl rfl (Nat.le_of_ble_eq_true rfl) (MRep.obj hR) ?_
  refine g_gen (P := fun M9 => MRep κ.Γ a (hsc u 0 n) M9 ∧ Fr a 15 M M9) ⟨MRep.sc hR 0 _ rfl, (Fr.up (by decide))⟩ (fun M2 ⟨hR3, hF4⟩ => ?_)
  refine g_iload_n X dX4_fails_13 rfl 2 rfl ?_
  exact g_zret X F dX4_fails_14 (by omega) (by omega) rfl ⟨rfl, hR3, hF4⟩
set_option maxRecDepth 100000 in
set_option maxHeartbeats 4000000 in
theorem c_X4_fails0 (l : Launch) (hl : l.stackTraces = false) (Γ : Gm) (M : Hp) (a : Nat → Nat) (u : HV) (hR : MRep Γ a u M) (n : Int32) : Ct l Γ yX4_fails cX4_fails 3 (some .boolean) 0 0 0 [.ref (a 0), .int n, .int 0] M (MMu Γ a (rI 0, hsc u 0 0) M) := by
  refine Ct.of hl (by decide) (Nat.le_of_ble_eq_true rfl) rfl ?_
  intro κ e1 e2 hnL hRm X F hlt
  subst e1 e2
  refine g_aload_n X dX4_fails_0 rfl 0 rfl ?_
  refine g_iload_n X dX4_fails_1 rfl 2 rfl ?_
  refine g_if_eq (tgt := 9) X dX4_fails_2 (by decide) (fun c1 => ?_) (fun c1 => absurd c1 (by decide))
  refine g_iconst (v := 0) X dX4_fails_9 (by decide) ?_
  refine g_put X dX4_fails_10 (ci := 4) (k := 0) (ty := .int) rfl k1089 (by decide) rfl rfl (by decide +kernel) rfl rfl (Nat.le_of_ble_eq_true rfl) (MRep.obj hR) ?_
  refine g_gen (P := fun M9 => MRep κ.Γ a (hsc u 0 0) M9 ∧ Fr a 15 M M9) ⟨MRep.sc hR 0 _ rfl, (Fr.up (by decide))⟩ (fun M2 ⟨hR3, hF4⟩ => ?_)
  refine g_iload_n X dX4_fails_13 rfl 2 rfl ?_
  exact g_zret X F dX4_fails_14 (by omega) (by omega) rfl ⟨rfl, hR3, hF4⟩
