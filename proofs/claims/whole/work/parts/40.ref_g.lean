def cpN (s d : Nat → Int32) (n : Nat) : Nat → Int32 := fun k => if k < n then s k else d k
theorem cpN_0 {s d : Nat → Int32} : cpN s d 0 = d := by
  funext k
  exact if_neg (Nat.not_lt_zero _)
theorem cpN_s {s d : Nat → Int32} {n : Nat} : upd (cpN s d n) n (s n) = cpN s d (n + 1) := by
  funext k
  unfold upd cpN
  by_cases e : k = n
  · rw [if_pos e, if_pos (by omega), e]
  · rw [if_neg e]
    by_cases q : k < n
    · rw [if_pos q, if_pos (by omega)]
    · rw [if_neg q, if_neg (by omega)]
theorem har_har {u : HV} {j : Nat} {f g : Nat → Int32} : har (har u j f) j g = har u j g := by
  unfold har
  rw [va_up_up]
theorem har_id {u : HV} {j : Nat} : har u j (u.2.1 j) = u := by
  unfold har
  refine Prod.ext rfl (Prod.ext ?_ rfl)
  funext k
  show va_up u.2.1 j (u.2.1 j) k = u.2.1 k
  unfold va_up
  by_cases e : k = j
  · rw [if_pos e, e]
  · rw [if_neg e]
theorem cp_step {u : HV} {i j n : Nat} (h : i ≠ j) : hset (har u j (cpN (u.2.1 i) (u.2.1 j) n)) j n ((har u j (cpN (u.2.1 i) (u.2.1 j) n)).2.1 i n) = har u j (cpN (u.2.1 i) (u.2.1 j) (n + 1)) := by
  unfold hset
  rw [har_s, har_n h, har_har, cpN_s]
set_option maxRecDepth 100000 in
set_option maxHeartbeats 4000000 in
theorem c_X4_copyRow (l : Launch) (hl : l.stackTraces = false) (Γ : Gm) (M : Hp) (a : Nat → Nat) (u : HV) (hR : MRep Γ a u M) (i j : Nat) (hi : i < 13 ∧ i ≠ 0 ∧ i ≠ 4) (hj : j < 13 ∧ j ≠ 0 ∧ j ≠ 4) (hij : i ≠ j) : Ct l Γ yX4_copyRow cX4_copyRow 3 none 0 0 0 [.ref (a i), .ref (a j)] M (MMu Γ a (.inl none, har u j (cpN (u.2.1 i) (u.2.1 j) 181)) M) := by
  refine Ct.of hl (by decide) (Nat.le_of_ble_eq_true rfl) rfl ?_
  intro κ e1 e2 hnL hRm X F hlt
  subst e1 e2
  refine g_iconst (v := 0) X dX4_copyRow_0 (by decide) ?_
  refine g_istore_n (L' := [(2, .int 0), (0, .ref (a i)), (1, .ref (a j))]) X dX4_copyRow_1 rfl (by rw [hnL]; decide) rfl ?_
  have lp : ∀ (q n : Nat) (M9 : Hp), 181 - n < q → n ≤ 181 → MRep κ.Γ a (har u j (cpN (u.2.1 i) (u.2.1 j) n)) M9 → Fr a 15 M M9 → G κ M9 0 0 [(2, .int (nI n)), (1, .ref (a j)), (0, .ref (a i))] 2 [] := by
    intro q
    induction q with
    | zero => intro n _ h1; exact absurd h1 (Nat.not_lt_zero _)
    | succ q ih =>
      intro n M9 hn1 hn2 hR9 hF9
      refine g_iload_n X dX4_copyRow_2 rfl 0 rfl ?_
      refine g_sipush (v := 181) X dX4_copyRow_3 (by decide) ?_
      refine g_icmp_ge (tgt := 21) X dX4_copyRow_6 (by decide) (fun c1 => ?_) (fun c1 => ?_)
      · have heq9 : n = 181 := eq_of_ge (N := 181) (by decide) (by omega) c1
        subst heq9
        exact g_vret X F dX4_copyRow_21 (by omega) (by omega) ⟨rfl, hR9, hF9⟩
      · have hlt9 : n < 181 := lt_of_nge (N := 181) (by decide) (by omega) c1
        refine g_aload_n X dX4_copyRow_9 rfl 1 rfl ?_
        refine g_iload_n X dX4_copyRow_10 rfl 0 rfl ?_
        refine g_aload_n X dX4_copyRow_11 rfl 2 rfl ?_
        refine g_iload_n X dX4_copyRow_12 rfl 0 rfl ?_
        refine g_iald (b := n) X dX4_copyRow_13 (MRep.row hR9 i (by omega) (by omega)) (by omega) (by decide) ?_
        refine g_iast (b := n) X dX4_copyRow_14 (MRep.row hR9 j (by omega) (by omega)) (by omega) (by decide) ?_
        refine g_gen (P := fun M9 => MRep κ.Γ a (hset (har u j (cpN (u.2.1 i) (u.2.1 j) n)) j n ((har u j (cpN (u.2.1 i) (u.2.1 j) n)).2.1 i n)) M9 ∧ Fr a 15 M M9) ⟨MRep.ar hR9 j (by omega) (by omega) _ (if_pos hj.1) (if_pos hj.1), Fr.tr hF9 (Fr.up (i := j) (by omega))⟩ (fun M2 ⟨hR3, hF4⟩ => ?_)
        refine g_iinc (k := 0) (v := (nI (n + 1))) (L' := [(2, .int (nI (n + 1))), (1, .ref (a j)), (0, .ref (a i))]) X dX4_copyRow_15 rfl (nI_1 _) (by rw [hnL]; decide) rfl ?_
        refine g_goto (tgt := 2) X dX4_copyRow_18 (by decide) ?_
        refine g_locs [0, 1, 2] (L' := [(2, .int (nI (n + 1))), (1, .ref (a j)), (0, .ref (a i))]) rfl ?_
        exact ih (n + 1) M2 (by omega) (by omega) (by rw [← cp_step hij]; exact hR3) hF4
  refine g_locs [0, 2, 1] (L' := [(2, .int (nI 0)), (1, .ref (a j)), (0, .ref (a i))]) rfl ?_
  exact lp 182 0 M (by omega) (by omega) (by rw [cpN_0, har_id]; exact hR) Fr.rf
