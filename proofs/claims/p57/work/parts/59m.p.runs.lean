/-! ===== runs of clauses ===== -/
def ln (p : Nat → Bool) : Nat → Nat
  | 0 => 0
  | n + 1 => if p n then ln p n + 1 else 0
def mx (p : Nat → Bool) : Nat → Nat
  | 0 => 0
  | n + 1 => if mx p n < ln p (n + 1) then ln p (n + 1) else mx p n
theorem ln_le (p : Nat → Bool) : ∀ n, ln p n ≤ n
  | 0 => Nat.le_refl 0
  | n + 1 => by
    show (if p n then ln p n + 1 else 0) ≤ n + 1
    have := ln_le p n
    split <;> omega
theorem mx_le (p : Nat → Bool) : ∀ n, mx p n ≤ n
  | 0 => Nat.le_refl 0
  | n + 1 => by
    show (if mx p n < ln p (n + 1) then ln p (n + 1) else mx p n) ≤ n + 1
    have h1 := mx_le p n
    have h2 := ln_le p (n + 1)
    split <;> omega
theorem mx_iff (p : Nat → Bool) (k : Nat) : ∀ n, mx p n ≤ k ↔ ∀ i, i < n → ln p (i + 1) ≤ k
  | 0 => ⟨fun _ i hi => absurd hi (Nat.not_lt_zero i), fun _ => Nat.zero_le k⟩
  | n + 1 => by
    have h := mx_iff p k n
    have e : mx p (n + 1) = if mx p n < ln p (n + 1) then ln p (n + 1) else mx p n := rfl
    constructor
    · intro q i hi
      rw [e] at q
      by_cases c : i = n
      · subst c; split at q <;> omega
      · exact h.mp (by split at q <;> omega) i (by omega)
    · intro q
      rw [e]
      have h1 := h.mpr fun i hi => q i (by omega)
      have h2 := q n (Nat.lt_succ_self n)
      split <;> omega
theorem l_and1 {x : Int64} : (x &&& 1 = 0) ↔ bl x 0 = false := by
  have e : ∀ i, i < 64 → bl (x &&& 1) i = (bl x i && decide (i = 0)) := fun i hi => by rw [l_and, l_1]
  constructor
  · intro h
    have := e 0 (by decide)
    rw [h, l_0, decide_eq_true rfl, Bool.and_true] at this
    exact this.symm
  · intro h
    refine l_ext fun i hi => ?_
    rw [e i hi, l_0]
    by_cases c : i = 0
    · subst c; rw [h]; rfl
    · rw [decide_eq_false c, Bool.and_false]
theorem lg_0 {x : Int64} : lg_cmp x 0 = 0 ↔ x = 0 := by
  constructor
  · intro h
    unfold lg_cmp at h
    by_cases c1 : x > 0
    · rw [if_pos c1] at h; exact absurd h (by decide)
    · by_cases c2 : x = 0
      · exact c2
      · rw [if_neg c1, if_neg c2] at h; exact absurd h (by decide)
  · rintro rfl; exact lg_cmp_self 0
theorem lus_bit {x : Int64} {n : Nat} (hn : n < 64) : lg_cmp (lus x (nI n) &&& 1) 0 = 0 ↔ bl x n = false := by
  rw [lg_0, l_and1, l_ushr hn]
  rfl
theorem runL_e (x : Int64) : ∀ n, n ≤ 64 → runL x n = nI (ln (bl x) n)
  | 0, _ => rfl
  | n + 1, hn => by
    show (if lg_cmp (lus x (nI n) &&& 1) 0 = 0 then 0 else runL x n + 1) = nI (if bl x n then ln (bl x) n + 1 else 0)
    by_cases c : bl x n = true
    · rw [if_neg (fun z => by rw [lus_bit (by omega)] at z; rw [z] at c; exact absurd c (by decide)), if_pos c, runL_e x n (by omega), nI_1]
    · rw [if_pos ((lus_bit (by omega)).mpr (Bool.eq_false_iff.mpr c)), if_neg c]
      rfl
theorem runM_e (x : Int64) : ∀ n, n ≤ 64 → runM x n = nI (mx (bl x) n)
  | 0, _ => rfl
  | n + 1, hn => by
    show (if runM x n < runL x (n + 1) then runL x (n + 1) else runM x n) = nI (if mx (bl x) n < ln (bl x) (n + 1) then ln (bl x) (n + 1) else mx (bl x) n)
    have h1 := mx_le (bl x) n
    have h2 := ln_le (bl x) (n + 1)
    rw [runM_e x n (by omega), runL_e x (n + 1) hn]
    by_cases c : mx (bl x) n < ln (bl x) (n + 1)
    · rw [if_pos ((nI_ltI (by omega) (by omega)).mpr c), if_pos c]
    · rw [if_neg (fun z => c ((nI_ltI (by omega) (by omega)).mp z)), if_neg c]
theorem sft_b (x : Int64) : ∀ n i, i < 64 → (bl (sft x n) i = true ↔ n + 1 ≤ ln (bl x) (i + 1))
  | 0, i, hi => by
    show bl x i = true ↔ 1 ≤ (if bl x i then ln (bl x) i + 1 else 0)
    by_cases c : bl x i = true
    · rw [if_pos c]; exact ⟨fun _ => by omega, fun _ => c⟩
    · rw [if_neg c]; exact ⟨fun z => absurd z c, fun z => by omega⟩
  | n + 1, i, hi => by
    show bl (sft x n &&& lsl (sft x n) (nI 1)) i = true ↔ _
    rw [l_and, l_shl (by decide) _ hi, Bool.and_eq_true, Bool.and_eq_true, decide_eq_true_eq, sft_b x n i hi]
    have e : ln (bl x) (i + 1) = if bl x i then ln (bl x) i + 1 else 0 := rfl
    by_cases c0 : i = 0
    · subst c0
      have h9 := ln_le (bl x) 1
      constructor
      · intro z; omega
      · intro z; have : ln (bl x) (0 + 1) ≤ 1 := h9; omega
    · have h1 := sft_b x n (i - 1) (by omega)
      rw [show i - 1 + 1 = i by omega] at h1
      rw [h1, e]
      by_cases c : bl x i = true
      · rw [if_pos c]; omega
      · rw [if_neg c]; omega
theorem sft_0 (x : Int64) (n : Nat) : sft x n = 0 ↔ mx (bl x) 64 ≤ n := by
  rw [mx_iff]
  constructor
  · intro h i hi
    refine Nat.le_of_lt_succ (Nat.not_le.mp fun z => ?_)
    have h2 := (sft_b x n i hi).mpr z
    rw [h, l_0] at h2
    exact absurd h2 (by decide)
  · intro h
    refine l_ext fun i hi => ?_
    rw [l_0]
    cases c : bl (sft x n) i with
    | false => rfl
    | true =>
      have h2 := (sft_b x n i hi).mp c
      have h3 := h i hi
      omega
theorem runF_e (x : Int64) : ∀ k n, n + k = 64 → n ≤ mx (bl x) 64 → runF x k n = nI (mx (bl x) 64)
  | 0, n, h, h2 => by
    have h3 := mx_le (bl x) 64
    have e : n = mx (bl x) 64 := by omega
    show nI n = _
    rw [← e]
  | k + 1, n, h, h2 => by
    show (if lg_cmp (sft x n) 0 = 0 then nI n else runF x k (n + 1)) = _
    by_cases c : mx (bl x) 64 ≤ n
    · rw [if_pos (lg_0.mpr ((sft_0 x n).mpr c))]
      congr 1
      omega
    · rw [if_neg (fun z => c ((sft_0 x n).mp (lg_0.mp z)))]
      exact runF_e x k (n + 1) (by omega) (by omega)
theorem runFM (x : Int64) : runF x 64 0 = runM x 64 := by rw [runF_e x 64 0 rfl (Nat.zero_le _), runM_e x 64 (Nat.le_refl _)]
theorem rHas_b {u : HV} {b c : Nat} (hc : c < 64) : rHas u b (nI c) ↔ bl (cl64 (rB u b 2) (rB u b 1)) c = true := by
  unfold rHas
  rw [irm32 c hc, cl64_bl _ _ hc]
  by_cases h : c < 32
  · have h9 : ¬ (32 : Int32) ≤ nI c := fun z => by have := (nI_leI (a := 32) (by decide) (by omega)).mp z; omega
    rw [if_neg h9, if_pos h, and1_1, Nat.mod_eq_of_lt h, bt_ush h]
    rfl
  · have h9 : (32 : Int32) ≤ nI c := (nI_leI (a := 32) (by decide) (by omega)).mpr (by omega)
    rw [if_pos h9, if_neg h, and1_1, show c % 32 = c - 32 by omega, bt_ush (by omega)]
    rfl
theorem rLen_e {u : HV} {b : Nat} : ∀ n, n ≤ 64 → rLen u b n = nI (ln (bl (cl64 (rB u b 2) (rB u b 1))) n)
  | 0, _ => rfl
  | n + 1, hn => by
    show @ite Int32 (rHas u b (nI n)) (Classical.propDecidable _) (rLen u b n + 1) 0 = nI (if bl (cl64 (rB u b 2) (rB u b 1)) n then ln (bl (cl64 (rB u b 2) (rB u b 1))) n + 1 else 0)
    have e := rHas_b (u := u) (b := b) (c := n) (by omega)
    by_cases c : rHas u b (nI n)
    · rw [if_pos c, if_pos (e.mp c), rLen_e n (by omega), nI_1]
    · rw [if_neg c, if_neg (fun z => c (e.mpr z))]
      rfl
theorem rMax_e {u : HV} {b : Nat} : ∀ n, n ≤ 64 → rMax u b n = nI (mx (bl (cl64 (rB u b 2) (rB u b 1))) n)
  | 0, _ => rfl
  | n + 1, hn => by
    show (if rLen u b (n + 1) ≤ rMax u b n then rMax u b n else rLen u b (n + 1)) = nI (if mx (bl (cl64 (rB u b 2) (rB u b 1))) n < ln (bl (cl64 (rB u b 2) (rB u b 1))) (n + 1) then ln (bl (cl64 (rB u b 2) (rB u b 1))) (n + 1) else mx (bl (cl64 (rB u b 2) (rB u b 1))) n)
    have h1 := mx_le (bl (cl64 (rB u b 2) (rB u b 1))) n
    have h2 := ln_le (bl (cl64 (rB u b 2) (rB u b 1))) (n + 1)
    rw [rMax_e n (by omega), rLen_e (n + 1) hn]
    by_cases c : mx (bl (cl64 (rB u b 2) (rB u b 1))) n < ln (bl (cl64 (rB u b 2) (rB u b 1))) (n + 1)
    · rw [if_neg (fun z => by have := (nI_leI (by omega) (by omega)).mp z; omega), if_pos c]
    · rw [if_pos ((nI_leI (by omega) (by omega)).mpr (by omega)), if_neg c]
theorem sc_longestRun {w : PV} {u : HV} (h : Rel w u) : SC_longestRun Rel w u := fun x =>
  sm_b1 h x (f := fun k => runM ((w.1 0).2.2 k) 64) (g := fun k => rMax (u0 u) k 64) fun m n q k hk => by
    show runM ((w.1 0).2.2 k) 64 = rMax (u0 u) k 64
    rw [rMax_e 64 (Nat.le_refl _), runM_e _ 64 (Nat.le_refl _), (q.bl hk).2.1]
    rfl
theorem sc_longestRunByShift {w : PV} {u : HV} (h : Rel w u) : SC_longestRunByShift Rel w u := fun x =>
  sm_b1 h x (f := fun k => runF ((w.1 0).2.2 k) 64 0) (g := fun k => rMax (u0 u) k 64) fun m n q k hk => by
    show runF ((w.1 0).2.2 k) 64 0 = rMax (u0 u) k 64
    rw [runFM, rMax_e 64 (Nat.le_refl _), runM_e _ 64 (Nat.le_refl _), (q.bl hk).2.1]
    rfl
