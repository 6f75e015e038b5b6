/-! ===== a text as a list of signs: the law's texts are all read to their ends ===== -/
def hdl : List Int32 → Int32
  | [] => 0
  | c :: _ => c
def dgb (x : Int32) : Bool := decide (48 ≤ x) && decide (x ≤ 57)
theorem dgb_i {x : Int32} : dgb x = true ↔ isDig x := by
  unfold dgb; rw [Bool.and_eq_true, decide_eq_true_eq, decide_eq_true_eq]
def okp (c : Int32) (l : List Int32) : Bool := if c = 68 ∨ c = 78 then dgb (hdl l) else decide (hdl l = c)
def stp (c : Int32) (l : List Int32) : List Int32 := if c = 68 ∨ c = 78 then (if dgb (hdl l) then (if decide (c = 78) && dgb (hdl l.tail) then l.tail.tail else l.tail) else l) else (if hdl l = c then l.tail else l)
def pL : List Int32 → List Int32 → Bool × List Int32
  | [], l => (true, l)
  | c :: cs, l => if okp c l then pL cs (stp c l) else (false, stp c l)
def cB : Nat → List Int32 → Bool
  | 0, _ => false
  | k + 1, l => (pL (fParts (hdl l)) l).1 && (!decide (fIx (hdl l) = 12) && ((pL (fParts (hdl l)) l).2.isEmpty || (decide (hdl (pL (fParts (hdl l)) l).2 = 59) && cB k (pL (fParts (hdl l)) l).2.tail)))
def TS (T : HV) (l : List Int32) : Prop := ∃ n p : Nat, n ≤ 60 ∧ p ≤ n ∧ T.1 0 = nI n ∧ T.1 1 = nI p ∧ l.length = n - p ∧ ∀ j, j < n - p → T.2.1 1 (p + j) = l.getD j 0
theorem TS.nx {T : HV} {l : List Int32} (h : TS T l) : tNx T = hdl l := by
  obtain ⟨n, p, hn, hp, e0, e1, el, hc⟩ := h
  unfold tNx
  rw [e0, e1]
  cases l with
  | nil =>
    rw [if_neg (fun z => by have := (nI_ltI (by omega) (by omega)).mp z; simp only [List.length_nil] at el; omega)]
    rfl
  | cons c l =>
    simp only [List.length_cons] at el
    rw [if_pos ((nI_ltI (by omega) (by omega)).mpr (by omega)), cN_nI (by omega)]
    have := hc 0 (by omega)
    exact this
theorem TS.adv {T : HV} {c : Int32} {l : List Int32} (h : TS T (c :: l)) : TS (tAdv T) l := by
  obtain ⟨n, p, hn, hp, e0, e1, el, hc⟩ := h
  simp only [List.length_cons] at el
  refine ⟨n, p + 1, hn, by omega, e0, ?_, by omega, fun j hj => ?_⟩
  · show T.1 1 + 1 = _
    rw [e1]; exact nI_1 p
  · have := hc (j + 1) (by omega)
    rw [show p + 1 + j = p + (j + 1) by omega]
    exact this
theorem TS.put {T : HV} {l : List Int32} (h : TS T l) (x : Int32) : TS (tPut T x) l := by
  unfold tPut
  split
  · obtain ⟨n, p, hn, hp, e0, e1, el, hc⟩ := h
    exact ⟨n, p, hn, hp, e0, e1, el, hc⟩
  · exact h
theorem nx_ne {l : List Int32} {c : Int32} (h : hdl l = c) (hc : ¬ c = 0) : ∃ t, l = c :: t := by
  cases l with
  | nil => exact absurd h.symm hc
  | cons a t => exact ⟨t, by rw [show a = c from h]⟩
theorem dg_ne {l : List Int32} (h : dgb (hdl l) = true) : ∃ c t, l = c :: t := by
  cases l with
  | nil => exact absurd h (by decide)
  | cons a t => exact ⟨a, t, rfl⟩
theorem TS.part {T : HV} {l : List Int32} (h : TS T l) {c : Int32} (hc : ¬ c = 0) : TS (tPart T c) (stp c l) ∧ (tOk T c ↔ okp c l = true) := by
  have e := h.nx
  by_cases cc : c = 68 ∨ c = 78
  · rw [tOk_d cc]
    unfold stp okp
    rw [if_pos cc, if_pos cc, e]
    refine ⟨?_, dgb_i.symm⟩
    by_cases d : dgb (hdl l) = true
    · rw [if_pos d]
      obtain ⟨a, t, rfl⟩ := dg_ne d
      have hd : isDig (tNx T) := by rw [e]; exact dgb_i.mp d
      rw [tPart_d cc hd]
      have h1 := h.adv
      have e1 := h1.nx
      by_cases q : c = 78 ∧ isDig (tNx (tAdv T))
      · have d2 : dgb (hdl t) = true := dgb_i.mpr (by rw [← e1]; exact q.2)
        rw [tNum_2 q, if_pos (by rw [show (a :: t).tail = t from rfl, decide_eq_true q.1, d2]; rfl)]
        obtain ⟨b, s, rfl⟩ := dg_ne d2
        exact h1.adv.put _
      · rw [tNum_1 q, if_neg (fun z => q (by
          rw [Bool.and_eq_true, decide_eq_true_eq] at z
          exact ⟨z.1, by rw [e1]; exact dgb_i.mp z.2⟩))]
        exact h1.put _
    · rw [if_neg d, tPart_n cc (fun z => d (dgb_i.mpr (by rw [← e]; exact z)))]
      exact h
  · have n1 : ¬ c = 68 := fun z => cc (Or.inl z)
    have n2 : ¬ c = 78 := fun z => cc (Or.inr z)
    rw [tOk_s n1 n2, tPart_s n1 n2]
    unfold stp okp
    rw [if_neg cc, if_neg cc, e, decide_eq_true_eq]
    refine ⟨?_, Iff.rfl⟩
    by_cases q : hdl l = c
    · rw [if_pos q, tSign_y (by rw [e]; exact q)]
      obtain ⟨t, rfl⟩ := nx_ne q hc
      exact h.adv
    · rw [if_neg q, tSign_n (by rw [e]; exact q)]
      exact h
theorem TS.l : ∀ (cs : List Int32) {T : HV} {l : List Int32}, (∀ c, c ∈ cs → ¬ c = 0) → TS T l → TS (tL cs T) (pL cs l).2 ∧ (okL cs T ↔ (pL cs l).1 = true)
  | [], _, _, _, h => ⟨h, ⟨fun _ => rfl, fun _ => trivial⟩⟩
  | c :: cs, T, l, hc, h => by
    obtain ⟨h1, h2⟩ := h.part (hc c (List.mem_cons_self ..))
    by_cases k : okp c l = true
    · have k2 := h2.mpr k
      rw [tL_y k2]
      show TS _ (if okp c l then pL cs (stp c l) else (false, stp c l)).2 ∧ (tOk T c ∧ okL cs (tPart T c) ↔ (if okp c l then pL cs (stp c l) else (false, stp c l)).1 = true)
      rw [if_pos k]
      obtain ⟨a, b⟩ := TS.l cs (fun c hm => hc c (List.mem_cons_of_mem _ hm)) h1
      exact ⟨a, ⟨fun z => b.mp z.2, fun z => ⟨k2, b.mpr z⟩⟩⟩
    · have k2 : ¬ tOk T c := fun z => k (h2.mp z)
      rw [tL_n k2]
      show TS _ (if okp c l then pL cs (stp c l) else (false, stp c l)).2 ∧ (tOk T c ∧ okL cs (tPart T c) ↔ (if okp c l then pL cs (stp c l) else (false, stp c l)).1 = true)
      rw [if_neg k]
      exact ⟨h1, ⟨fun z => absurd z.1 k2, fun z => by cases z⟩⟩
theorem TS.beg {T : HV} {l : List Int32} (h : TS T l) : TS (tBeg T) l := by
  obtain ⟨n, p, hn, hp, e0, e1, el, hc⟩ := h
  exact ⟨n, p, hn, hp, e0, e1, el, hc⟩
theorem TS.cnt : ∀ (k c : Nat) {T : HV} {l : List Int32}, TS T l → cB k l = true → ∃ j, j ≤ c + k ∧ (tCnt k (nI c) T).1 = nI j
  | 0, _, _, _, _, hb => absurd hb (by unfold cB; decide)
  | k + 1, c, T, l, h, hb => by
    unfold cB at hb
    rw [Bool.and_eq_true, Bool.and_eq_true, Bool.or_eq_true, Bool.and_eq_true, Bool.not_eq_true', decide_eq_false_iff_not, decide_eq_true_eq] at hb
    obtain ⟨b1, b2, b3⟩ := hb
    have e := h.nx
    obtain ⟨a1, a2⟩ := TS.l (fParts (tNx T)) (sB_nz _ (fIx_lt _)) h.beg
    rw [e] at a1 a2
    have ok : okCmd T := by
      unfold okCmd; rw [e]; exact ⟨a2.mpr b1, b2⟩
    have at1 : TS (tCmd T) (pL (fParts (hdl l)) l).2 := by unfold tCmd; rw [e]; exact a1
    by_cases c1 : (pL (fParts (hdl l)) l).2.isEmpty = true
    · have el := List.isEmpty_iff.mp c1
      have h2 : (tCmd T).1 1 = (tCmd T).1 0 := by
        obtain ⟨n, p, hn, hp, e0, e1, elen, -⟩ := at1
        rw [el] at elen
        simp only [List.length_nil] at elen
        rw [e0, e1, show p = n by omega]
      rw [tCnt_e ok h2]
      exact ⟨c, by omega, rfl⟩
    · obtain ⟨b4, b5⟩ := b3.resolve_left c1
      have n59 : tNx (tCmd T) = 59 := by rw [at1.nx]; exact b4
      obtain ⟨t, et⟩ := nx_ne b4 (by decide)
      have h2 : ¬ (tCmd T).1 1 = (tCmd T).1 0 := fun z => by
        obtain ⟨n, p, hn, hp, e0, e1, elen, -⟩ := at1
        rw [et] at elen
        simp only [List.length_cons] at elen
        rw [e0, e1] at z
        have := (nI_eq (by omega) (by omega)).mp z
        omega
      rw [tCnt_s ok h2 n59, nI_1]
      rw [et] at at1 b5
      obtain ⟨j, hj, ej⟩ := TS.cnt k (c + 1) at1.adv b5
      exact ⟨j, by omega, ej⟩
set_option maxRecDepth 100000 in
theorem tx_cB : ∀ i, i < 31 → cB 60 (sByt.getD (13 + i) []) = true := by decide +kernel
theorem sLen_b : ∀ i, i < 44 → (sByt.getD i []).length = sN i := by decide +kernel
/-- what stands in the buffer after a text is written into an empty one -/
theorem wWr_t {v : PV} {i : Nat} (hi : i < 44) (h0 : v.2.2.1.1 0 = 0) : ∀ k, k ≤ sN i → (wWr v i k).2.2.1.1 0 = nI k ∧ ∀ j, j < k → (wWr v i k).2.2.1.2.1 1 j = sB i j
  | 0, _ => ⟨h0, fun j hj => absurd hj (Nat.not_lt_zero _)⟩
  | k + 1, hk => by
    obtain ⟨a1, a2⟩ := wWr_t hi h0 k (by omega)
    have h48 := sN_lt i hi
    have g1 : 32 ≤ sB i k ∧ sB i k ≤ 126 := (tx_ok i hi k (by omega)).2
    have g2 : ¬ 60 ≤ (wWr v i k).2.2.1.1 0 := by rw [a1]; exact fun z => by have := (nI_leI (a := 60) (by decide) (by omega)).mp z; omega
    have e : wWr v i (k + 1) = wT (wWr v i k) (tPutS (wWr v i k).2.2.1 (sB i k)) := by
      show (pAppend (wWr v i k) (sB i k)).2 = _
      rw [show pAppend (wWr v i k) (sB i k) = _ from pG_y g1, pG_y g2]
    rw [e]
    refine ⟨?_, fun j hj => ?_⟩
    · show (wWr v i k).2.2.1.1 0 + 1 = _
      rw [a1]; exact nI_1 k
    · show (hset (wWr v i k).2.2.1 1 (cN ((wWr v i k).2.2.1.1 0)) (sB i k)).2.1 1 j = _
      rw [hset_s, a1, cN_nI (by omega)]
      by_cases c : j = k
      · subst c; exact upd_s _ _ _
      · rw [upd_n c]; exact a2 j (by omega)
theorem wWr_s {v : PV} {i : Nat} (hi : i < 44) (h0 : v.2.2.1.1 0 = 0) : TS (hsc (wWr v i (sN i)).2.2.1 1 0) (sByt.getD i []) := by
  obtain ⟨a1, a2⟩ := wWr_t hi h0 (sN i) (Nat.le_refl _)
  have h48 := sN_lt i hi
  refine ⟨sN i, 0, by omega, Nat.zero_le _, ?_, rfl, sLen_b i hi, fun j hj => ?_⟩
  · rw [hsc_n (by decide)]; exact a1
  · rw [Nat.zero_add]; exact a2 j (by omega)
theorem coS_v : ∀ (k j : Nat) (u T : HV), (coS k j u T).1 = -1 ∨ ∃ i, i < j + k ∧ (coS k j u T).1 = nI i
  | 0, _, _, _ => Or.inl rfl
  | k + 1, j, u, T => by
    by_cases c : cF u (tSign (tCmd T) 59) = 0
    · rw [coS_y c]
      rcases coS_v k (j + 1) (cD u (tSign (tCmd T) 59)) (tSign (tCmd T) 59) with e | ⟨i, hi, e⟩
      · exact Or.inl e
      · exact Or.inr ⟨i, by omega, e⟩
    · rw [coS_n c]; exact Or.inr ⟨j, by omega, rfl⟩
theorem run_t {w : PV} : (pRun w).2.2.2.1.1 0 = 0 := by
  rcases hc : rC w with ⟨n, T1⟩
  rcases hs : rS w n T1 with ⟨f, v, T2⟩
  by_cases c : n = -1
  · rw [pRun_e hc c]; rfl
  by_cases c2 : f = -1
  · rw [pRun_o hc hs c c2]; rfl
  · rw [pRun_n hc hs c c2]; rfl
/-- before each text: the House and the snapshot H, an empty buffer -/
def TT (H : HV) (v : PV) : Prop := v.1 0 = H ∧ v.1 2 = H ∧ v.2.2.2.2 0 = 1 ∧ v.2.2.1.1 0 = 0
theorem tx_run {H : HV} {v w9 : PV} {i : Nat} (hi : i < 31) (h : TT H v) (hJ : J w9) (e9 : w9 = wWr v (13 + i) (sN (13 + i))) :
    (∃ v', pRun w9 = (.inr eSta, v') ∧ J v' ∧ TT H v' ∧ 0 ≤ wI (-1000) (pFailedCommand v').1) ∨ (∃ n v', pRun w9 = (rI n, v') ∧ J v' ∧ 0 ≤ n ∧ Dp 1 v' H ∧ v'.1 2 = H ∧ v'.2.2.2.2 0 = 1 ∧ v'.2.2.1.1 0 = 0) := by
  obtain ⟨t1, t2, t3, t4⟩ := h
  obtain ⟨k1, k2, k3⟩ := wWr_k (w := v) (i := 13 + i) (sN (13 + i))
  have hts := wWr_s (v := v) (i := 13 + i) (by omega) t4
  rw [← e9] at k1 k3 hts
  obtain ⟨j, hj, ej⟩ := hts.cnt 60 1 (tx_cB i hi)
  have hJr := (j_run hJ).2
  have ht := run_t (w := w9)
  rcases hc : rC w9 with ⟨n, T1⟩
  rw [show tCnt 60 (nI 1) (hsc w9.2.2.1 1 0) = (n, T1) from hc] at ej
  have ej : n = nI j := ej
  have c : ¬ n = -1 := by rw [ej]; exact ne_n1 (by omega)
  rcases hs : rS w9 n T1 with ⟨f, x, T2⟩
  by_cases c2 : f = -1
  · rw [pRun_o hc hs c c2] at hJr ht
    refine Or.inr ⟨n, _, pRun_o hc hs c c2, hJr, by rw [ej]; exact nneg (by omega), ?_, ?_, ?_, ht⟩
    · have hr : ∃ K N : Nat, K ≤ 8 ∧ N < 8 ∧ (wHT (run1 w9 T1) x (hsc T2 0 0)).2.2.2.2 2 = nI K ∧ (wHT (run1 w9 T1) x (hsc T2 0 0)).2.2.2.2 1 = nI N := hJ.ring
      exact Dp.rem (k := 0) (v := wHT (run1 w9 T1) x (hsc T2 0 0)) (x := w9.1 0) hr (by decide) (fun _ => by rw [k1]; exact t1) (Or.inl rfl)
    · show w9.1 2 = H
      rw [k1]; exact t2
    · show w9.2.2.2.2 0 = 1
      rw [k3]; exact t3
  · rw [pRun_n hc hs c c2] at hJr ht
    refine Or.inl ⟨_, pRun_n hc hs c c2, hJr, ⟨?_, ?_, ?_, ht⟩, ?_⟩
    · show w9.1 0 = H
      rw [k1]; exact t1
    · show w9.1 2 = H
      rw [k1]; exact t2
    · show w9.2.2.2.2 0 = 1
      rw [k3]; exact t3
    · have hf : f = -1 ∨ ∃ i, i < 0 + cN n ∧ f = nI i := by
        have := coS_v (cN n) 0 (w9.1 0) (hsc T1 1 0)
        rw [show coS (cN n) 0 (w9.1 0) (hsc T1 1 0) = (f, x, T2) from hs] at this
        exact this
      obtain ⟨i2, hi2, ei2⟩ := hf.resolve_left c2
      have e : wI (-1000) (pFailedCommand (runN w9 T1 x T2 f)).1 = f := wI_y (ok := ¬ (runN w9 T1 x T2 f).2.2.2.2 4 = -1) c2
      rw [e, ei2]
      have := cN_31 n
      exact nneg (by omega)
