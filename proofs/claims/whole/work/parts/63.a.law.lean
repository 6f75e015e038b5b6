/-! ===== the law's body: its world and its rows ===== -/
/-- both answer alike: the same value and no number, or an exception and its number -/
def SmV (P : Value → Prop) (cs : List String) (x : Res × PV) (y : Res × HV) : Prop := ∃ z, P z ∧ y.1 = .inl (some z) ∧ (x.1 = .inl (some z) ∧ y.2.1 0 = 0 ∨ ∃ E, x.1 = .inr E ∧ WEx cs 1 E (y.2.1 0))
def SmQ (x : Res × PV) (y : Res × HV) : Prop := ∃ z : Int32, x.1 = rI z ∧ y.1 = rI z
theorem WEx.mem {cs : List String} {n : Nat} {E : String} {k : Int32} (h : WEx cs n E k) : E ∈ cs := by
  induction cs generalizing n with
  | nil => exact h.elim
  | cons c cs ih => rcases h with ⟨rfl, -⟩ | h; exact List.mem_cons_self; exact List.mem_cons_of_mem _ (ih h)
theorem WEx.uniq {cs : List String} {n : Nat} {E : String} {k k' : Int32} (hn : cs.Nodup) (h : WEx cs n E k) (h' : WEx cs n E k') : k = k' := by
  induction cs generalizing n with
  | nil => exact h.elim
  | cons c cs ih =>
    obtain ⟨h1, h2⟩ := List.nodup_cons.mp hn
    rcases h with ⟨rfl, rfl⟩ | h <;> rcases h' with ⟨h3, h4⟩ | h'
    · exact h4.symm
    · exact absurd h'.mem h1
    · subst h3; exact absurd h.mem h1
    · exact ih h2 h h'
theorem WEx.ne {cs : List String} {n : Nat} {E : String} {k : Int32} (h : WEx cs n E k) (h1 : 0 < n) (h2 : n + cs.length < 2 ^ 31) : ¬ k = 0 := by
  induction cs generalizing n with
  | nil => exact h.elim
  | cons c cs ih =>
    rcases h with ⟨-, rfl⟩ | h
    · intro e
      have e2 : cN (nI n) = cN (nI 0) := congrArg cN e
      rw [cN_nI (by omega), cN_nI (by decide)] at e2
      omega
    · exact ih h (by omega) (by rw [List.length_cons] at h2; omega)
theorem SmV.inn {P : Value → Prop} {cs : List String} {x : Res × PV} {y : Res × HV} (h : SmV P cs x y) : WIn cs P x.1 := by
  obtain ⟨z, hz, -, ⟨e, -⟩ | ⟨E, e, hE⟩⟩ := h
  · exact Or.inl ⟨z, e, hz⟩
  · exact Or.inr ⟨E, _, e, hE⟩
/-- what the law then has: the number, the value, and where the number is 0 the cell's value -/
theorem SmV.ans {P : Value → Prop} {cs : List String} {x : Res × PV} {y : Res × HV} {ok : Value → Prop} {r : Res} (hS : SmV P cs x y) (hA : WAns cs ok x.1 r) (hn : cs.Nodup) (hl : 1 + cs.length < 2 ^ 31) : ∃ (k : Int32) (z : Value), P z ∧ r = rI k ∧ y.1 = .inl (some z) ∧ y.2.1 0 = k ∧ (k = 0 → ok z) := by
  obtain ⟨z, hz, ey, ⟨e, e0⟩ | ⟨E, e, hE⟩⟩ := hS
  · rcases hA with ⟨v, e1, er, hok⟩ | ⟨E, k, e1, -, -⟩
    · have := e.symm.trans e1; cases this
      exact ⟨0, z, hz, er, ey, e0, fun _ => hok⟩
    · have := e.symm.trans e1; cases this
  · rcases hA with ⟨v, e1, er, hok⟩ | ⟨E', k, e1, hE', er⟩
    · have := e.symm.trans e1; cases this
    · have := e.symm.trans e1; cases this
      refine ⟨k, z, hz, er, ey, hE.uniq hn hE', fun h0 => absurd h0 (hE'.ne (by decide) hl)⟩
theorem lg_cmp_self (x : Int64) : lg_cmp x x = 0 := by
  have h : ¬ x > x := Int64.lt_irrefl
  unfold lg_cmp
  rw [if_neg h, if_pos rfl]
/-- what both sides hold that the methods ask for -/
def LG (w : PV) (u : HV) : Prop := BInv w ∧ RI u ∧ KInv u ∧ XInv 200 u ∧ (∃ W : Nat, W ≤ 40 ∧ u.1 4 = nI W) ∧ (∀ j, j < 40 → narrow .char (.int (u.2.1 13 j)) = .int (u.2.1 13 j)) ∧ (∀ b : Nat, b < 8 → DOK u b) ∧ (∀ b : Nat, b < 8 → ¬ rAll u b = 0 → vf_n32 (rShX u b) ∧ Op.cmpValue (FP.fcmp (rShX u b) (rShX u b)) .l = 0) ∧ (¬ u.2.1 1 0 = 0 → vf_n64 (rMwX u)) ∧ (∀ b, hasB (w.1 0) b → ¬ shB (w.1 0) b = 0 → ShF (w.1 0) b) ∧ (¬ (w.1 0).1 0 = 0 → MwOK (w.1 0))
section GL
variable {κ : KT} {own : String} {cc : ByteArray} {rt : Option FieldType} {tab : List ExceptionTableEntry} {nm : String} {M : Hp} {cells slots pc : Nat} {L L' : List (Nat × Value)} {rest : List Value} {sb Ls o od i : Nat} {xs : Nat → Int32} {A a : Nat → Nat}
/-- the script's cell, and that the regions lie apart -/
def LD (κ : KT) (sb Ls : Nat) (xs : Nat → Int32) (A a : Nat → Nat) (o od : Nat) : Prop := (va_X sb Ls xs κ.s κ.s.heap ∧ sb < κ.s.heap.size ∧ ¬ κ.A sb) ∧ (∀ i, i < 315 → ∀ j, j < 15 → A i ≠ a j) ∧ ((∀ i, i < 315 → o ≠ A i) ∧ ∀ i, i < 315 → od ≠ A i) ∧ ((∀ j, j < 15 → o ≠ a j) ∧ ∀ j, j < 15 → od ≠ a j) ∧ od ≠ o ∧ Ls ≤ 2048
/-- what stands in the law's cells -/
def LW (κ : KT) (A a : Nat → Nat) (o od : Nat) (w : PV) (u : HV) (M : Hp) : Prop := BRep κ.Γ A w M ∧ MRep κ.Γ a u M ∧ (∃ fo : Nat → Int64, M o = some (.inl (κ.Γ.2.1 1, 1, .inr (.inl fo)))) ∧ ∃ fd : Nat → UInt64, M od = some (.inl (κ.Γ.2.1 5, 1, .inr (.inr (.inr (.inl fd)))))
abbrev LL (sb : Nat) (A a : Nat → Nat) (o od i : Nat) : List (Nat × Value) := [(5, .int (nI i)), (4, .ref od), (3, .ref o), (2, .ref (a 0)), (1, .ref (A 313)), (0, .ref sb)]
theorem g_sld (X : Cx κ own cc rt tab nm) (D : LD κ sb Ls xs A a o od) {j : Nat} (d : decode cc pc = .ok (.iaload, 1)) (hj : j < Ls) (k9 : G κ M cells slots L (pc + 1) (.int (xs j) :: rest)) : G κ M cells slots L pc (.int (nI j) :: .ref sb :: rest) := fun H locs ls hI hl => by
  have hL : Ls ≤ 2048 := D.2.2.2.2.2
  refine va_sld X.1 X.2.1 D.1.1 D.1.2.1 D.1.2.2 hI.2.2 (vp_in_nI hj (by omega)) d ?_
  rw [nI_clamp (by omega)]
  exact k9 H locs ls hI hl
theorem g_scrlen (X : Cx κ own cc rt tab nm) (D : LD κ sb Ls xs A a o od) (d : decode cc pc = .ok (.arraylength, 1)) (k9 : G κ M cells slots L (pc + 1) (.int (nI Ls) :: rest)) : G κ M cells slots L pc (.ref sb :: rest) := fun H locs ls hI hl => va_slen X.1 X.2.1 D.1.1 D.1.2.1 D.1.2.2 hI.2.2 d (k9 H locs ls hI hl)
/-- script[i + k] -/
theorem g_arg (X : Cx κ own cc rt tab nm) (D : LD κ sb Ls xs A a o od) (k j0 j5 : Nat) {n : Int} (d0 : decode cc pc = .ok (.aload_n 0, 1)) (d1 : decode cc (pc + 1) = .ok (.iload 5, 2)) (d2 : decode cc (pc + 3) = .ok (.iconst n, 1)) (d3 : decode cc (pc + 4) = .ok (.iadd, 1)) (d4 : decode cc (pc + 5) = .ok (.iaload, 1)) (hn : Int32.ofInt n = nI k) (h0 : L[j0]? = some (0, .ref sb)) (h5 : L[j5]? = some (5, .int (nI i))) (hk : i + k < Ls) (k9 : G κ M cells slots L (pc + 6) (.int (xs (i + k)) :: rest)) : G κ M cells slots L pc rest := by
  refine g_aload_n X d0 rfl j0 h0 ?_
  refine g_iload X d1 j5 h5 ?_
  refine g_iconst (v := nI k) X d2 hn ?_
  refine g_iadd X d3 ?_
  refine g_lit (y := nI (i + k)) (nI_add i k) ?_
  exact g_sld X D d4 hk k9
theorem g_lcmp0 (X : Cx κ own cc rt tab nm) {x y : Int64} (d : decode cc pc = .ok (.lcmp, 1)) (h : x = y) (k9 : G κ M cells slots L (pc + 1) (.int 0 :: rest)) : G κ M cells slots L pc (.long y :: .long x :: rest) := by
  subst h
  refine g_lcmp X d ?_
  rw [lg_cmp_self]
  exact k9
theorem LD.m (D : LD κ sb Ls xs A a o od) {u : HV} {M M' : Hp} (hR : MRep κ.Γ a u M) (hF : ∀ q, q ≠ o → (∀ i, i < 315 → q ≠ A i) → M' q = M q) : MRep κ.Γ a u M' := ⟨fun j hj => (hF _ (fun e => D.2.2.2.1.1 j hj e.symm) (fun i hi e => D.2.1 i hi j hj e.symm)).trans (hR.1 j hj), hR.2⟩
theorem LD.m2 (D : LD κ sb Ls xs A a o od) {u : HV} {M M' : Hp} (hR : MRep κ.Γ a u M) (hF : Fr A 315 M M') : MRep κ.Γ a u M' := ⟨fun j hj => (hF _ (fun i hi e => D.2.1 i hi j hj e.symm)).trans (hR.1 j hj), hR.2⟩
theorem LD.b (D : LD κ sb Ls xs A a o od) {w : PV} {M M' : Hp} (hB : BRep κ.Γ A w M) (hF : Fr a 15 M M') : BRep κ.Γ A w M' := hB.agree fun i hi => hF _ fun j hj => D.2.1 i hi j hj
theorem LD.oM (D : LD κ sb Ls xs A a o od) {e : Option va_E} {M M' : Hp} (h : M o = e) (hF : Fr a 15 M M') : M' o = e := (hF _ D.2.2.2.1.1).trans h
theorem LD.odM (D : LD κ sb Ls xs A a o od) {e : Option va_E} {M M' : Hp} (h : M od = e) (hF : Fr a 15 M M') : M' od = e := (hF _ D.2.2.2.1.2).trans h
theorem LD.oA (D : LD κ sb Ls xs A a o od) {e : Option va_E} {M M' : Hp} (h : M o = e) (hF : Fr A 315 M M') : M' o = e := (hF _ D.2.2.1.1).trans h
theorem LD.odA (D : LD κ sb Ls xs A a o od) {e : Option va_E} {M M' : Hp} (h : M od = e) (hF : Fr A 315 M M') : M' od = e := (hF _ D.2.2.1.2).trans h
theorem LD.odW (D : LD κ sb Ls xs A a o od) {e : Option va_E} {M M' : Hp} (h : M od = e) (hF : ∀ q, q ≠ o → (∀ i, i < 315 → q ≠ A i) → M' q = M q) : M' od = e := (hF _ D.2.2.2.2.1 D.2.2.1.2).trans h
theorem LD.oW (D : LD κ sb Ls xs A a o od) {e : Option va_E} {M M' : Hp} (h : M o = e) (hF : ∀ q, q ≠ od → (∀ i, i < 315 → q ≠ A i) → M' q = M q) : M' o = e := (hF _ D.2.2.2.2.1.symm D.2.2.1.1).trans h
theorem LD.mD (D : LD κ sb Ls xs A a o od) {u : HV} {M M' : Hp} (hR : MRep κ.Γ a u M) (hF : ∀ q, q ≠ od → (∀ i, i < 315 → q ≠ A i) → M' q = M q) : MRep κ.Γ a u M' := ⟨fun j hj => (hF _ (fun e => D.2.2.2.1.2 j hj e.symm) (fun i hi e => D.2.1 i hi j hj e.symm)).trans (hR.1 j hj), hR.2⟩
end GL
