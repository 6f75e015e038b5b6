/-! ===== the main object: houses 0 house, 1 beforeRun, 2 snapshot; eight of history; text; line; scalars 0 hasSnapshot, 1 nextChange, 2 changesKept, 3 errorAt, 4 failedAt ===== -/
abbrev PV : Type := (Nat → HV) × (Nat → HV) × HV × HV × (Nat → Int32)
abbrev hA (A : Nat → Nat) (h : Nat) : Nat → Nat := fun i => A (28 * h + i)
abbrev tA (A : Nat → Nat) : Nat → Nat := fun i => A (308 + i)
abbrev lA (A : Nat → Nat) : Nat → Nat := fun i => A (311 + i)
def wH (w : PV) (h : Nat) (u : HV) : PV := (fun k => if k = h then u else w.1 k, w.2)
def wQ (w : PV) (h : Nat) (u : HV) : PV := (w.1, fun k => if k = h then u else w.2.1 k, w.2.2)
def wT (w : PV) (u : HV) : PV := (w.1, w.2.1, u, w.2.2.2)
def wL (w : PV) (u : HV) : PV := (w.1, w.2.1, w.2.2.1, u, w.2.2.2.2)
def wS (w : PV) (s : Nat) (v : Int32) : PV := (w.1, w.2.1, w.2.2.1, w.2.2.2.1, va_up w.2.2.2.2 s v)
def BF (A : Nat → Nat) (w : PV) : List Value := [.ref (A 0), .ref (A 28), .ref (A 56), .int (w.2.2.2.2 0), .ref (A 314), .int (w.2.2.2.2 1), .int (w.2.2.2.2 2), .ref (A 308), .int (w.2.2.2.2 3), .int (w.2.2.2.2 4), .ref (A 311)]
def Inj (A : Nat → Nat) (N : Nat) : Prop := ∀ i j, i < N → j < N → A i = A j → i = j
def BRep (Γ : Gm) (A : Nat → Nat) (w : PV) (M : Hp) : Prop := (∀ h, h < 3 → HRep Γ (hA A h) (w.1 h) M) ∧ (∀ h, h < 8 → HRep Γ (hA A (3 + h)) (w.2.1 h) M) ∧ TRep Γ (tA A) w.2.2.1 M ∧ LRep Γ (lA A) w.2.2.2.1 M ∧ M (A 313) = some (.inr (3, BF A w)) ∧ M (A 314) = some (.inl (Γ.2.1 4, 8, .inr (.inr (.inr (.inr (fun b => if b < 8 then some (hA A (3 + b) 0) else none)))))) ∧ Inj A 315
theorem Fr.inA {A : Nat → Nat} {M M' : Hp} {n N : Nat} (h : Fr (fun i => A (n + i)) N M M') (hn : n + N ≤ 315) : Fr A 315 M M' := fun q hq => h q fun i hi => hq (n + i) (by omega)
theorem Fr.cell {A : Nat → Nat} {M M' : Hp} {n N k : Nat} (h : Fr (fun i => A (n + i)) N M M') (hA : Inj A 315) (hn : n + N ≤ 315) (hk : k < 315) (ho : k < n ∨ n + N ≤ k) : M' (A k) = M (A k) := h _ fun i hi e => by
  have := hA _ _ hk (by omega) e
  omega
theorem Fr.dj {A : Nat → Nat} {n N m K : Nat} (hA : Inj A 315) (hn : n + N ≤ 315) (hm : m + K ≤ 315) (ho : n + N ≤ m ∨ m + K ≤ n) : ∀ i j, i < N → j < K → A (n + i) ≠ A (m + j) := fun i j hi hj e => by
  have := hA _ _ (by omega) (by omega) e
  omega
theorem BRep.hs {Γ : Gm} {A : Nat → Nat} {w : PV} {M M' : Hp} {k : Nat} {u : HV} (hB : BRep Γ A w M) (hk : k < 3) (hR : HRep Γ (hA A k) u M') (hF : Fr (hA A k) 28 M M') : BRep Γ A (wH w k u) M' := by
  obtain ⟨h1, h2, h3, h4, h5, h6, h7⟩ := hB
  have hn : 28 * k + 28 ≤ 315 := by omega
  refine ⟨fun h hh => ?_, fun h hh => ?_, ?_, ?_, ?_, ?_, h7⟩
  · show HRep Γ (hA A h) (if h = k then u else w.1 h) M'
    by_cases e : h = k
    · rw [if_pos e, e]; exact hR
    · rw [if_neg e]; exact Rp.fr (h1 h hh) hF (Fr.dj h7 (by omega) hn (by omega))
  · exact Rp.fr (h2 h hh) hF (Fr.dj h7 (by omega) hn (by omega))
  · exact Rp.fr h3 hF (Fr.dj h7 (by omega) hn (by omega))
  · exact Rp.fr h4 hF (Fr.dj h7 (by omega) hn (by omega))
  · rw [hF.cell h7 hn (by decide) (by omega)]; exact h5
  · rw [hF.cell h7 hn (by decide) (by omega)]; exact h6
theorem BRep.qs {Γ : Gm} {A : Nat → Nat} {w : PV} {M M' : Hp} {k : Nat} {u : HV} (hB : BRep Γ A w M) (hk : k < 8) (hR : HRep Γ (hA A (3 + k)) u M') (hF : Fr (hA A (3 + k)) 28 M M') : BRep Γ A (wQ w k u) M' := by
  obtain ⟨h1, h2, h3, h4, h5, h6, h7⟩ := hB
  have hn : 28 * (3 + k) + 28 ≤ 315 := by omega
  refine ⟨fun h hh => ?_, fun h hh => ?_, ?_, ?_, ?_, ?_, h7⟩
  · exact Rp.fr (h1 h hh) hF (Fr.dj h7 (by omega) hn (by omega))
  · show HRep Γ (hA A (3 + h)) (if h = k then u else w.2.1 h) M'
    by_cases e : h = k
    · rw [if_pos e, e]; exact hR
    · rw [if_neg e]; exact Rp.fr (h2 h hh) hF (Fr.dj h7 (by omega) hn (by omega))
  · exact Rp.fr h3 hF (Fr.dj h7 (by omega) hn (by omega))
  · exact Rp.fr h4 hF (Fr.dj h7 (by omega) hn (by omega))
  · rw [hF.cell h7 hn (by decide) (by omega)]; exact h5
  · rw [hF.cell h7 hn (by decide) (by omega)]; exact h6
theorem BRep.tx {Γ : Gm} {A : Nat → Nat} {w : PV} {M M' : Hp} {u : HV} (hB : BRep Γ A w M) (hR : TRep Γ (tA A) u M') (hF : Fr (tA A) 3 M M') : BRep Γ A (wT w u) M' := by
  obtain ⟨h1, h2, h3, h4, h5, h6, h7⟩ := hB
  have hn : 308 + 3 ≤ 315 := by decide
  refine ⟨fun h hh => ?_, fun h hh => ?_, hR, ?_, ?_, ?_, h7⟩
  · exact Rp.fr (h1 h hh) hF (Fr.dj h7 (by omega) hn (by omega))
  · exact Rp.fr (h2 h hh) hF (Fr.dj h7 (by omega) hn (by omega))
  · exact Rp.fr h4 hF (Fr.dj h7 (by omega) hn (by omega))
  · rw [hF.cell h7 hn (by decide) (by omega)]; exact h5
  · rw [hF.cell h7 hn (by decide) (by omega)]; exact h6
theorem BRep.ln {Γ : Gm} {A : Nat → Nat} {w : PV} {M M' : Hp} {u : HV} (hB : BRep Γ A w M) (hR : LRep Γ (lA A) u M') (hF : Fr (lA A) 2 M M') : BRep Γ A (wL w u) M' := by
  obtain ⟨h1, h2, h3, h4, h5, h6, h7⟩ := hB
  have hn : 311 + 2 ≤ 315 := by decide
  refine ⟨fun h hh => ?_, fun h hh => ?_, ?_, hR, ?_, ?_, h7⟩
  · exact Rp.fr (h1 h hh) hF (Fr.dj h7 (by omega) hn (by omega))
  · exact Rp.fr (h2 h hh) hF (Fr.dj h7 (by omega) hn (by omega))
  · exact Rp.fr h3 hF (Fr.dj h7 (by omega) hn (by omega))
  · rw [hF.cell h7 hn (by decide) (by omega)]; exact h5
  · rw [hF.cell h7 hn (by decide) (by omega)]; exact h6
theorem Fr.up1 {A : Nat → Nat} {M : Hp} {e : va_E} : Fr (fun i => A (313 + i)) 1 M (hup M (A 313) e) := fun q hq => hup_n (hq 0 (by decide))
theorem BRep.sc {Γ : Gm} {A : Nat → Nat} {w : PV} {M : Hp} (hB : BRep Γ A w M) (s : Nat) (v : Int32) {fs : List Value} (hfs : BF A (wS w s v) = fs) : BRep Γ A (wS w s v) (hup M (A 313) (.inr (3, fs))) := by
  obtain ⟨h1, h2, h3, h4, h5, h6, h7⟩ := hB
  have hn : 313 + 1 ≤ 315 := by decide
  refine ⟨fun h hh => ?_, fun h hh => ?_, ?_, ?_, ?_, ?_, h7⟩
  · exact Rp.fr (h1 h hh) Fr.up1 (Fr.dj h7 (by omega) hn (by omega))
  · exact Rp.fr (h2 h hh) Fr.up1 (Fr.dj h7 (by omega) hn (by omega))
  · exact Rp.fr h3 Fr.up1 (Fr.dj h7 (by omega) hn (by omega))
  · exact Rp.fr h4 Fr.up1 (Fr.dj h7 (by omega) hn (by omega))
  · rw [hup_s, ← hfs]
  · rw [Fr.up1.cell h7 hn (by decide) (by omega)]; exact h6
theorem BRep.obj {Γ : Gm} {A : Nat → Nat} {w : PV} {M : Hp} (hB : BRep Γ A w M) : M (A 313) = some (.inr (3, BF A w)) := hB.2.2.2.2.1
theorem BRep.hist {Γ : Gm} {A : Nat → Nat} {w : PV} {M : Hp} (hB : BRep Γ A w M) : M (A 314) = some (.inl (Γ.2.1 4, 8, .inr (.inr (.inr (.inr (fun b => if b < 8 then some (hA A (3 + b) 0) else none)))))) := hB.2.2.2.2.2.1
theorem BRep.dj {Γ : Gm} {A : Nat → Nat} {w : PV} {M : Hp} (hB : BRep Γ A w M) {h k : Nat} (hh : h < 11) (hk : k < 11) (ne : h ≠ k) : ∀ i j, i < 28 → j < 28 → hA A h i ≠ hA A k j := Fr.dj hB.2.2.2.2.2.2 (by omega) (by omega) (by omega)
theorem Fr.hA {A : Nat → Nat} {M M' : Hp} {h : Nat} (hF : Fr (hA A h) 28 M M') (hh : h < 11) : Fr A 315 M M' := hF.inA (by omega)
theorem Fr.tA {A : Nat → Nat} {M M' : Hp} (hF : Fr (tA A) 3 M M') : Fr A 315 M M' := hF.inA (by decide)
theorem Fr.lA {A : Nat → Nat} {M M' : Hp} (hF : Fr (lA A) 2 M M') : Fr A 315 M M' := hF.inA (by decide)
def BInv (w : PV) : Prop := (∀ h, h < 3 → HInv (w.1 h)) ∧ (∀ h, h < 8 → HInv (w.2.1 h)) ∧ TInv w.2.2.1 ∧ LInv w.2.2.2.1 ∧ vp_in (w.2.2.2.2 1) 8
/-- the answer and what the object is then -/
abbrev BMu (Γ : Gm) (A : Nat → Nat) (x : Res × PV) (M : Hp) : Res → Hp → Prop := fun r M' => r = x.1 ∧ BRep Γ A x.2 M' ∧ Fr A 315 M M'
abbrev Gate (ok : Prop) (e : String) (M : Hp) : Res → Hp → Prop := fun r M' => (ok ∧ r = .inl none ∨ ¬ ok ∧ r = .inr e) ∧ M' = M
noncomputable def pG (ok : Prop) (e : String) (w : PV) (k : Res × PV) : Res × PV := @ite _ ok (Classical.propDecidable _) k (.inr e, w)
theorem pG_y {ok : Prop} {e : String} {w : PV} {k : Res × PV} (h : ok) : pG ok e w k = k := @if_pos _ (Classical.propDecidable _) h _ _ _
theorem pG_n {ok : Prop} {e : String} {w : PV} {k : Res × PV} (h : ¬ ok) : pG ok e w k = (.inr e, w) := @if_neg _ (Classical.propDecidable _) h _ _ _
theorem Gate.x {ok : Prop} {e : String} {M M2 : Hp} {E : String} {Γ : Gm} {A : Nat → Nat} {w : PV} {k : Res × PV} (h : Gate ok e M (.inr E) M2) (hB : BRep Γ A w M) : BMu Γ A (pG ok e w k) M (.inr E) M2 := by
  obtain ⟨⟨_, h2⟩ | ⟨h1, h2⟩, rfl⟩ := h
  · cases h2
  · rw [pG_n h1]; exact ⟨h2, hB, Fr.rf⟩
theorem Gate.y {ok : Prop} {e : String} {M M2 : Hp} {v : Option Value} (h : Gate ok e M (.inl v) M2) : ok ∧ v = none ∧ M2 = M := by
  obtain ⟨⟨h1, h2⟩ | ⟨_, h2⟩, h3⟩ := h
  · cases h2; exact ⟨h1, rfl, h3⟩
  · cases h2
abbrev eIdx : String := "java/lang/IndexOutOfBoundsException"
abbrev eArg : String := "java/lang/IllegalArgumentException"
abbrev eSta : String := "java/lang/IllegalStateException"
abbrev eEle : String := "java/util/NoSuchElementException"
abbrev eUns : String := "java/lang/UnsupportedOperationException"
abbrev eAri : String := "java/lang/ArithmeticException"
abbrev ok0 (f : Int32) : Prop := ∀ k ∈ ([1, 2, 3, 4, 5] : List Int32), ¬ f = k
def exn (f : Int32) : String := if f = 1 then eIdx else if f = 2 then eArg else if f = 3 then eSta else if f = 4 then eEle else eUns
def wRem (w : PV) (v : HV) : PV :=
  let w1 := wQ w (cN (w.2.2.2.2 1)) v
  let w2 := wS w1 1 (if w1.2.2.2.2 1 = 7 then 0 else w1.2.2.2.2 1 + 1)
  wS w2 2 (if (8 : Int32) < w2.2.2.2.2 2 + 1 then 8 else w2.2.2.2.2 2 + 1)
section GB
variable {κ : KT} {own : String} {cc : ByteArray} {rt : Option FieldType} {tab : List ExceptionTableEntry} {nm : String} {M : Hp} {cells slots pc : Nat} {L : List (Nat × Value)} {rest : List Value}
theorem g_gateV (X : Cx κ own cc rt tab nm) {y : MethodName} {bytes : ByteArray} {maxL idx k mc ms b ci : Nat} {C : String} {T : u_T} {N : Nat} {ret : Option FieldType} {As : List Value} {fs : List Value} {st0 : List Value} {ok : Prop} {e : String} (d : decode cc pc = .ok (.invokevirtual idx, 3)) (hC : Ct κ.l κ.Γ y bytes maxL ret k mc ms (.ref b :: As) M (Gate ok e M))
    (h1 : Cond.methodLink own idx y ∈ TG) (h2 : Cond.instanceMethod y ∈ TG) (h3 : Cond.selects C y y ∈ TG) (h4 : Cond.initialized C ∈ TG) (h5 : Cond.code y bytes maxL ret ∈ TG) (hc : CL[ci]? = some (C, T, N)) (hb : M b = some (.inr (ci, fs)))
    (hd : y.cls = C ∧ y.cls ≠ "java/lang/invoke/MethodHandle" ∧ y.cls ≠ "java/lang/invoke/VarHandle" ∧ (parseMethodDescriptor y.desc).map (fun d => d.parameters.length) = some As.length) (hst : st0 = As.reverse ++ .ref b :: rest) (hW : (rest.map fun v => v.category).sum ≤ 8) (hR : 12 + k + 1 ≤ κ.R.frames ∧ 8 + (maxL + 11) + (300 + 40 * k) ≤ κ.R.locals) (hf : cells + mc ≤ κ.R.cells ∧ slots + ms ≤ κ.R.slots)
    (kk : ok → G κ M (cells + mc) (slots + ms) L (pc + 3) rest) (kx : ∀ E M', Gate ok e M (.inr E) M' → GX κ M' (cells + mc) (slots + ms) L pc rest E) : G κ M cells slots L pc st0 :=
  g_callV X d hC h1 h2 h3 h4 h5 hc hb hd hst hW hR hf (fun v M' h => by obtain ⟨g, rfl, rfl⟩ := Gate.y h; exact kk g) kx
theorem g_gateS (X : Cx κ own cc rt tab nm) {y : MethodName} {bytes : ByteArray} {maxL idx k mc ms : Nat} {ret : Option FieldType} {As : List Value} {st0 : List Value} {ok : Prop} {e : String} (d : decode cc pc = .ok (.invokestatic idx, 3)) (hC : Ct κ.l κ.Γ y bytes maxL ret k mc ms As M (Gate ok e M))
    (h1 : Cond.methodLink own idx y ∈ TG) (h2 : Cond.static y ∈ TG) (h4 : Cond.initialized y.cls ∈ TG) (h5 : Cond.code y bytes maxL ret ∈ TG)
    (hd : y.cls ≠ "java/lang/invoke/MethodHandle" ∧ y.cls ≠ "java/lang/invoke/VarHandle" ∧ (parseMethodDescriptor y.desc).map (fun d => d.parameters.length) = some As.length) (hst : st0 = As.reverse ++ rest) (hW : (rest.map fun v => v.category).sum ≤ 8) (hR : 12 + k + 1 ≤ κ.R.frames ∧ 8 + (maxL + 11) + (300 + 40 * k) ≤ κ.R.locals) (hf : cells + mc ≤ κ.R.cells ∧ slots + ms ≤ κ.R.slots)
    (kk : ok → G κ M (cells + mc) (slots + ms) L (pc + 3) rest) (kx : ∀ E M', Gate ok e M (.inr E) M' → GX κ M' (cells + mc) (slots + ms) L pc rest E) : G κ M cells slots L pc st0 :=
  g_callS X d hC h1 h2 h4 h5 hd hst hW hR hf (fun v M' h => by obtain ⟨g, rfl, rfl⟩ := Gate.y h; exact kk g) kx
end GB
theorem exn_1 {f : Int32} (h : f = 1) : ¬ ok0 f ∧ exn f = eIdx := ⟨fun q => q 1 (by decide) h, by rw [h]; rfl⟩
theorem exn_2 {f : Int32} (h : f = 2) : ¬ ok0 f ∧ exn f = eArg := ⟨fun q => q 2 (by decide) h, by rw [h]; rfl⟩
theorem exn_3 {f : Int32} (h : f = 3) : ¬ ok0 f ∧ exn f = eSta := ⟨fun q => q 3 (by decide) h, by rw [h]; rfl⟩
theorem exn_4 {f : Int32} (h : f = 4) : ¬ ok0 f ∧ exn f = eEle := ⟨fun q => q 4 (by decide) h, by rw [h]; rfl⟩
theorem exn_5 {f : Int32} (h : f = 5) : ¬ ok0 f ∧ exn f = eUns := ⟨fun q => q 5 (by decide) h, by rw [h]; rfl⟩
theorem rf_hist {A : Nat → Nat} {x : Int32} (h : vp_in x 8) : va_rf (if cN x < 8 then some (hA A (3 + cN x) 0) else none) = .ref (hA A (3 + cN x) 0) := by rw [if_pos (vin_lt h)]; rfl
theorem Gate.x2 {ok ok1 : Prop} {e e1 : String} {M M2 : Hp} {E : String} (h : Gate ok e M (.inr E) M2) (h1 : ¬ ok → ¬ ok1 ∧ e = e1) : Gate ok1 e1 M (.inr E) M2 := by
  obtain ⟨⟨_, h2⟩ | ⟨g1, h2⟩, h3⟩ := h
  · cases h2
  · obtain ⟨k1, k2⟩ := h1 g1
    exact ⟨Or.inr ⟨k1, by rw [h2, k2]⟩, h3⟩
abbrev rI (v : Int32) : Res := .inl (some (.int v))
def ePend (u : HV) (b : Int32) : String := if hasB u b then eEle else eIdx
