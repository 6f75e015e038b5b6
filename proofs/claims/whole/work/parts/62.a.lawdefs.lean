/-! ===== the law's wrappers: the answer into a cell, 0; or the number of the exception ===== -/
/-- exception E is the one of number k in the list (counted from n) -/
def WEx : List String → Nat → String → Int32 → Prop
  | [], _, _, _ => False
  | c :: cs, n, E, k => (E = c ∧ k = nI n) ∨ WEx cs (n + 1) E k
def WIn (cs : List String) (P : Value → Prop) (y : Res) : Prop := (∃ v, y = .inl (some v) ∧ P v) ∨ ∃ E k, y = .inr E ∧ WEx cs 1 E k
def WAns (cs : List String) (ok : Value → Prop) (y r : Res) : Prop := (∃ v, y = .inl (some v) ∧ r = rI 0 ∧ ok v) ∨ ∃ E k, y = .inr E ∧ WEx cs 1 E k ∧ r = rI k
def isI (v : Value) : Prop := ∃ n, v = .int n
def isL (v : Value) : Prop := ∃ n, v = .long n
def isD (v : Value) : Prop := ∃ n, v = .double n
/-- the int, long of an answer, as a long -/
def cvI : Value → Int64
  | .int n => i2l n
  | .long n => n
  | _ => 0
/-- a yes or no, as a long -/
def cvB : Value → Int64
  | .int n => if n = 0 then 0 else 1
  | _ => 0
abbrev WMu (Γ : Gm) (A : Nat → Nat) (o : Nat) (cs : List String) (cv : Value → Int64) (x : Res × PV) (M : Hp) : Res → Hp → Prop := fun r M' =>
  ∃ f' : Nat → Int64, BRep Γ A x.2 M' ∧ M' o = some (.inl (Γ.2.1 1, 1, .inr (.inl f'))) ∧ (∀ q, q ≠ o → (∀ i, i < 315 → q ≠ A i) → M' q = M q) ∧ WAns cs (fun v => f' 0 = cv v) x.1 r
abbrev WMuD (Γ : Gm) (A : Nat → Nat) (o : Nat) (cs : List String) (x : Res × PV) (M : Hp) : Res → Hp → Prop := fun r M' =>
  ∃ f' : Nat → UInt64, BRep Γ A x.2 M' ∧ M' o = some (.inl (Γ.2.1 5, 1, .inr (.inr (.inr (.inl f'))))) ∧ (∀ q, q ≠ o → (∀ i, i < 315 → q ≠ A i) → M' q = M q) ∧ WAns cs (fun v => v = .double (f' 0)) x.1 r
theorem BRep.agree {Γ : Gm} {A : Nat → Nat} {w : PV} {M M' : Hp} (hB : BRep Γ A w M) (h : ∀ i, i < 315 → M' (A i) = M (A i)) : BRep Γ A w M' := by
  obtain ⟨h1, h2, h3, h4, h5, h6, h7⟩ := hB
  exact ⟨fun k hk => ⟨fun i hi => (h _ (by omega)).trans ((h1 k hk).1 i hi), (h1 k hk).2⟩, fun k hk => ⟨fun i hi => (h _ (by omega)).trans ((h2 k hk).1 i hi), (h2 k hk).2⟩, ⟨fun i hi => (h _ (by omega)).trans (h3.1 i hi), h3.2⟩, ⟨fun i hi => (h _ (by omega)).trans (h4.1 i hi), h4.2⟩, (h _ (by decide)).trans h5, (h _ (by decide)).trans h6, h7⟩
theorem BRep.off {Γ : Gm} {A : Nat → Nat} {w : PV} {M : Hp} {o : Nat} {e : va_E} (hB : BRep Γ A w M) (ho : ∀ i, i < 315 → o ≠ A i) : BRep Γ A w (hup M o e) := hB.agree fun i hi => hup_n fun h => ho i hi h.symm
theorem WIn.val {cs : List String} {P : Value → Prop} {y : Res} {v : Option Value} (h : WIn cs P y) (e : .inl v = y) : ∃ u, v = some u ∧ P u := by
  rcases h with ⟨u, h1, h2⟩ | ⟨E, k, h1, -⟩
  · have := e.trans h1; cases this; exact ⟨u, rfl, h2⟩
  · have := e.trans h1; cases this
theorem WIn.int {cs : List String} {y : Res} {v : Option Value} (h : WIn cs isI y) (e : .inl v = y) : ∃ n : Int32, v = some (.int n) := by
  obtain ⟨u, h1, n, rfl⟩ := h.val e; exact ⟨n, h1⟩
theorem WIn.long {cs : List String} {y : Res} {v : Option Value} (h : WIn cs isL y) (e : .inl v = y) : ∃ n : Int64, v = some (.long n) := by
  obtain ⟨u, h1, n, rfl⟩ := h.val e; exact ⟨n, h1⟩
theorem WIn.dbl {cs : List String} {y : Res} {v : Option Value} (h : WIn cs isD y) (e : .inl v = y) : ∃ n : UInt64, v = some (.double n) := by
  obtain ⟨u, h1, n, rfl⟩ := h.val e; exact ⟨n, h1⟩
theorem WIn.ex {cs : List String} {P : Value → Prop} {y : Res} {E : String} (h : WIn cs P y) (e : .inr E = y) : ∃ k, WEx cs 1 E k := by
  rcases h with ⟨u, h1, h2⟩ | ⟨E', k, h1, h2⟩
  · have := e.trans h1; cases this
  · have := e.trans h1; cases this; exact ⟨k, h2⟩
theorem WMu.ok {Γ : Gm} {A : Nat → Nat} {o : Nat} {cs : List String} {cv : Value → Int64} {x : Res × PV} {M M9 : Hp} {v : Value} {f' : Nat → Int64} (h9 : BMu Γ A x M (.inl (some v)) M9) (hoA : ∀ i, i < 315 → o ≠ A i) (e : f' 0 = cv v) : WMu Γ A o cs cv x M (rI 0) (hup M9 o (.inl (Γ.2.1 1, 1, .inr (.inl f')))) :=
  ⟨f', h9.2.1.off hoA, hup_s .., fun q h1 h2 => (hup_n h1).trans (h9.2.2 q h2), Or.inl ⟨v, h9.1.symm, rfl, e⟩⟩
theorem WMu.exc {Γ : Gm} {A : Nat → Nat} {o : Nat} {cs : List String} {cv : Value → Int64} {x : Res × PV} {M M9 : Hp} {E : String} {f : Nat → Int64} {k : Int32} (h9 : BMu Γ A x M (.inr E) M9) (hoA : ∀ i, i < 315 → o ≠ A i) (ho : M o = some (.inl (Γ.2.1 1, 1, .inr (.inl f)))) (e : WEx cs 1 E k) : WMu Γ A o cs cv x M (rI k) M9 :=
  ⟨f, h9.2.1, (h9.2.2 o hoA).trans ho, fun q _ h2 => h9.2.2 q h2, Or.inr ⟨E, k, h9.1.symm, e, rfl⟩⟩
theorem WMuD.ok {Γ : Gm} {A : Nat → Nat} {o : Nat} {cs : List String} {x : Res × PV} {M M9 : Hp} {f' : Nat → UInt64} (h9 : BMu Γ A x M (.inl (some (.double (f' 0)))) M9) (hoA : ∀ i, i < 315 → o ≠ A i) : WMuD Γ A o cs x M (rI 0) (hup M9 o (.inl (Γ.2.1 5, 1, .inr (.inr (.inr (.inl f')))))) :=
  ⟨f', h9.2.1.off hoA, hup_s .., fun q h1 h2 => (hup_n h1).trans (h9.2.2 q h2), Or.inl ⟨_, h9.1.symm, rfl, rfl⟩⟩
theorem WMuD.exc {Γ : Gm} {A : Nat → Nat} {o : Nat} {cs : List String} {x : Res × PV} {M M9 : Hp} {E : String} {f : Nat → UInt64} {k : Int32} (h9 : BMu Γ A x M (.inr E) M9) (hoA : ∀ i, i < 315 → o ≠ A i) (ho : M o = some (.inl (Γ.2.1 5, 1, .inr (.inr (.inr (.inl f)))))) (e : WEx cs 1 E k) : WMuD Γ A o cs x M (rI k) M9 :=
  ⟨f, h9.2.1, (h9.2.2 o hoA).trans ho, fun q _ h2 => h9.2.2 q h2, Or.inr ⟨E, k, h9.1.symm, e, rfl⟩⟩
theorem WEx.hd {c : String} {cs : List String} {n : Nat} {k : Int32} (h : k = nI n) : WEx (c :: cs) n c k := Or.inl ⟨rfl, h⟩
theorem WEx.tl {c : String} {cs : List String} {n : Nat} {E : String} {k : Int32} (h : WEx cs (n + 1) E k) : WEx (c :: cs) n E k := Or.inr h
theorem vin01 : vp_in 0 1 := vp_in_nI (n := 0) (by decide) (by decide)
theorem nc_eArg_eIdx : ((eArg, eIdx) : String × String) ∈ NCl := by decide +kernel
theorem nc_eSta_eArg : ((eSta, eArg) : String × String) ∈ NCl := by decide +kernel
theorem nc_eSta_eIdx : ((eSta, eIdx) : String × String) ∈ NCl := by decide +kernel
theorem nc_eUns_eSta : ((eUns, eSta) : String × String) ∈ NCl := by decide +kernel
theorem nc_eUns_eArg : ((eUns, eArg) : String × String) ∈ NCl := by decide +kernel
theorem nc_eUns_eIdx : ((eUns, eIdx) : String × String) ∈ NCl := by decide +kernel
theorem nc_eEle_eSta : ((eEle, eSta) : String × String) ∈ NCl := by decide +kernel
theorem nc_eEle_eIdx : ((eEle, eIdx) : String × String) ∈ NCl := by decide +kernel
theorem nc_eUns_eEle : ((eUns, eEle) : String × String) ∈ NCl := by decide +kernel
theorem nc_eAri_eIdx : ((eAri, eIdx) : String × String) ∈ NCl := by decide +kernel
