theorem WEx.tl {c : String} {cs : List String} {n : Nat} {E : String} {k : Int32} (h : WEx cs (n + 1) E k) : WEx (c :: cs) n E k := Or.inr h
theorem vin01 : vp_in 0 1 := vp_in_nI (n := 0) (by decide) (by decide)
theorem WIn.dbl {cs : List String} {y : Res} {v : Option Value} (h : WIn cs isD y) (e : .inl v = y) : ∃ n : UInt64, v = some (.double n) := by
  obtain ⟨u, h1, n, rfl⟩ := h.val e; exact ⟨n, h1⟩
theorem WIn.ex {cs : List String} {P : Value → Prop} {y : Res} {E : String} (h : WIn cs P y) (e : .inr E = y) : ∃ k, WEx cs 1 E k := by
  rcases h with ⟨u, h1, h2⟩ | ⟨E', k, h1, h2⟩
  · have := e.trans h1; cases this
  · have := e.trans h1; cases this; exact ⟨k, h2⟩
/-! ===== the law's methods: rows ===== -/
/-- what a law's method answers and leaves: the class's object as w' says, nothing else of the heap written -/
abbrev LwP (Γ : Gm) (A : Nat → Nat) (M : Hp) (R : Option Value → PV → Prop) : Res → Hp → Prop := fun r M' => ∃ v w', r = .inl v ∧ R v w' ∧ BRep Γ A w' M' ∧ Fr A 315 M M'
def wI (d : Int32) : Res → Int32
  | .inl (some (.int n)) => n
  | _ => d
def wD (d : UInt64) : Res → UInt64
  | .inl (some (.double n)) => n
  | _ => d
def wP : Res → Int32
  | .inl _ => 1
  | .inr _ => 0
abbrev rD (v : UInt64) : Res := .inl (some (.double v))
theorem wI_ok {x : Res} {n d : Int32} (h : (.inl (some (.int n)) : Res) = x) : rI n = rI (wI d x) := by rw [← h]; rfl
theorem wI_ex {x : Res} {E : String} {d : Int32} (h : (.inr E : Res) = x) : rI d = rI (wI d x) := by rw [← h]; rfl
theorem wD_ok {x : Res} {n d : UInt64} (h : (.inl (some (.double n)) : Res) = x) : rD n = rD (wD d x) := by rw [← h]; rfl
theorem wD_ex {x : Res} {E : String} {d : UInt64} (h : (.inr E : Res) = x) : rD d = rD (wD d x) := by rw [← h]; rfl
theorem wP_ok {x : Res} {v : Option Value} (h : (.inl v : Res) = x) : rI 1 = rI (wP x) := by rw [← h]; rfl
theorem wP_ex {x : Res} {E : String} (h : (.inr E : Res) = x) : rI 0 = rI (wP x) := by rw [← h]; rfl
def isZ (v : Value) : Prop := v = .int 0 ∨ v = .int 1
theorem WIn.zo {cs : List String} {y : Res} {v : Option Value} (h : WIn cs isZ y) (e : .inl v = y) : v = some (.int 0) ∨ v = some (.int 1) := by
  obtain ⟨u, h1, rfl | rfl⟩ := h.val e
  · exact Or.inl h1
  · exact Or.inr h1
theorem pN {p : Prop} (h : p) : ¬ ¬ p := fun z => z h
section GLW
variable {κ : KT} {own : String} {cc : ByteArray} {rt : Option FieldType} {tab : List ExceptionTableEntry} {nm : String} {M M0 : Hp} {cells slots pc : Nat} {L L' : List (Nat × Value)} {rest : List Value}
theorem cx_txs (X : Cx κ own cc rt tab nm) : TXS κ.Γ κ.A κ.s κ.s.heap := X.2.2.2.2.2.2.2.1.2.2.2.2.2.2.2.2.1.2
abbrev scA (Γ : Gm) : Nat := Γ.2.2.2.2.1
abbrev scN (Γ : Gm) : Nat := Γ.2.2.2.2.2.1
theorem g_scrN (X : Cx κ own cc rt tab nm) (d : decode cc pc = .ok (.arraylength, 1)) (k9 : G κ M cells slots L (pc + 1) (.int (nI (scN κ.Γ)) :: rest)) : G κ M cells slots L pc (.ref (scA κ.Γ) :: rest) := fun H locs ls hI hl => va_tlen X.1 X.2.1 (cx_txs X).2.2.1 hI.2.2 rfl d (k9 H locs ls hI hl)
theorem g_scrX (X : Cx κ own cc rt tab nm) {i : Int32} (d : decode cc pc = .ok (.iaload, 1)) (hi : vp_in i (scN κ.Γ)) (k9 : ∀ v, G κ M cells slots L (pc + 1) (.int v :: rest)) : G κ M cells slots L pc (.int i :: .ref (scA κ.Γ) :: rest) := fun H locs ls hI hl => va_ti X.1 X.2.1 (cx_txs X).2.2.1 hI.2.2 hi rfl d (k9 _ H locs ls hI hl)
theorem g_txs (X : Cx κ own cc rt tab nm) {idx : Nat} (d : decode cc pc = .ok (.getstatic idx, 3)) (h : Cond.fieldLink own idx "BellParliamentLaw" "TEXTS" "[Ljava/lang/String;" ∈ TG) (k9 : G κ M cells slots L (pc + 3) (.ref (sK κ.Γ 44) :: rest)) : G κ M cells slots L pc rest := fun H locs ls hI hl => va_gets X.1 X.2.1 (cx_txs X).1 hI.2.2 X.2.2.2.2.2.1 (X.2.2.2.2.2.2.1 _ h) (fun _ h => h) d (k9 H locs ls hI hl)
theorem g_txlen (X : Cx κ own cc rt tab nm) (d : decode cc pc = .ok (.arraylength, 1)) (k9 : G κ M cells slots L (pc + 1) (.int 31 :: rest)) : G κ M cells slots L pc (.ref (sK κ.Γ 44) :: rest) := fun H locs ls hI hl => va_tlen X.1 X.2.1 (cx_txs X).2.1 hI.2.2 rfl d (k9 H locs ls hI hl)
theorem g_txld (X : Cx κ own cc rt tab nm) {i : Int32} (d : decode cc pc = .ok (.aaload, 1)) (hi : vp_in i 31) (k9 : G κ M cells slots L (pc + 1) (.ref (sK κ.Γ (13 + cN i)) :: rest)) : G κ M cells slots L pc (.int i :: .ref (sK κ.Γ 44) :: rest) := fun H locs ls hI hl => vb_tq X.1 X.2.1 (cx_txs X).2.1 hI.2.2 hi rfl d (k9 H locs ls hI hl)
theorem g_lmul (X : Cx κ own cc rt tab nm) {x y : Int64} (d : decode cc pc = .ok (.lmul, 1)) (k9 : G κ M cells slots L (pc + 1) (.long (x * y) :: rest)) : G κ M cells slots L pc (.long y :: .long x :: rest) := fun H locs ls hI hl => lv_lmul X.1 X.2.1 d (k9 H locs ls hI hl)
theorem g_ldc2d (X : Cx κ own cc rt tab nm) {idx : Nat} {v : UInt64} (d : decode cc pc = .ok (.ldc2_w idx, 3)) (h : Cond.constantDouble own idx v ∈ TG) (k9 : G κ M cells slots L (pc + 3) (.double v :: rest)) : G κ M cells slots L pc rest := fun H locs ls hI hl => lv_ldc2d X.1 X.2.1 X.2.2.2.2.2.1 (X.2.2.2.2.2.2.1 _ h) d (k9 H locs ls hI hl)
/-- a heap that knows less -/
theorem g_drop {M' : Hp} (h : ∀ q e, M' q = some e → M q = some e) (k9 : G κ M' cells slots L pc rest) : G κ M cells slots L pc rest := fun H locs ls hI hl => k9 H locs ls ⟨fun q e he => hI.1 q e (h q e he), fun q e he => hI.2.1 q e (h q e he), hI.2.2⟩ hl
/-- a call of the class's method that answers v and leaves the object as w' says -/
theorem g_cV (X : Cx κ own cc rt tab nm) {y : MethodName} {bytes : ByteArray} {maxL idx k mc ms : Nat} {ret : Option FieldType} {As : List Value} {st0 : List Value} {A : Nat → Nat} {w w' : PV} {v : Value} (d : decode cc pc = .ok (.invokevirtual idx, 3)) (hC : Ct κ.l κ.Γ y bytes maxL ret k mc ms (.ref (A 313) :: As) M (BMu κ.Γ A (.inl (some v), w') M)) (hB : BRep κ.Γ A w M) (hF : Fr A 315 M0 M)
    (h1 : Cond.methodLink own idx y ∈ TG) (h2 : Cond.instanceMethod y ∈ TG) (h3 : Cond.selects RX3 y y ∈ TG) (h4 : Cond.initialized RX3 ∈ TG) (h5 : Cond.code y bytes maxL ret ∈ TG)
    (hd : y.cls = RX3 ∧ y.cls ≠ "java/lang/invoke/MethodHandle" ∧ y.cls ≠ "java/lang/invoke/VarHandle" ∧ (parseMethodDescriptor y.desc).map (fun d => d.parameters.length) = some As.length) (hst : st0 = As.reverse ++ .ref (A 313) :: rest) (hW : (rest.map fun v => v.category).sum ≤ 8) (hR : 12 + k + 1 ≤ κ.R.frames ∧ 8 + (maxL + 11) + (300 + 40 * k) ≤ κ.R.locals) (hf : cells + mc ≤ κ.R.cells ∧ slots + ms ≤ κ.R.slots)
    (kk : ∀ M', BRep κ.Γ A w' M' → Fr A 315 M0 M' → G κ M' (cells + mc) (slots + ms) L (pc + 3) (v :: rest)) : G κ M cells slots L pc st0 :=
  g_callV (ci := 3) X d hC h1 h2 h3 h4 h5 rfl (BRep.obj hB) hd hst hW hR hf (fun v9 M9 h9 => by obtain ⟨e9, b9, f9⟩ := h9; cases e9; exact kk M9 b9 (Fr.tr hF f9)) (fun E9 M9 h9 => by cases h9.1)
/-- a call of a law's method without handlers -/
theorem g_cS (X : Cx κ own cc rt tab nm) {y : MethodName} {bytes : ByteArray} {maxL idx k mc ms : Nat} {ret : Option FieldType} {As : List Value} {st0 : List Value} {A : Nat → Nat} {R : Option Value → PV → Prop} (d : decode cc pc = .ok (.invokestatic idx, 3)) (hC : Ct κ.l κ.Γ y bytes maxL ret k mc ms As M (LwP κ.Γ A M R)) (hF : Fr A 315 M0 M)
    (h1 : Cond.methodLink own idx y ∈ TG) (h2 : Cond.static y ∈ TG) (h4 : Cond.initialized y.cls ∈ TG) (h5 : Cond.code y bytes maxL ret ∈ TG)
    (hd : y.cls ≠ "java/lang/invoke/MethodHandle" ∧ y.cls ≠ "java/lang/invoke/VarHandle" ∧ (parseMethodDescriptor y.desc).map (fun d => d.parameters.length) = some As.length) (hst : st0 = As.reverse ++ rest) (hW : (rest.map fun v => v.category).sum ≤ 8) (hR : 12 + k + 1 ≤ κ.R.frames ∧ 8 + (maxL + 11) + (300 + 40 * k) ≤ κ.R.locals) (hf : cells + mc ≤ κ.R.cells ∧ slots + ms ≤ κ.R.slots)
    (kk : ∀ v w' M', R v w' → BRep κ.Γ A w' M' → Fr A 315 M0 M' → G κ M' (cells + mc) (slots + ms) L (pc + 3) (v.toList ++ rest)) : G κ M cells slots L pc st0 :=
  g_callS X d hC h1 h2 h4 h5 hd hst hW hR hf (fun v9 M9 h9 => by obtain ⟨v8, w8, e9, r9, b9, f9⟩ := h9; cases e9; exact kk _ w8 M9 r9 b9 (Fr.tr hF f9)) (fun E9 M9 h9 => by obtain ⟨v8, w8, e9, -⟩ := h9; cases e9)
/-- a call of a law's wrapper (with handlers) -/
theorem g_cW (X : Cx κ own cc rt tab nm) {y : MethodName} {bytes : ByteArray} {maxL idx k mc ms : Nat} {ret : Option FieldType} {hh : List (Nat × Nat × Nat × Nat)} {As : List Value} {st0 : List Value} {A : Nat → Nat} {w' : PV} {v : Value} (d : decode cc pc = .ok (.invokestatic idx, 3)) (hC : CtW κ.l κ.Γ y bytes maxL ret hh k mc ms As M (BMu κ.Γ A (.inl (some v), w') M)) (hF : Fr A 315 M0 M)
    (h1 : Cond.methodLink own idx y ∈ TG) (h2 : Cond.static y ∈ TG) (h4 : Cond.initialized y.cls ∈ TG) (h5 : Cond.codeWith y bytes maxL ret hh ∈ TG)
    (hd : y.cls ≠ "java/lang/invoke/MethodHandle" ∧ y.cls ≠ "java/lang/invoke/VarHandle" ∧ (parseMethodDescriptor y.desc).map (fun d => d.parameters.length) = some As.length) (hst : st0 = As.reverse ++ rest) (hW : (rest.map fun v => v.category).sum ≤ 8) (hR : 12 + k + 1 ≤ κ.R.frames ∧ 8 + (maxL + 11) + (300 + 40 * k) ≤ κ.R.locals) (hf : cells + mc ≤ κ.R.cells ∧ slots + ms ≤ κ.R.slots)
    (kk : ∀ M', BRep κ.Γ A w' M' → Fr A 315 M0 M' → G κ M' (cells + mc) (slots + ms) L (pc + 3) (v :: rest)) : G κ M cells slots L pc st0 :=
  g_callSX X d hC h1 h2 h4 h5 hd hst hW hR hf (fun v9 M9 h9 => by obtain ⟨e9, b9, f9⟩ := h9; cases e9; exact kk M9 b9 (Fr.tr hF f9)) (fun E9 M9 h9 => by cases h9.1)
theorem Ct.gy {l : Launch} {Γ : Gm} {y : MethodName} {cc : ByteArray} {maxL : Nat} {rt : Option FieldType} {k mc ms : Nat} {as : List Value} {M : Hp} {A : Nat → Nat} {ok : Prop} {e : String} {w : PV} {kr : Res × PV} (h : ok) (hC : Ct l Γ y cc maxL rt k mc ms as M (BMu Γ A (pG ok e w kr) M)) : Ct l Γ y cc maxL rt k mc ms as M (BMu Γ A kr M) := by
  rw [pG_y h] at hC; exact hC
end GLW
theorem irm_toInt {x y : Int32} (hx : 0 ≤ x.toInt) (hy : 0 < y.toInt) : (irm x y).toInt = x.toInt % y.toInt := by
  have h1 := Int32.toInt_lt x
  have h2 := Int32.toInt_lt y
  have hd : (x / y).toInt = x.toInt / y.toInt := by
    rw [Int32.toInt_div, Int.tdiv_eq_ediv_of_nonneg hx]
    have k1 : 0 ≤ x.toInt / y.toInt := Int.ediv_nonneg hx (by omega)
    have k2 : x.toInt / y.toInt ≤ x.toInt := Int.ediv_le_self _ hx
    exact Int.bmod_eq_of_le (by omega) (by omega)
  have hk := Int.emod_add_mul_ediv x.toInt y.toInt
  have k3 := Int.emod_nonneg x.toInt (b := y.toInt) (by omega)
  have k4 := Int.emod_lt_of_pos x.toInt hy
  have k5 : x.toInt / y.toInt * y.toInt = x.toInt - x.toInt % y.toInt := by
    have : y.toInt * (x.toInt / y.toInt) = x.toInt / y.toInt * y.toInt := Int.mul_comm _ _
    omega
  have hm : (x / y * y).toInt = x.toInt - x.toInt % y.toInt := by
    rw [Int32.toInt_mul, hd, k5]
    exact Int.bmod_eq_of_le (by omega) (by omega)
  show (x - x / y * y).toInt = _
  rw [Int32.toInt_sub, hm]
  have e : x.toInt - (x.toInt - x.toInt % y.toInt) = x.toInt % y.toInt := by omega
  rw [e]
  exact Int.bmod_eq_of_le (by omega) (by omega)
theorem irm_in {x : Int32} {n : Nat} (hx : 0 ≤ x.toInt) (h0 : 0 < n) (hn : n < 2 ^ 31) : vp_in (irm x (nI n)) n := by
  have e := irm_toInt (x := x) (y := nI n) hx (by rw [nI_toInt hn]; omega)
  rw [nI_toInt hn] at e
  rw [vp_in_iff, e]
  exact ⟨Int.emod_nonneg _ (by omega), Int.emod_lt_of_pos _ (by omega)⟩
theorem and16 (x : Int32) : 0 ≤ (x &&& 65535).toInt := by
  have e : (x &&& 65535).toInt = ((x.toBitVec &&& 65535#32).toNat : Int) := by
    show (x.toBitVec &&& 65535#32).toInt = _
    have h : (x.toBitVec &&& 65535#32).toNat ≤ 65535 := by rw [BitVec.toNat_and]; exact Nat.and_le_right
    exact BitVec.toInt_eq_toNat_of_lt (by omega)
  rw [e]
  omega
theorem nc_eArg_eIdx : ((eArg, eIdx) : String × String) ∈ NCl := by decide +kernel
theorem nc_eSta_eArg : ((eSta, eArg) : String × String) ∈ NCl := by decide +kernel
theorem nc_eSta_eIdx : ((eSta, eIdx) : String × String) ∈ NCl := by decide +kernel
theorem nc_eUns_eSta : ((eUns, eSta) : String × String) ∈ NCl := by decide +kernel
theorem nc_eUns_eArg : ((eUns, eArg) : String × String) ∈ NCl := by decide +kernel
theorem nc_eUns_eIdx : ((eUns, eIdx) : String × String) ∈ NCl := by decide +kernel
theorem nc_eEle_eSta : ((eEle, eSta) : String × String) ∈ NCl := by decide +kernel
theorem nc_eEle_eIdx : ((eEle, eIdx) : String × String) ∈ NCl := by decide +kernel
theorem nc_eUns_eEle : ((eUns, eEle) : String × String) ∈ NCl := by decide +kernel
theorem nc_eAri_eIdx : ((eAri, eIdx) : String × String) ∈ NCl := by decide +kernel
