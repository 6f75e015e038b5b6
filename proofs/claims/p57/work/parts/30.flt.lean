/-! ===== floats ===== -/
section FLW
variable {p : Program} {l : Launch} {e : Env} {R : Room} {s : State} {m : MethodId} {args : Array Value} {below : List Frame} {meth : Method} {c : Code} {T : State} {locs : List Loc} {cells slots : Nat}
theorem fl_ldcw (X : Stand p l e R s m args below meth c T locs cells slots) (hexec : p.tables.exec = Jvm.exec) {own : String} {index : Nat} {v : UInt32} (hown : s.vm.findClass own = some m.cls)
    (hconst : (Cond.constantFloat own index v).before args s = true) {g : JFrame} (hg : g.method = m) (hdg : decode c.code g.pc = .ok (.ldc_w index, 3)) :
    ∀ target, Steps p.tables e below (T.setTop { g with pc := g.pc + 3, stack := .float v :: g.stack }) target → Steps p.tables e below (T.setTop g) target := by
  obtain ⟨k, cf, hk, hcf, hcp⟩ := Cond.constantFloat_spec hown hconst
  obtain ⟨k', hk', he⟩ := X.warmed.alike.2.2 _ _ hk
  intro target hrest
  subst hg
  jvm_step X.here [hexec, hdg, Jvm.Op.ldc_w.wp_float (s := T) (f := g) X.here.top hk' (by rw [he]; exact hcf) hcp]
  exact hrest
end FLW
section GF
variable {κ : KT} {own : String} {cc : ByteArray} {rt : Option FieldType} {tab : List ExceptionTableEntry} {nm : String} {M : Hp} {cells slots pc : Nat} {L : List (Nat × Value)} {rest : List Value}
theorem g_ldcwf (X : Cx κ own cc rt tab nm) {idx : Nat} {v : UInt32} (d : decode cc pc = .ok (.ldc_w idx, 3)) (h : Cond.constantFloat own idx v ∈ TG) (k9 : G κ M cells slots L (pc + 3) (.float v :: rest)) : G κ M cells slots L pc rest := fun H locs ls hI hl => by
  intro T hT XX
  obtain ⟨t, a, b⟩ := k9 H locs ls hI hl T hT XX
  exact ⟨t, fl_ldcw XX X.1 X.2.2.2.2.2.1 (X.2.2.2.2.2.2.1 _ h) (g := F0 κ.m pc ls rest) rfl (by rw [X.2.1]; exact d) t a, b⟩
theorem g_fconst1 (X : Cx κ own cc rt tab nm) (d : decode cc pc = .ok (.fconst 1, 1)) (k9 : G κ M cells slots L (pc + 1) (.float FP.fconst1 :: rest)) : G κ M cells slots L pc rest := fun H locs ls hI hl => lv_fconst1 X.1 X.2.1 d (k9 H locs ls hI hl)
theorem g_fconst2 (X : Cx κ own cc rt tab nm) (d : decode cc pc = .ok (.fconst 2, 1)) (k9 : G κ M cells slots L (pc + 1) (.float FP.fconst2 :: rest)) : G κ M cells slots L pc rest := fun H locs ls hI hl => lv_fconst2 X.1 X.2.1 d (k9 H locs ls hI hl)
theorem g_fmul (X : Cx κ own cc rt tab nm) {x y : UInt32} (d : decode cc pc = .ok (.fmul, 1)) (hne : vf_n32 (FP.fmul x y)) (k9 : G κ M cells slots L (pc + 1) (.float (FP.fmul x y) :: rest)) : G κ M cells slots L pc (.float y :: .float x :: rest) := fun H locs ls hI hl => lv_fmul X.1 X.2.1 d hne (k9 H locs ls hI hl)
theorem g_fdiv (X : Cx κ own cc rt tab nm) {x y : UInt32} (d : decode cc pc = .ok (.fdiv, 1)) (hne : vf_n32 (FP.fdiv x y)) (k9 : G κ M cells slots L (pc + 1) (.float (FP.fdiv x y) :: rest)) : G κ M cells slots L pc (.float y :: .float x :: rest) := fun H locs ls hI hl => lv_fdiv X.1 X.2.1 d hne (k9 H locs ls hI hl)
theorem g_ddiv (X : Cx κ own cc rt tab nm) {x y : UInt64} (d : decode cc pc = .ok (.ddiv, 1)) (hne : vf_n64 (FP.ddiv x y)) (k9 : G κ M cells slots L (pc + 1) (.double (FP.ddiv x y) :: rest)) : G κ M cells slots L pc (.double y :: .double x :: rest) := fun H locs ls hI hl => lv_ddiv X.1 X.2.1 d hne (k9 H locs ls hI hl)
theorem g_fcmp (X : Cx κ own cc rt tab nm) {x y : UInt32} {op : CmpOp} (d : decode cc pc = .ok (.fcmp op, 1)) (k9 : G κ M cells slots L (pc + 1) (.int (Op.cmpValue (FP.fcmp x y) op) :: rest)) : G κ M cells slots L pc (.float y :: .float x :: rest) := fun H locs ls hI hl => lv_fcmp X.1 X.2.1 d (k9 H locs ls hI hl)
theorem g_dcmp (X : Cx κ own cc rt tab nm) {x y : UInt64} {op : CmpOp} (d : decode cc pc = .ok (.dcmp op, 1)) (k9 : G κ M cells slots L (pc + 1) (.int (Op.cmpValue (FP.dcmp x y) op) :: rest)) : G κ M cells slots L pc (.double y :: .double x :: rest) := fun H locs ls hI hl => lv_dcmp X.1 X.2.1 d (k9 H locs ls hI hl)
end GF
/-- the loop that brings a share to its significand; whether it ends within its steps with numbers only -/
def bsL : Nat → UInt32 → Int32 → UInt32 × Int32
  | 0, s, e => (s, e)
  | k + 1, s, e => if 0 ≤ Op.cmpValue (FP.fcmp s FP.fconst1) .g then (s, e) else if e ≤ 1 then (s, e) else bsL k (FP.fmul s FP.fconst2) (e + (-1))
def bsT : Nat → UInt32 → Int32 → Bool
  | 0, _, _ => false
  | k + 1, s, e => if 0 ≤ Op.cmpValue (FP.fcmp s FP.fconst1) .g then decide (FP.fmul s 1258291200 &&& 0x7fffffff ≤ 0x7f800000) else if e ≤ 1 then false else decide (FP.fmul s FP.fconst2 &&& 0x7fffffff ≤ 0x7f800000) && bsT k (FP.fmul s FP.fconst2) (e + (-1))
def bsV (x : UInt32) : Int32 := if Op.cmpValue (FP.fcmp x 0) .g ≤ 0 then 0 else shl (bsL 9 x 127).2 23 ||| (FP.f2i (FP.fmul (bsL 9 x 127).1 1258291200) - 8388608)
def shA (a b : Nat) : UInt32 := FP.fdiv (FP.i2f (nI a)) (FP.i2f (nI b))
def shK (a b : Nat) : Bool := decide (shA a b &&& 0x7fffffff ≤ 0x7f800000) && bsT 9 (shA a b) 127 && decide (bsV (shA a b) = (shA a b).toInt32)
