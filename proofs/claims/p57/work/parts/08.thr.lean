theorem kMath : Cond.initialized "java/lang/Math" ∈ TG := k17
theorem kMax1 : Cond.static Lib.Math.max.name ∈ TG := kw (15 + 882) (by decide +kernel) (by decide +kernel)
theorem kMax2 : Cond.code Lib.Math.max.name Lib.Math.max.code 2 (some .int) ∈ TG := kw (15 + 883) (by decide +kernel) (by decide +kernel)
theorem kMin1 : Cond.static Lib.Math.min.name ∈ TG := kw (15 + 395) (by decide +kernel) (by decide +kernel)
theorem kMin2 : Cond.code Lib.Math.min.name Lib.Math.min.code 2 (some .int) ∈ TG := kw (15 + 396) (by decide +kernel) (by decide +kernel)
section GT
variable {κ : KT} {own : String} {cc : ByteArray} {rt : Option FieldType} {tab : List ExceptionTableEntry} {nm : String} {M : Hp} {cells slots pc : Nat} {L L' : List (Nat × Value)} {rest : List Value}
def exN : List String := ["java/lang/RuntimeException", "java/lang/Exception"]
def thrOK (own : String) (ik ic : Nat) (cls : String) : Bool :=
  Bundle.fit cls && exN.all Bundle.fit && (Cond.classLink own ik cls :: Cond.initialized cls :: vx_at0 own ic cls exN).all (fun w => decide (w ∈ lw_tbl) && (goodWord w || ngk w) && vx_ot w)
theorem lists_w (X : Cx κ own cc rt tab nm) {w : Cond} (h1 : w ∈ lw_tbl) (h2 : (goodWord w || ngk w) = true) : w.before κ.args κ.s = true := by
  rw [Bool.or_eq_true] at h2
  rcases h2 with h2 | h2
  · exact X.2.2.2.2.2.2.1 w (List.mem_filter.mpr ⟨h1, h2⟩)
  · have h3 : w ∈ NG := List.mem_filter.mpr ⟨h1, h2⟩
    have h4 := X.2.2.2.2.2.2.2.1.2.2.2.1 w h3
    have h5 : w.onTables = true := by cases w <;> first | rfl | (simp [ngk] at h2; done)
    exact va_Nw.use h5 h4
theorem g_throw (X : Cx κ own cc rt [] nm) {M0 : Hp} {mc ms : Nat} {post : Res → Hp → Prop} (F : Fn κ M0 mc ms post) {ik ic : Nat} {cls : String} (d0 : decode cc pc = .ok (.new ik, 3)) (d3 : decode cc (pc + 3) = .ok (.dup, 1)) (d4 : decode cc (pc + 4) = .ok (.invokespecial ic, 3)) (d7 : decode cc (pc + 7) = .ok (.athrow, 1))
    (hw : thrOK own ik ic cls = true) (hRf : 6 ≤ κ.R.frames) (hRl : (rest.map fun v => v.category).sum + 81 ≤ κ.R.locals) (hRc : mc ≤ κ.R.cells) (hRs : ms ≤ κ.R.slots) (hc : cells + 1 ≤ mc) (hs : slots + 6 ≤ ms) (hp : post (.inr cls) M) : G κ M cells slots L pc rest := by
  intro H locs ls hI hl0
  unfold thrOK at hw
  simp only [Bool.and_eq_true] at hw
  obtain ⟨⟨w1, w2⟩, w3⟩ := hw
  have w4 := List.all_eq_true.mp w3
  have hall : ∀ w ∈ Cond.classLink own ik cls :: Cond.initialized cls :: vx_at0 own ic cls exN, w.before κ.args κ.s = true ∧ vx_ot w = true := fun w hw => by
    have h := w4 w hw
    rw [Bool.and_eq_true, Bool.and_eq_true, decide_eq_true_eq] at h
    exact ⟨lists_w X h.1.1 h.1.2, h.2⟩
  have hE := X.2.2.2.2.2.2.2.1
  unfold Wk
  rw [F.2]
  refine vx_throw0 (names := exN) X.1 X.2.1 X.2.2.2.2.2.2.2.2.2.1 X.2.2.2.2.2.1 w1 (List.all_eq_true.mp w2) (hall _ List.mem_cons_self).1 (hall _ (List.mem_cons_of_mem _ List.mem_cons_self)).1 (fun w hw => (hall w (List.mem_cons_of_mem _ (List.mem_cons_of_mem _ hw))).1) (fun w hw => (hall w hw).2) hE.2.1 hE.2.2.1 hI.2.2 (hl0.1.trans X.2.2.1.symm) d0 d3 d4 d7 (fun x hx => by rw [X.2.2.2.2.2.2.2.2.2.2.1] at hx; cases hx) (by show 2 + 3 < _; omega) (by show _ + (13 * (2 + 1) + 42) ≤ _; omega) (by omega) (by omega) X.2.2.2.2.1 (fun t hvm h1 h2 => ?_) hI.2.2.2.2 hc hs
  refine ⟨M, hp, hI.1.kept (fun q e hq => h2 q (hI.1.lt hq)), fun q e hq => F.1 ▸ hI.2.1 q e hq, Nat.le_trans hI.2.2.1 h1, fun q g1 g2 => ?_⟩
  rw [h2 q (Nat.lt_of_lt_of_le g1 hI.2.2.1)]
  exact hI.2.2.2.1 q g1 (by rw [F.1]; exact g2)
theorem gx_out (X : Cx κ own cc rt [] nm) {M0 : Hp} {mc ms : Nat} {post : Res → Hp → Prop} (F : Fn κ M0 mc ms post) {E : String} (hc : cells ≤ mc) (hs : slots ≤ ms) (hp : post (.inr E) M) : GX κ M cells slots L pc rest E := by
  intro H locs ls q ce hI hl0 h1 h2 h3
  rw [F.2]
  refine vx_out (fun x hx => by rw [X.2.2.2.2.2.2.2.2.2.2.1] at hx; cases hx) X.2.2.2.2.1 h1 h2 h3 (fun t ht hvm => ?_) hI.2.2.2.2 hc hs
  obtain ⟨g1, g2, g3⟩ := hI
  rw [F.1] at g2 g3
  exact ⟨M, hp, by rw [ht]; exact g1, g2, g3.F ht⟩
theorem gx_catch (X : Cx κ own cc rt tab nm) {E name : String} (pre : List ExceptionTableEntry) (x : ExceptionTableEntry) (suf : List ExceptionTableEntry) (hsplit : tab = pre ++ x :: suf) (hpass : ∀ z ∈ pre, z.catchType ≠ 0 ∧ ∃ n9 : String, Cond.classLink own z.catchType n9 ∈ TG ∧ (E, n9) ∈ NCl) (hx : covers x pc = true) (h0 : x.catchType ≠ 0) (hlink : Cond.classLink own x.catchType name ∈ TG) (hcast : Cond.castable E name ∈ NG) (k9 : ∀ q, G κ M cells slots L x.handlerPc [.ref q]) : GX κ M cells slots L pc rest E := by
  intro H locs ls q ce hI hl0 h1 h2 h3
  have hE := X.2.2.2.2.2.2.2.1
  exact vx_catch X.2.2.2.2.2.1 pre x suf (X.2.2.2.2.2.2.2.2.2.2.1.trans hsplit) (fun z hz => by obtain ⟨a, n9, b, c⟩ := hpass z hz; exact Or.inr ⟨a, n9, X.2.2.2.2.2.2.1 _ b, hE.2.2.2.2.1 _ c⟩) hx h0 (X.2.2.2.2.2.2.1 _ hlink) (va_Nw.use rfl (hE.2.2.2.1 _ hcast)) h1 h2 h3 (k9 q H locs ls hI hl0)
/-! Math, arrays' copies -/
theorem g_max (X : Cx κ own cc rt tab nm) {idx : Nat} {x y : Int32} (d : decode cc pc = .ok (.invokestatic idx, 3)) (h1 : Cond.methodLink own idx Lib.Math.max.name ∈ TG) (hRf : 1 ≤ κ.R.frames) (hRl : (rest.map fun v => v.category).sum + 13 ≤ κ.R.locals) (hRc : cells ≤ κ.R.cells) (hRs : slots ≤ κ.R.slots) (k9 : G κ M cells slots L (pc + 3) (.int (if x < y then y else x) :: rest)) : G κ M cells slots L pc (.int y :: .int x :: rest) := by
  intro H locs ls hI hl0
  have hts := X.2.2.2.2.2.2.1
  exact va_mmax X.1 X.2.1 (X.2.2.1.trans hl0.1.symm) X.2.2.2.2.2.1 (hts _ h1) (hts _ kMax1) (hts _ kMath) (hts _ kMax2) hRf hRl hRc hRs d (k9 H locs ls hI hl0)
theorem g_min (X : Cx κ own cc rt tab nm) {idx : Nat} {x y : Int32} (d : decode cc pc = .ok (.invokestatic idx, 3)) (h1 : Cond.methodLink own idx Lib.Math.min.name ∈ TG) (hRf : 1 ≤ κ.R.frames) (hRl : (rest.map fun v => v.category).sum + 13 ≤ κ.R.locals) (hRc : cells ≤ κ.R.cells) (hRs : slots ≤ κ.R.slots) (k9 : G κ M cells slots L (pc + 3) (.int (if y < x then y else x) :: rest)) : G κ M cells slots L pc (.int y :: .int x :: rest) := by
  intro H locs ls hI hl0
  have hts := X.2.2.2.2.2.2.1
  exact va_mmin X.1 X.2.1 (X.2.2.1.trans hl0.1.symm) X.2.2.2.2.2.1 (hts _ h1) (hts _ kMin1) (hts _ kMath) (hts _ kMin2) hRf hRl hRc hRs d (k9 H locs ls hI hl0)
end GT
