/-! ===== regions: the cells at a 0, .. a (N-1), and what they hold ===== -/
def Rp (a : Nat → Nat) (N : Nat) (f : Nat → va_E) (M : Hp) : Prop := (∀ i, i < N → M (a i) = some (f i)) ∧ ∀ i j, i < N → j < N → a i = a j → i = j
def Fr (a : Nat → Nat) (N : Nat) (M M' : Hp) : Prop := ∀ q, (∀ i, i < N → q ≠ a i) → M' q = M q
theorem Fr.rf {a : Nat → Nat} {N : Nat} {M : Hp} : Fr a N M M := fun _ _ => rfl
theorem Fr.tr {a : Nat → Nat} {N : Nat} {M M1 M2 : Hp} (h : Fr a N M M1) (h2 : Fr a N M1 M2) : Fr a N M M2 := fun q hq => (h2 q hq).trans (h q hq)
theorem Fr.up {a : Nat → Nat} {N i : Nat} {M : Hp} {e : va_E} (hi : i < N) : Fr a N M (hup M (a i) e) := fun _ hq => hup_n (hq i hi)
theorem Rp.get {a : Nat → Nat} {N : Nat} {f : Nat → va_E} {M : Hp} (h : Rp a N f M) (i : Nat) (hi : i < N) {e : va_E} (he : f i = e) : M (a i) = some e := by rw [h.1 i hi, he]
theorem Rp.put {a : Nat → Nat} {N i : Nat} {f f' : Nat → va_E} {M : Hp} {e : va_E} (h : Rp a N f M) (hi : i < N) (he : f' i = e) (ho : ∀ j, j < N → j ≠ i → f' j = f j) : Rp a N f' (hup M (a i) e) := by
  refine ⟨fun j hj => ?_, h.2⟩
  by_cases hji : j = i
  · subst hji; rw [hup_s, he]
  · rw [hup_n (fun q => hji (h.2 j i hj hi q)), h.1 j hj, ho j hj hji]
theorem Rp.fr {a b : Nat → Nat} {N K : Nat} {f : Nat → va_E} {M M' : Hp} (h : Rp a N f M) (hF : Fr b K M M') (hd : ∀ i j, i < N → j < K → a i ≠ b j) : Rp a N f M' := ⟨fun i hi => by rw [hF (a i) (fun j hj => hd i j hi hj), h.1 i hi], h.2⟩
theorem lt_of_nge {i N : Nat} {x : Int32} (hN : nI N = x ∧ N < 2 ^ 31) (hi : i ≤ N) (c : ¬ x ≤ nI i) : i < N := by
  rcases Nat.lt_or_ge i N with h | h
  · exact h
  · exact absurd (by rw [← hN.1]; exact nI_le h (by omega)) c
theorem eq_of_ge {i N : Nat} {x : Int32} (hN : nI N = x ∧ N < 2 ^ 31) (hi : i ≤ N) (c : x ≤ nI i) : i = N := by
  rcases Nat.lt_or_ge i N with h | h
  · rw [← hN.1] at c; exact absurd c (nI_ge h hN.2)
  · omega
section GG
variable {κ : KT} {M : Hp} {cells slots pc : Nat} {L : List (Nat × Value)} {st : List Value}
theorem g_gen {P : Hp → Prop} (h : P M) (k : ∀ M', P M' → G κ M' cells slots L pc st) : G κ M cells slots L pc st := k M h
theorem g_eqL {L' : List (Nat × Value)} (h : L = L') (k : G κ M cells slots L' pc st) : G κ M cells slots L pc st := by subst h; exact k
theorem g_lit {x : Int32} (y : Int32) {rest : List Value} (h : x = y) (k : G κ M cells slots L pc (.int y :: rest)) : G κ M cells slots L pc (.int x :: rest) := h ▸ k
theorem g_topi {x : Int32} {rest : List Value} (k : ∀ y : Int32, y = x → G κ M cells slots L pc (.int y :: rest)) : G κ M cells slots L pc (.int x :: rest) := k x rfl
theorem g_topl {x : Int64} {rest : List Value} (k : ∀ y : Int64, y = x → G κ M cells slots L pc (.long y :: rest)) : G κ M cells slots L pc (.long x :: rest) := k x rfl
end GG
theorem cN_nI {n : Nat} (h : n < 2 ^ 31) : cN (nI n) = n := nI_clamp h
theorem vin_lit {x : Int32} {n : Nat} (h : ¬ (x < 0 ∨ n ≤ x.toNatClampNeg)) : vp_in x n := h
theorem vin_mono {x : Int32} {n N : Nat} (h : vp_in x n) (hn : n ≤ N) : vp_in x N := fun q => h (q.imp id (fun z => Nat.le_trans hn z))
theorem rb_lt12 {x : Int32} (h : vp_in x 8) : 12 + cN x < 28 := by have h1 : cN x < 8 := Nat.not_le.mp fun q => h (Or.inr q); omega
theorem rb_ne12 {x : Int32} (h : vp_in x 8) : 12 + cN x ≠ 0 ∧ 12 + cN x ≠ 9 ∧ 12 + cN x ≠ 10 ∧ 12 + cN x ≠ 11 := by omega
theorem rb_lt20 {x : Int32} (h : vp_in x 8) : 20 + cN x < 28 := by have h1 : cN x < 8 := Nat.not_le.mp fun q => h (Or.inr q); omega
theorem rb_ne20 {x : Int32} (h : vp_in x 8) : 20 + cN x ≠ 0 ∧ 20 + cN x ≠ 9 ∧ 20 + cN x ≠ 10 ∧ 20 + cN x ≠ 11 := by omega
theorem rf_if {x : Int32} {f : Nat → Nat} (h : cN x < 8) : va_rf (if cN x < 8 then some (f (cN x)) else none) = .ref (f (cN x)) := by rw [if_pos h]; rfl
section GQ
variable {κ : KT} {own : String} {cc : ByteArray} {rt : Option FieldType} {tab : List ExceptionTableEntry} {nm : String} {M : Hp} {cells slots pc : Nat} {L : List (Nat × Value)} {rest : List Value}
theorem g_iald (X : Cx κ own cc rt tab nm) {n a b : Nat} {f : Nat → Int32} (d : decode cc pc = .ok (.iaload, 1)) (hq : M a = some (.inl (κ.Γ.2.1 0, n, .inl f))) (hb : b < n) (hn : n < 2 ^ 31) (k9 : G κ M cells slots L (pc + 1) (.int (f b) :: rest)) : G κ M cells slots L pc (.int (nI b) :: .ref a :: rest) := g_iaload X d hq (vp_in_nI hb hn) (by rw [cN_nI (by omega)]; exact k9)
theorem g_iast (X : Cx κ own cc rt tab nm) {n a b : Nat} {f : Nat → Int32} {x : Int32} (d : decode cc pc = .ok (.iastore, 1)) (hq : M a = some (.inl (κ.Γ.2.1 0, n, .inl f))) (hb : b < n) (hn : n < 2 ^ 31) (k9 : G κ (hup M a (.inl (κ.Γ.2.1 0, n, .inl (upd f b x)))) cells slots L (pc + 1) rest) : G κ M cells slots L pc (.int x :: .int (nI b) :: .ref a :: rest) := g_iastore X d hq (vp_in_nI hb hn) (by rw [cN_nI (by omega)]; exact k9)
/-- a call that reads alone -/
theorem g_callV_rd (X : Cx κ own cc rt tab nm) {y : MethodName} {bytes : ByteArray} {maxL idx k b ci : Nat} {C : String} {T : u_T} {N : Nat} {ret : Option FieldType} {As : List Value} {fs : List Value} {st0 : List Value} {v : Option Value} (d : decode cc pc = .ok (.invokevirtual idx, 3)) (hC : Ct κ.l κ.Γ y bytes maxL ret k 0 0 (.ref b :: As) M (fun r M' => r = .inl v ∧ M' = M))
    (h1 : Cond.methodLink own idx y ∈ TG) (h2 : Cond.instanceMethod y ∈ TG) (h3 : Cond.selects C y y ∈ TG) (h4 : Cond.initialized C ∈ TG) (h5 : Cond.code y bytes maxL ret ∈ TG) (hc : CL[ci]? = some (C, T, N)) (hb : M b = some (.inr (ci, fs)))
    (hd : y.cls = C ∧ y.cls ≠ "java/lang/invoke/MethodHandle" ∧ y.cls ≠ "java/lang/invoke/VarHandle" ∧ (parseMethodDescriptor y.desc).map (fun d => d.parameters.length) = some As.length) (hst : st0 = As.reverse ++ .ref b :: rest) (hW : (rest.map fun v => v.category).sum ≤ 8) (hR : 12 + k + 1 ≤ κ.R.frames ∧ 8 + (maxL + 11) + (300 + 40 * k) ≤ κ.R.locals) (hf : cells ≤ κ.R.cells ∧ slots ≤ κ.R.slots)
    (kk : G κ M cells slots L (pc + 3) (v.toList ++ rest)) : G κ M cells slots L pc st0 :=
  g_callV X d hC h1 h2 h3 h4 h5 hc hb hd hst hW hR hf (fun v' M' h => by obtain ⟨h1, rfl⟩ := h; cases h1; exact kk) (fun E M' h => by cases h.1)
theorem g_callS_rd (X : Cx κ own cc rt tab nm) {y : MethodName} {bytes : ByteArray} {maxL idx k : Nat} {ret : Option FieldType} {As : List Value} {st0 : List Value} {v : Option Value} (d : decode cc pc = .ok (.invokestatic idx, 3)) (hC : Ct κ.l κ.Γ y bytes maxL ret k 0 0 As M (fun r M' => r = .inl v ∧ M' = M))
    (h1 : Cond.methodLink own idx y ∈ TG) (h2 : Cond.static y ∈ TG) (h4 : Cond.initialized y.cls ∈ TG) (h5 : Cond.code y bytes maxL ret ∈ TG)
    (hd : y.cls ≠ "java/lang/invoke/MethodHandle" ∧ y.cls ≠ "java/lang/invoke/VarHandle" ∧ (parseMethodDescriptor y.desc).map (fun d => d.parameters.length) = some As.length) (hst : st0 = As.reverse ++ rest) (hW : (rest.map fun v => v.category).sum ≤ 8) (hR : 12 + k + 1 ≤ κ.R.frames ∧ 8 + (maxL + 11) + (300 + 40 * k) ≤ κ.R.locals) (hf : cells ≤ κ.R.cells ∧ slots ≤ κ.R.slots)
    (kk : G κ M cells slots L (pc + 3) (v.toList ++ rest)) : G κ M cells slots L pc st0 :=
  g_callS X d hC h1 h2 h4 h5 hd hst hW hR hf (fun v' M' h => by obtain ⟨h1, rfl⟩ := h; cases h1; exact kk) (fun E M' h => by cases h.1)
theorem g_callSN_rd (X : Cx κ own cc rt tab nm) {y : MethodName} {bytes : ByteArray} {maxL idx k : Nat} {host : String} {ret : Option FieldType} {As : List Value} {st0 : List Value} {v : Option Value} (d : decode cc pc = .ok (.invokestatic idx, 3)) (hC : Ct κ.l κ.Γ y bytes maxL ret k 0 0 As M (fun r M' => r = .inl v ∧ M' = M))
    (h1 : Cond.methodLinkNest own idx y host ∈ NG) (h2 : Cond.static y ∈ TG) (h4 : Cond.initialized y.cls ∈ TG) (h5 : Cond.code y bytes maxL ret ∈ TG)
    (hd : y.cls ≠ "java/lang/invoke/MethodHandle" ∧ y.cls ≠ "java/lang/invoke/VarHandle" ∧ (parseMethodDescriptor y.desc).map (fun d => d.parameters.length) = some As.length) (hst : st0 = As.reverse ++ rest) (hW : (rest.map fun v => v.category).sum ≤ 8) (hR : 12 + k + 1 ≤ κ.R.frames ∧ 8 + (maxL + 11) + (300 + 40 * k) ≤ κ.R.locals) (hf : cells ≤ κ.R.cells ∧ slots ≤ κ.R.slots)
    (kk : G κ M cells slots L (pc + 3) (v.toList ++ rest)) : G κ M cells slots L pc st0 := by
  intro H locs ls hI hl
  have hts := X.2.2.2.2.2.2.1
  have hG : GoodIn TG (Cond.code y bytes maxL ret :: TG) := by
    intro w hw
    have hm : w ∈ TG := by
      rcases List.mem_cons.mp hw with rfl | hw <;> assumption
    exact tg_in w hm
  have hrun : vx_Run κ.p κ.l κ.e κ.R κ.s κ.m κ.args κ.below κ.meth κ.c H locs cells slots 0 0 (F0 κ.m pc ls st0) rest (PostR κ.Γ M H.size (fun r M' => r = .inl v ∧ M' = M) As.toArray) (PostX κ.Γ M H.size (fun r M' => r = .inl v ∧ M' = M)) (Af M H.size) := vx_runSN (As := As) (rest := rest) (g := F0 κ.m pc ls st0) (nL := κ.nL) (cells := cells) (slots := slots) (H := H) (locs := locs) ⟨X.1, X.2.1, X.2.2.1, X.2.2.2.2.2.1, hts⟩ (hC H.size) ⟨va_cnB As.length hts hG rfl rfl rfl (X.2.2.2.2.2.2.2.1.2.2.2.1 _ h1) (hts _ h4) hd hR, hts _ h2, trivial⟩
    ⟨pre_blind _ _ _ _, fun U hU hW => ⟨rfl, by rw [hU], by rw [hU]; exact hI.1, en_callee X hI hU hW⟩⟩ rfl rfl hl.1 hst (lv_room hW) d hf
  exact g_back (y := y) X hI hl hrun (fun v' M' h => by obtain ⟨h1, rfl⟩ := h; cases h1; exact kk) (fun E M' h => by cases h.1)
end GQ
/-- what a region's cells stand for: scalars; rows of ints; one row of longs -/
abbrev HV : Type := (Nat → Int32) × (Nat → Nat → Int32) × (Nat → Int64)
def hsc (u : HV) (s : Nat) (v : Int32) : HV := (va_up u.1 s v, u.2)
def har (u : HV) (i : Nat) (g : Nat → Int32) : HV := (u.1, va_up u.2.1 i g, u.2.2)
def hcl (u : HV) (g : Nat → Int64) : HV := (u.1, u.2.1, g)
def hset (u : HV) (i j : Nat) (v : Int32) : HV := har u i (upd (u.2.1 i) j v)
theorem hsc_s (u : HV) (s : Nat) (v : Int32) : (hsc u s v).1 s = v := if_pos rfl
theorem hsc_n {u : HV} {s t : Nat} {v : Int32} (h : t ≠ s) : (hsc u s v).1 t = u.1 t := if_neg h
theorem har_s (u : HV) (i : Nat) (g : Nat → Int32) : (har u i g).2.1 i = g := if_pos rfl
theorem har_n {u : HV} {i j : Nat} {g : Nat → Int32} (h : j ≠ i) : (har u i g).2.1 j = u.2.1 j := if_neg h
/-! the House: scalars 0 members, 1 present, 2 quorumSize, 3 bills, 4 accepted; rows 1 wards, 2 weights, 3 statuses, 4 readingCounts, 5 delays, 6 votersFor, 7 votersAgainst, 8 pendings, 12 + b amendments, 20 + b supporters; longs: clauseSets -/
def hlen (i : Nat) : Nat := if i < 3 then 24 else if i < 12 then 8 else 4
def HF (a : Nat → Nat) (u : HV) : List Value := [.int (u.1 0), .ref (a 1), .ref (a 2), .int (u.1 1), .int (u.1 2), .int (u.1 3), .ref (a 3), .ref (a 4), .ref (a 9), .ref (a 5), .ref (a 6), .ref (a 7), .ref (a 8), .ref (a 10), .ref (a 11), .int (u.1 4)]
def HC (Γ : Gm) (a : Nat → Nat) (u : HV) (i : Nat) : va_E :=
  if i = 0 then .inr (1, HF a u)
  else if i = 9 then .inl (Γ.2.1 1, 8, .inr (.inl u.2.2))
  else if i = 10 then .inl (Γ.2.1 3, 8, .inr (.inr (.inr (.inr (fun b => if b < 8 then some (a (12 + b)) else none)))))
  else if i = 11 then .inl (Γ.2.1 3, 8, .inr (.inr (.inr (.inr (fun b => if b < 8 then some (a (20 + b)) else none)))))
  else .inl (Γ.2.1 0, hlen i, .inl (u.2.1 i))
def HRep (Γ : Gm) (a : Nat → Nat) (u : HV) (M : Hp) : Prop := Rp a 28 (HC Γ a u) M
theorem rb_len12 (b : Nat) : hlen (12 + b) = 4 := by unfold hlen; rw [if_neg (by omega), if_neg (by omega)]
theorem rb_len20 (b : Nat) : hlen (20 + b) = 4 := by unfold hlen; rw [if_neg (by omega), if_neg (by omega)]
theorem HC_ar {Γ : Gm} {a : Nat → Nat} {u : HV} {i : Nat} (h : i ≠ 0 ∧ i ≠ 9 ∧ i ≠ 10 ∧ i ≠ 11) : HC Γ a u i = .inl (Γ.2.1 0, hlen i, .inl (u.2.1 i)) := by
  unfold HC
  rw [if_neg h.1, if_neg h.2.1, if_neg h.2.2.1, if_neg h.2.2.2]
theorem HRep.obj {Γ : Gm} {a : Nat → Nat} {u : HV} {M : Hp} (h : HRep Γ a u M) : M (a 0) = some (.inr (1, HF a u)) := Rp.get h 0 (by decide) rfl
theorem HRep.row {Γ : Gm} {a : Nat → Nat} {u : HV} {M : Hp} (h : HRep Γ a u M) (i : Nat) (hi : i < 28) (h9 : i ≠ 0 ∧ i ≠ 9 ∧ i ≠ 10 ∧ i ≠ 11) : M (a i) = some (.inl (Γ.2.1 0, hlen i, .inl (u.2.1 i))) := Rp.get h i hi (HC_ar h9)
theorem HRep.row12 {Γ : Gm} {a : Nat → Nat} {u : HV} {M : Hp} (h : HRep Γ a u M) {x : Int32} (hx : vp_in x 8) : M (a (12 + cN x)) = some (.inl (Γ.2.1 0, 4, .inl (u.2.1 (12 + cN x)))) := by rw [h.row (12 + cN x) (by have h1 : cN x < 8 := Nat.not_le.mp fun q => hx (Or.inr q); omega) (by omega), rb_len12]
theorem HRep.row20 {Γ : Gm} {a : Nat → Nat} {u : HV} {M : Hp} (h : HRep Γ a u M) {x : Int32} (hx : vp_in x 8) : M (a (20 + cN x)) = some (.inl (Γ.2.1 0, 4, .inl (u.2.1 (20 + cN x)))) := by rw [h.row (20 + cN x) (by have h1 : cN x < 8 := Nat.not_le.mp fun q => hx (Or.inr q); omega) (by omega), rb_len20]
theorem HRep.longs {Γ : Gm} {a : Nat → Nat} {u : HV} {M : Hp} (h : HRep Γ a u M) : M (a 9) = some (.inl (Γ.2.1 1, 8, .inr (.inl u.2.2))) := Rp.get h 9 (by decide) rfl
theorem HRep.amd {Γ : Gm} {a : Nat → Nat} {u : HV} {M : Hp} (h : HRep Γ a u M) : M (a 10) = some (.inl (Γ.2.1 3, 8, .inr (.inr (.inr (.inr (fun b => if b < 8 then some (a (12 + b)) else none)))))) := Rp.get h 10 (by decide) rfl
theorem HRep.sup {Γ : Gm} {a : Nat → Nat} {u : HV} {M : Hp} (h : HRep Γ a u M) : M (a 11) = some (.inl (Γ.2.1 3, 8, .inr (.inr (.inr (.inr (fun b => if b < 8 then some (a (20 + b)) else none)))))) := Rp.get h 11 (by decide) rfl
theorem HRep.sc {Γ : Gm} {a : Nat → Nat} {u : HV} {M : Hp} (h : HRep Γ a u M) (s : Nat) (v : Int32) {fs : List Value} (hfs : HF a (hsc u s v) = fs) : HRep Γ a (hsc u s v) (hup M (a 0) (.inr (1, fs))) := by
  refine Rp.put h (by decide) (by rw [← hfs]; rfl) (fun j _ hj => ?_)
  unfold HC
  rw [if_neg hj, if_neg hj]
  rfl
theorem HRep.ar {Γ : Gm} {a : Nat → Nat} {u : HV} {M : Hp} (h : HRep Γ a u M) (i : Nat) (hi : i < 28) (h9 : i ≠ 0 ∧ i ≠ 9 ∧ i ≠ 10 ∧ i ≠ 11) (g : Nat → Int32) {n : Nat} (hn : hlen i = n) : HRep Γ a (har u i g) (hup M (a i) (.inl (Γ.2.1 0, n, .inl g))) := by
  refine Rp.put h hi (by rw [HC_ar h9, har_s, hn]) (fun j _ hj => ?_)
  unfold HC
  rw [har_n hj]
  rfl
theorem HRep.cl {Γ : Gm} {a : Nat → Nat} {u : HV} {M : Hp} (h : HRep Γ a u M) (g : Nat → Int64) : HRep Γ a (hcl u g) (hup M (a 9) (.inl (Γ.2.1 1, 8, .inr (.inl g)))) := by
  refine Rp.put h (by decide) rfl (fun j _ hj => ?_)
  unfold HC
  rw [if_neg hj, if_neg hj]
  rfl
theorem HRep.cong {Γ : Gm} {a : Nat → Nat} {u v : HV} {M : Hp} (h : HRep Γ a u M) (h1 : ∀ s, s < 5 → u.1 s = v.1 s) (h2 : ∀ i, i < 28 → i ≠ 0 ∧ i ≠ 9 ∧ i ≠ 10 ∧ i ≠ 11 → u.2.1 i = v.2.1 i) (h3 : u.2.2 = v.2.2) : HRep Γ a v M := by
  refine ⟨fun i hi => ?_, h.2⟩
  rw [h.1 i hi]
  congr 1
  unfold HC HF
  by_cases e0 : i = 0
  · rw [if_pos e0, if_pos e0, h1 0 (by decide), h1 1 (by decide), h1 2 (by decide), h1 3 (by decide), h1 4 (by decide)]
  by_cases e9 : i = 9
  · rw [if_neg e0, if_neg e0, if_pos e9, if_pos e9, h3]
  by_cases e10 : i = 10
  · rw [if_neg e0, if_neg e0, if_neg e9, if_neg e9, if_pos e10, if_pos e10]
  by_cases e11 : i = 11
  · rw [if_neg e0, if_neg e0, if_neg e9, if_neg e9, if_neg e10, if_neg e10, if_pos e11, if_pos e11]
  rw [if_neg e0, if_neg e0, if_neg e9, if_neg e9, if_neg e10, if_neg e10, if_neg e11, if_neg e11, h2 i hi ⟨e0, e9, e10, e11⟩]
/-! the reader of commands: scalars 0 length, 1 position, 2 keyword, 3 numbersRead; rows 1 signs (chars), 2 numbers -/
def TF (a : Nat → Nat) (u : HV) : List Value := [.ref (a 1), .int (u.1 0), .int (u.1 1), .int (u.1 2), .ref (a 2), .int (u.1 3)]
def TC (Γ : Gm) (a : Nat → Nat) (u : HV) (i : Nat) : va_E :=
  if i = 0 then .inr (0, TF a u) else if i = 1 then .inl (Γ.2.1 2, 60, .inl (u.2.1 1)) else .inl (Γ.2.1 0, 3, .inl (u.2.1 2))
def TRep (Γ : Gm) (a : Nat → Nat) (u : HV) (M : Hp) : Prop := Rp a 3 (TC Γ a u) M
theorem TRep.obj {Γ : Gm} {a : Nat → Nat} {u : HV} {M : Hp} (h : TRep Γ a u M) : M (a 0) = some (.inr (0, TF a u)) := Rp.get h 0 (by decide) rfl
theorem TRep.signs {Γ : Gm} {a : Nat → Nat} {u : HV} {M : Hp} (h : TRep Γ a u M) : M (a 1) = some (.inl (Γ.2.1 2, 60, .inl (u.2.1 1))) := Rp.get h 1 (by decide) rfl
theorem TRep.nums {Γ : Gm} {a : Nat → Nat} {u : HV} {M : Hp} (h : TRep Γ a u M) : M (a 2) = some (.inl (Γ.2.1 0, 3, .inl (u.2.1 2))) := Rp.get h 2 (by decide) rfl
theorem TRep.sc {Γ : Gm} {a : Nat → Nat} {u : HV} {M : Hp} (h : TRep Γ a u M) (s : Nat) (v : Int32) {fs : List Value} (hfs : TF a (hsc u s v) = fs) : TRep Γ a (hsc u s v) (hup M (a 0) (.inr (0, fs))) := by
  refine Rp.put h (by decide) (by rw [← hfs]; rfl) (fun j _ hj => ?_)
  unfold TC
  rw [if_neg hj, if_neg hj]
  rfl
theorem TRep.sg {Γ : Gm} {a : Nat → Nat} {u : HV} {M : Hp} (h : TRep Γ a u M) (g : Nat → Int32) : TRep Γ a (har u 1 g) (hup M (a 1) (.inl (Γ.2.1 2, 60, .inl g))) := by
  refine Rp.put h (by decide) rfl (fun j hj h1 => ?_)
  unfold TC
  rw [if_neg h1, if_neg h1]
  rfl
theorem TRep.nm {Γ : Gm} {a : Nat → Nat} {u : HV} {M : Hp} (h : TRep Γ a u M) (g : Nat → Int32) : TRep Γ a (har u 2 g) (hup M (a 2) (.inl (Γ.2.1 0, 3, .inl g))) := by
  refine Rp.put h (by decide) rfl (fun j hj h1 => ?_)
  have : j = 0 ∨ j = 1 := by omega
  rcases this with rfl | rfl <;> rfl
/-! the line: scalar 0 length; row 1 signs (chars) -/
def LF (a : Nat → Nat) (u : HV) : List Value := [.ref (a 1), .int (u.1 0)]
def LC (Γ : Gm) (a : Nat → Nat) (u : HV) (i : Nat) : va_E := if i = 0 then .inr (2, LF a u) else .inl (Γ.2.1 2, 24, .inl (u.2.1 1))
def LRep (Γ : Gm) (a : Nat → Nat) (u : HV) (M : Hp) : Prop := Rp a 2 (LC Γ a u) M
theorem LRep.obj {Γ : Gm} {a : Nat → Nat} {u : HV} {M : Hp} (h : LRep Γ a u M) : M (a 0) = some (.inr (2, LF a u)) := Rp.get h 0 (by decide) rfl
theorem LRep.signs {Γ : Gm} {a : Nat → Nat} {u : HV} {M : Hp} (h : LRep Γ a u M) : M (a 1) = some (.inl (Γ.2.1 2, 24, .inl (u.2.1 1))) := Rp.get h 1 (by decide) rfl
theorem LRep.sc {Γ : Gm} {a : Nat → Nat} {u : HV} {M : Hp} (h : LRep Γ a u M) (s : Nat) (v : Int32) {fs : List Value} (hfs : LF a (hsc u s v) = fs) : LRep Γ a (hsc u s v) (hup M (a 0) (.inr (2, fs))) := by
  refine Rp.put h (by decide) (by rw [← hfs]; rfl) (fun j _ hj => ?_)
  unfold LC
  rw [if_neg hj, if_neg hj]
  rfl
theorem LRep.sg {Γ : Gm} {a : Nat → Nat} {u : HV} {M : Hp} (h : LRep Γ a u M) (g : Nat → Int32) : LRep Γ a (har u 1 g) (hup M (a 1) (.inl (Γ.2.1 2, 24, .inl g))) := by
  refine Rp.put h (by decide) rfl (fun j hj h1 => ?_)
  have : j = 0 := by omega
  subst this
  rfl
/-! the reference: scalars 0 thrown, 1 kept, 2 isSaved, 3 isInText, 4 written, 5 length, 6 at, 7 error, 8 failed, 9 one, 10 two, 11 three, 12 isWrong, 13 command; rows 1 now, 2 saved, 3 before, 5 + k history, 13 line (chars), 14 text (chars) -/
def mlen (i : Nat) : Nat := if i < 13 then 181 else if i = 13 then 40 else 60
def mcls (i : Nat) : Nat := if i < 13 then 0 else 2
def MF (a : Nat → Nat) (u : HV) : List Value := [.int (u.1 0), .ref (a 1), .ref (a 2), .ref (a 3), .ref (a 4), .int (u.1 1), .int (u.1 2), .int (u.1 3), .ref (a 13), .int (u.1 4), .ref (a 14), .int (u.1 5), .int (u.1 6), .int (u.1 7), .int (u.1 8), .int (u.1 9), .int (u.1 10), .int (u.1 11), .int (u.1 12), .int (u.1 13)]
def MC (Γ : Gm) (a : Nat → Nat) (u : HV) (i : Nat) : va_E :=
  if i = 0 then .inr (4, MF a u)
  else if i = 4 then .inl (Γ.2.1 3, 8, .inr (.inr (.inr (.inr (fun b => if b < 8 then some (a (5 + b)) else none)))))
  else .inl (Γ.2.1 (mcls i), mlen i, .inl (u.2.1 i))
def MRep (Γ : Gm) (a : Nat → Nat) (u : HV) (M : Hp) : Prop := Rp a 15 (MC Γ a u) M
theorem MC_ar {Γ : Gm} {a : Nat → Nat} {u : HV} {i : Nat} (h : i ≠ 0 ∧ i ≠ 4) : MC Γ a u i = .inl (Γ.2.1 (mcls i), mlen i, .inl (u.2.1 i)) := by
  unfold MC
  rw [if_neg h.1, if_neg h.2]
theorem MRep.obj {Γ : Gm} {a : Nat → Nat} {u : HV} {M : Hp} (h : MRep Γ a u M) : M (a 0) = some (.inr (4, MF a u)) := Rp.get h 0 (by decide) rfl
theorem MRep.hist {Γ : Gm} {a : Nat → Nat} {u : HV} {M : Hp} (h : MRep Γ a u M) : M (a 4) = some (.inl (Γ.2.1 3, 8, .inr (.inr (.inr (.inr (fun b => if b < 8 then some (a (5 + b)) else none)))))) := Rp.get h 4 (by decide) rfl
theorem MRep.row {Γ : Gm} {a : Nat → Nat} {u : HV} {M : Hp} (h : MRep Γ a u M) (i : Nat) (hi : i < 13) (h9 : i ≠ 0 ∧ i ≠ 4) : M (a i) = some (.inl (Γ.2.1 0, 181, .inl (u.2.1 i))) := Rp.get h i (by omega) (by rw [MC_ar h9]; unfold mcls mlen; rw [if_pos hi, if_pos hi])
theorem MRep.line {Γ : Gm} {a : Nat → Nat} {u : HV} {M : Hp} (h : MRep Γ a u M) : M (a 13) = some (.inl (Γ.2.1 2, 40, .inl (u.2.1 13))) := Rp.get h 13 (by decide) rfl
theorem MRep.text {Γ : Gm} {a : Nat → Nat} {u : HV} {M : Hp} (h : MRep Γ a u M) : M (a 14) = some (.inl (Γ.2.1 2, 60, .inl (u.2.1 14))) := Rp.get h 14 (by decide) rfl
theorem MRep.sc {Γ : Gm} {a : Nat → Nat} {u : HV} {M : Hp} (h : MRep Γ a u M) (s : Nat) (v : Int32) {fs : List Value} (hfs : MF a (hsc u s v) = fs) : MRep Γ a (hsc u s v) (hup M (a 0) (.inr (4, fs))) := by
  refine Rp.put h (by decide) (by rw [← hfs]; rfl) (fun j _ hj => ?_)
  unfold MC
  rw [if_neg hj, if_neg hj]
  rfl
theorem MRep.ar {Γ : Gm} {a : Nat → Nat} {u : HV} {M : Hp} (h : MRep Γ a u M) (i : Nat) (hi : i < 15) (h9 : i ≠ 0 ∧ i ≠ 4) (g : Nat → Int32) {n t : Nat} (hn : mlen i = n) (ht : mcls i = t) : MRep Γ a (har u i g) (hup M (a i) (.inl (Γ.2.1 t, n, .inl g))) := by
  refine Rp.put h hi (by rw [MC_ar h9, har_s, hn, ht]) (fun j _ hj => ?_)
  unfold MC
  rw [har_n hj]
  rfl
abbrev Rd (v : Option Value) (M : Hp) : Res → Hp → Prop := fun r M' => r = .inl v ∧ M' = M
