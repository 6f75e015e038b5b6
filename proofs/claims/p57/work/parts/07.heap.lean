section GH
variable {κ : KT} {own : String} {cc : ByteArray} {rt : Option FieldType} {tab : List ExceptionTableEntry} {nm : String} {M : Hp} {cells slots pc : Nat} {L L' : List (Nat × Value)} {rest : List Value}
theorem Iv.en (X : Cx κ own cc rt tab nm) {H : Heap} {locs : List Loc} (hI : Iv κ M H locs) : En κ.Γ κ.A κ.s H := X.2.2.2.2.2.2.2.1.kept hI.2.2.2.1
theorem Iv.put {H H1 : Heap} {locs locs1 : List Loc} (hI : Iv κ M H locs) {q : Nat} {e : va_E} (hA : κ.A q) (hP : va_at κ.Γ.1 CL (q, e) H1) (oq : ∀ x : Nat, x ≠ q → H1[x]? = H[x]?) (hS : va_S κ.A κ.s.heap H1 locs1) : Iv κ (hup M q e) H1 locs1 := by
  refine ⟨hI.1.set hP oq, fun x e1 h1 => ?_, hS⟩
  by_cases hx : x = q
  · subst hx; exact hA
  · rw [hup_n hx] at h1; exact hI.2.1 x e1 h1
theorem cl_in {ci : Nat} {C : String} {T : u_T} {N : Nat} (h : CL[ci]? = some (C, T, N)) : ∀ w ∈ u_ws C T N, w ∈ TG := by
  match ci, h with
  | 0, h => cases h; exact inX0
  | 1, h => cases h; exact inX1
  | 2, h => cases h; exact inX2
  | 3, h => cases h; exact inX3
  | ci + 4, h => simp [CL] at h
theorem cl_ty {ci : Nat} {C : String} {T : u_T} {N : Nat} (h : CL[ci]? = some (C, T, N)) : ∃ ty : Nat → FieldType, ∀ k, k < N → parseFieldDescriptor (T k).2.2.1 = some (ty k) := by
  match ci, h with
  | 0, h => cases h; exact ⟨tyX0, tyX0_ok⟩
  | 1, h => cases h; exact ⟨tyX1, tyX1_ok⟩
  | 2, h => cases h; exact ⟨tyX2, tyX2_ok⟩
  | 3, h => cases h; exact ⟨tyX3, tyX3_ok⟩
  | ci + 4, h => simp [CL] at h
theorem cl_nm {ci : Nat} {C : String} {T : u_T} {N : Nat} (h : CL[ci]? = some (C, T, N)) : ∀ a, a < N → ∀ b, b < N → a ≠ b → (T a).2.1 ≠ (T b).2.1 := by
  match ci, h with
  | 0, h => cases h; exact nmX0
  | 1, h => cases h; exact nmX1
  | 2, h => cases h; exact nmX2
  | 3, h => cases h; exact nmX3
  | ci + 4, h => simp [CL] at h
/-- reading a field -/
theorem g_get (X : Cx κ own cc rt tab nm) {idx ci k q : Nat} {ref C : String} {T : u_T} {N : Nat} {fs : List Value} {v : Value} (d : decode cc pc = .ok (.getfield idx, 3)) (hc : CL[ci]? = some (C, T, N)) (hl : Cond.fieldLink own idx ref (T k).2.1 (T k).2.2.1 ∈ TG) (hk : k < N) (hr : (T k).1 = ref) (hq : M q = some (.inr (ci, fs))) (hv : fs[k]? = some v) (k9 : G κ M cells slots L (pc + 3) (v :: rest)) : G κ M cells slots L pc (.ref q :: rest) := by
  subst hr
  intro H locs ls hI hl0
  exact va_get (D := κ.Γ.1) (cl := CL) (tys := TYS κ.Γ) (ws := [(q, .inr (ci, fs))]) X.1 X.2.1 X.2.2.2.2.2.2.1 (cl_in hc) X.2.2.2.2.2.1 X.2.2.2.2.2.2.2.1.1 (hI.1.one hq) 0 rfl hc k hk (X.2.2.2.2.2.2.1 _ hl) (fun _ h => h) hv d (k9 H locs ls hI hl0)
/-- reading a nest mate's private field -/
theorem g_getN (X : Cx κ own cc rt tab nm) {idx ci k q : Nat} {ref C host : String} {T : u_T} {N : Nat} {fs : List Value} {v : Value} (d : decode cc pc = .ok (.getfield idx, 3)) (hc : CL[ci]? = some (C, T, N)) (hl : Cond.fieldLinkNest own idx ref (T k).2.1 (T k).2.2.1 host ∈ NG) (hk : k < N) (hr : (T k).1 = ref) (hq : M q = some (.inr (ci, fs))) (hv : fs[k]? = some v) (k9 : G κ M cells slots L (pc + 3) (v :: rest)) : G κ M cells slots L pc (.ref q :: rest) := by
  subst hr
  intro H locs ls hI hl0
  exact va_getN (D := κ.Γ.1) (cl := CL) (tys := TYS κ.Γ) (ws := [(q, .inr (ci, fs))]) X.1 X.2.1 X.2.2.2.2.2.2.1 (cl_in hc) X.2.2.2.2.2.1 X.2.2.2.2.2.2.2.1.1 (hI.1.one hq) 0 rfl hc k hk (va_Nw.use rfl (X.2.2.2.2.2.2.2.1.2.2.2.1 _ hl)) (fun _ h => h) hv d (k9 H locs ls hI hl0)
/-- where a cell was written: the new heap out of the kit's one-cell world and the frame that it doesn't tell -/
theorem g_put (X : Cx κ own cc rt tab nm) {idx ci k q : Nat} {ref C : String} {T : u_T} {N : Nat} {fs : List Value} {v : Value} {ty : FieldType} (d : decode cc pc = .ok (.putfield idx, 3)) (hc : CL[ci]? = some (C, T, N)) (hl : Cond.fieldLink own idx ref (T k).2.1 (T k).2.2.1 ∈ TG) (hk : k < N) (hr : (T k).1 = ref) (hfin : (T k).2.2.2 = false) (hd : parseFieldDescriptor (T k).2.2.1 = some ty) (hn : narrow ty v = v) (hfit : fits ty v = true) (hlen : k < fs.length) (hq : M q = some (.inr (ci, fs))) (k9 : G κ (hup M q (.inr (ci, fs.set k v))) cells slots L (pc + 3) rest) : G κ M cells slots L pc (v :: .ref q :: rest) := by
  subst hr
  obtain ⟨ty0, hty⟩ := cl_ty hc
  intro H locs ls hI hl0
  have hts := X.2.2.2.2.2.2.1
  have hin := cl_in hc
  have hK := X.2.2.2.2.2.2.2.1.1
  have hap := va_apart (own := own) hts hin ty0 hty (cl_nm hc) hK hc
  obtain ⟨r, h1, cell, q1, q2, q3, q4⟩ := hI.1 q _ hq
  have hr : r = (C, T, N) := Option.some.inj (h1.symm.trans hc)
  subst hr
  obtain ⟨hS, hfc, kC, hkC, hkind⟩ := hK.1 ci _ hc
  obtain ⟨cf, kf, fi, f, hi, hsl⟩ := hS k hk
  have hlay := hts _ (hin _ (u_in_lay hk))
  unfold u_lay at hlay
  rw [if_neg (by rw [hfin]; decide)] at hlay
  have hst := (u_facts hfc hkC (u_lays hts hin hk) hi).1
  have h6 := u_store hfc hkC hkind hlay hi hd hn hfit
  refine W.putK X.1 X.2.1 (f := f) ⟨X.2.2.2.2.2.1, hts _ hl, ⟨_, _, _, hi⟩, hst⟩ (by rw [q2]; exact h6) q1 q3 (by rw [hsl]; exact k2_hasslot (q4 k hk)) rfl rfl d fun H' e1 e2 e3 => ?_
  rw [hsl] at e1 ⊢
  have hA := hI.2.1 q _ hq
  exact k9 H' _ ls (hI.put hA ⟨_, hc, t_OB.to (V := updV (vp_V fs) k v) ⟨_, e1, q2, q3, t_set q4 hap hk v⟩ (fun j _ => vp_updV_set hlen v j)⟩ e3 (hI.2.2.put e2 e3 hA)) hl0
theorem g_putN (X : Cx κ own cc rt tab nm) {idx ci k q : Nat} {ref C host : String} {T : u_T} {N : Nat} {fs : List Value} {v : Value} {ty : FieldType} (d : decode cc pc = .ok (.putfield idx, 3)) (hc : CL[ci]? = some (C, T, N)) (hl : Cond.fieldLinkNest own idx ref (T k).2.1 (T k).2.2.1 host ∈ NG) (hk : k < N) (hr : (T k).1 = ref) (hfin : (T k).2.2.2 = false) (hd : parseFieldDescriptor (T k).2.2.1 = some ty) (hn : narrow ty v = v) (hfit : fits ty v = true) (hlen : k < fs.length) (hq : M q = some (.inr (ci, fs))) (k9 : G κ (hup M q (.inr (ci, fs.set k v))) cells slots L (pc + 3) rest) : G κ M cells slots L pc (v :: .ref q :: rest) := by
  subst hr
  obtain ⟨ty0, hty⟩ := cl_ty hc
  intro H locs ls hI hl0
  have hts := X.2.2.2.2.2.2.1
  have hin := cl_in hc
  have hK := X.2.2.2.2.2.2.2.1.1
  have hap := va_apart (own := own) hts hin ty0 hty (cl_nm hc) hK hc
  obtain ⟨r, h1, cell, q1, q2, q3, q4⟩ := hI.1 q _ hq
  have hr : r = (C, T, N) := Option.some.inj (h1.symm.trans hc)
  subst hr
  obtain ⟨hS, hfc, kC, hkC, hkind⟩ := hK.1 ci _ hc
  obtain ⟨cf, kf, fi, f, hi, hsl⟩ := hS k hk
  have hlay := hts _ (hin _ (u_in_lay hk))
  unfold u_lay at hlay
  rw [if_neg (by rw [hfin]; decide)] at hlay
  have hst := (u_facts hfc hkC (u_lays hts hin hk) hi).1
  have h6 := u_store hfc hkC hkind hlay hi hd hn hfit
  refine va_WputK X.1 X.2.1 (f := f) X.2.2.2.2.2.1 (va_Nw.use rfl (X.2.2.2.2.2.2.2.1.2.2.2.1 _ hl)) hi hst (by rw [q2]; exact h6) q1 q3 (by rw [hsl]; exact k2_hasslot (q4 k hk)) rfl rfl d fun H' e1 e2 e3 => ?_
  rw [hsl] at e1 ⊢
  have hA := hI.2.1 q _ hq
  exact k9 H' _ ls (hI.put hA ⟨_, hc, t_OB.to (V := updV (vp_V fs) k v) ⟨_, e1, q2, q3, t_set q4 hap hk v⟩ (fun j _ => vp_updV_set hlen v j)⟩ e3 (hI.2.2.put e2 e3 hA)) hl0
/-- a final field, in its constructor -/
theorem g_putF (X : Cx κ own cc rt tab nm) {idx ci k q : Nat} {ref C : String} {T : u_T} {N : Nat} {fs : List Value} {v : Value} {ty : FieldType} (d : decode cc pc = .ok (.putfield idx, 3)) (hc : CL[ci]? = some (C, T, N)) (hl : Cond.fieldLink own idx ref (T k).2.1 (T k).2.2.1 ∈ TG) (hk : k < N) (hr : (T k).1 = ref) (hfin : (T k).2.2.2 = true) (hi9 : nm = "<init>") (hdecl : (T k).1 = own) (hd : parseFieldDescriptor (T k).2.2.1 = some ty) (hn : narrow ty v = v) (hfit : fits ty v = true) (hlen : k < fs.length) (hq : M q = some (.inr (ci, fs))) (k9 : G κ (hup M q (.inr (ci, fs.set k v))) cells slots L (pc + 3) rest) : G κ M cells slots L pc (v :: .ref q :: rest) := by
  subst hr
  obtain ⟨ty0, hty⟩ := cl_ty hc
  intro H locs ls hI hl0
  have hts := X.2.2.2.2.2.2.1
  have hin := cl_in hc
  have hK := X.2.2.2.2.2.2.2.1.1
  have hown := X.2.2.2.2.2.1
  have hap := va_apart (own := own) hts hin ty0 hty (cl_nm hc) hK hc
  obtain ⟨r, h1, cell, q1, q2, q3, q4⟩ := hI.1 q _ hq
  have hr : r = (C, T, N) := Option.some.inj (h1.symm.trans hc)
  subst hr
  obtain ⟨hS, hfc, kC, hkC, hkind⟩ := hK.1 ci _ hc
  obtain ⟨cf, kf, fi, f, hi, hsl⟩ := hS k hk
  have hlay := hts _ (hin _ (u_in_lay hk))
  unfold u_lay at hlay
  rw [if_pos hfin] at hlay
  have hst := (u_facts hfc hkC (u_lays hts hin hk) hi).1
  have hcf : κ.m.cls = cf := by
    obtain ⟨_, _, c', _, _, _, -, -, hf', -, -, -, hown2, -⟩ := Cond.laysFinal_spec hlay
    have e1 : c' = cf := by have := hi.symm.trans hf'; simp at this; exact this.1.symm
    rw [hdecl] at hown2
    rw [← e1]; exact Option.some.inj (hown.symm.trans hown2)
  have h6 := u_fits hfc hkC hkind (Or.inr hlay) hi hd hn hfit
  refine W.putFinK X.1 X.2.1 hown (hts _ hl) hi hst hcf (X.2.2.2.2.2.2.2.2.2.2.2.trans hi9) (by rw [q2]; exact h6) q1 q3 (by rw [hsl]; exact k2_hasslot (q4 k hk)) rfl rfl d fun H' e1 e2 e3 => ?_
  rw [hsl] at e1 ⊢
  have hA := hI.2.1 q _ hq
  exact k9 H' _ ls (hI.put hA ⟨_, hc, t_OB.to (V := updV (vp_V fs) k v) ⟨_, e1, q2, q3, t_set q4 hap hk v⟩ (fun j _ => vp_updV_set hlen v j)⟩ e3 (hI.2.2.put e2 e3 hA)) hl0
/-! arrays -/
theorem g_aget {n : Nat} {a t0 : Nat} {f : Nat → Int32} {ty : FieldType} {i : Int32} (hK : En κ.Γ κ.A κ.s κ.s.heap) (hq : M a = some (.inl (κ.Γ.2.1 t0, n, .inl f))) (ht : (TYS κ.Γ)[t0]? = some (κ.Γ.2.1 t0, ty)) (hin : vp_in i n) {H : Heap} {locs : List Loc} (hI : Iv κ M H locs) : H[a]? = some (arrV (κ.Γ.2.1 t0) n (fun j => .int (f j))) ∧ κ.s.isArrayOf (arrV (κ.Γ.2.1 t0) n (fun j => .int (f j))) ty ∧ ¬ (i < 0 ∨ (arrV (κ.Γ.2.1 t0) n (fun j => Value.int (f j))).slots.size ≤ i.toNatClampNeg) ∧ (arrV (κ.Γ.2.1 t0) n (fun j => Value.int (f j))).slots[i.toNatClampNeg]? = some (.int (f i.toNatClampNeg)) := by
  have hlt : i.toNatClampNeg < n := Nat.not_le.mp fun q => hin (Or.inr q)
  exact ⟨hI.1 a _ hq, (hK.1.2 t0 _ ht).1 n (fun j => .int (f j)), by rw [arrV_size]; exact hin, by rw [arrV_read _ _ hlt]⟩
theorem g_iaload (X : Cx κ own cc rt tab nm) {n a : Nat} {f : Nat → Int32} {i : Int32} (d : decode cc pc = .ok (.iaload, 1)) (hq : M a = some (.inl (κ.Γ.2.1 0, n, .inl f))) (hin : vp_in i n) (k9 : G κ M cells slots L (pc + 1) (.int (f (cN i)) :: rest)) : G κ M cells slots L pc (.int i :: .ref a :: rest) := fun H locs ls hI hl0 =>
  va_iald (D := κ.Γ.1) (cl := CL) (tys := TYS κ.Γ) (ws := [(a, .inl (κ.Γ.2.1 0, n, .inl f))]) X.1 X.2.1 X.2.2.2.2.2.2.2.1.1 (hI.1.one hq) 0 0 rfl rfl hin d (k9 H locs ls hI hl0)
theorem g_caload (X : Cx κ own cc rt tab nm) {n a : Nat} {f : Nat → Int32} {i : Int32} (d : decode cc pc = .ok (.caload, 1)) (hq : M a = some (.inl (κ.Γ.2.1 2, n, .inl f))) (hin : vp_in i n) (k9 : G κ M cells slots L (pc + 1) (.int (f (cN i)) :: rest)) : G κ M cells slots L pc (.int i :: .ref a :: rest) := fun H locs ls hI hl0 =>
  va_cald (D := κ.Γ.1) (cl := CL) (tys := TYS κ.Γ) (ws := [(a, .inl (κ.Γ.2.1 2, n, .inl f))]) X.1 X.2.1 X.2.2.2.2.2.2.2.1.1 (hI.1.one hq) 0 2 rfl rfl hin d (k9 H locs ls hI hl0)
theorem g_laload (X : Cx κ own cc rt tab nm) {n a : Nat} {f : Nat → Int64} {i : Int32} (d : decode cc pc = .ok (.laload, 1)) (hq : M a = some (.inl (κ.Γ.2.1 1, n, .inr (.inl f)))) (hin : vp_in i n) (k9 : G κ M cells slots L (pc + 1) (.long (f (cN i)) :: rest)) : G κ M cells slots L pc (.int i :: .ref a :: rest) := fun H locs ls hI hl0 =>
  va_lald (D := κ.Γ.1) (cl := CL) (tys := TYS κ.Γ) (ws := [(a, .inl (κ.Γ.2.1 1, n, .inr (.inl f)))]) X.1 X.2.1 X.2.2.2.2.2.2.2.1.1 (hI.1.one hq) 0 1 rfl rfl hin d (k9 H locs ls hI hl0)
/-- an element of an array of rows of ints (3) or of Houses (4) -/
theorem g_aaload (X : Cx κ own cc rt tab nm) {n a t0 : Nat} {f : Nat → Option Nat} {ty : FieldType} {i : Int32} {v : Value} (d : decode cc pc = .ok (.aaload, 1)) (hq : M a = some (.inl (κ.Γ.2.1 t0, n, .inr (.inr (.inr (.inr f)))))) (ht : (TYS κ.Γ)[t0]? = some (κ.Γ.2.1 t0, ty)) (hty : ty.isReference = true) (hin : vp_in i n) (hv : va_rf (f (cN i)) = v) (k9 : G κ M cells slots L (pc + 1) (v :: rest)) : G κ M cells slots L pc (.int i :: .ref a :: rest) := by
  subst hv
  intro H locs ls hI hl0
  have hlt : i.toNatClampNeg < n := Nat.not_le.mp fun q => hin (Or.inr q)
  exact W.aald (v := va_rf (f i.toNatClampNeg)) (ty := ty) X.1 X.2.1 (hI.1 a _ hq) ((X.2.2.2.2.2.2.2.1.1.2 t0 _ ht).1 n (fun j => va_rf (f j))) hty (fun q => by cases q) (by show ¬ (i < 0 ∨ (arrV _ _ _).slots.size ≤ _); rw [arrV_size]; exact hin) (by show (arrV _ _ _).slots[_]? = _; rw [arrV_read _ _ hlt]) rfl rfl d (k9 H locs ls hI hl0)
theorem g_iastore (X : Cx κ own cc rt tab nm) {n a : Nat} {f : Nat → Int32} {i x : Int32} (d : decode cc pc = .ok (.iastore, 1)) (hq : M a = some (.inl (κ.Γ.2.1 0, n, .inl f))) (hin : vp_in i n) (k9 : G κ (hup M a (.inl (κ.Γ.2.1 0, n, .inl (upd f (cN i) x)))) cells slots L (pc + 1) rest) : G κ M cells slots L pc (.int x :: .int i :: .ref a :: rest) := by
  intro H locs ls hI hl0
  have hA := hI.2.1 a _ hq
  refine W.iast X.1 X.2.1 (hI.1 a _ hq) ((X.2.2.2.2.2.2.2.1.1.2 0 (κ.Γ.2.1 0, .int) rfl).1 n (fun j => .int (f j))) (fun q => by cases q) (by show ¬ (i < 0 ∨ (arrV _ _ _).slots.size ≤ _); rw [arrV_size]; exact hin) rfl rfl d fun H1 e z oq => ?_
  refine k9 H1 _ ls (hI.put hA ?_ oq (hI.2.2.put z oq hA)) hl0
  show H1[a]? = some (vp_cell _ _)
  rw [e]
  rw [vp_cell_i, vp_cell_i, arrV_store]
  congr 2
  funext q
  by_cases hq : q = i.toNatClampNeg
  · subst hq
    simp [updV, upd]
  · simp [updV, upd, hq]
theorem g_castore (X : Cx κ own cc rt tab nm) {n a : Nat} {f : Nat → Int32} {i x : Int32} (d : decode cc pc = .ok (.castore, 1)) (hq : M a = some (.inl (κ.Γ.2.1 2, n, .inl f))) (hin : vp_in i n) (hx : narrow .char (.int x) = .int x) (k9 : G κ (hup M a (.inl (κ.Γ.2.1 2, n, .inl (upd f (cN i) x)))) cells slots L (pc + 1) rest) : G κ M cells slots L pc (.int x :: .int i :: .ref a :: rest) := by
  intro H locs ls hI hl0
  have hA := hI.2.1 a _ hq
  refine W.cast X.1 X.2.1 (hI.1 a _ hq) ((X.2.2.2.2.2.2.2.1.1.2 2 (κ.Γ.2.1 2, .char) rfl).1 n (fun j => .int (f j))) (fun q => by cases q) (by show ¬ (i < 0 ∨ (arrV _ _ _).slots.size ≤ _); rw [arrV_size]; exact hin) rfl rfl d fun H1 e z oq => ?_
  refine k9 H1 _ ls (hI.put hA ?_ oq (hI.2.2.put z oq hA)) hl0
  show H1[a]? = some (vp_cell _ _)
  rw [e, hx]
  rw [vp_cell_i, vp_cell_i, arrV_store]
  congr 2
  funext q
  by_cases hq : q = i.toNatClampNeg
  · subst hq
    simp [updV, upd]
  · simp [updV, upd, hq]
theorem g_lastore (X : Cx κ own cc rt tab nm) {n a : Nat} {f : Nat → Int64} {i : Int32} {x : Int64} (d : decode cc pc = .ok (.lastore, 1)) (hq : M a = some (.inl (κ.Γ.2.1 1, n, .inr (.inl f)))) (hin : vp_in i n) (k9 : G κ (hup M a (.inl (κ.Γ.2.1 1, n, .inr (.inl (vp_updL f (cN i) x))))) cells slots L (pc + 1) rest) : G κ M cells slots L pc (.long x :: .int i :: .ref a :: rest) := by
  intro H locs ls hI hl0
  have hA := hI.2.1 a _ hq
  refine W.last X.1 X.2.1 (hI.1 a _ hq) ((X.2.2.2.2.2.2.2.1.1.2 1 (κ.Γ.2.1 1, .long) rfl).1 n (fun j => .long (f j))) (fun q => by cases q) (by show ¬ (i < 0 ∨ (arrV _ _ _).slots.size ≤ _); rw [arrV_size]; exact hin) rfl rfl d fun H1 e z oq => ?_
  refine k9 H1 _ ls (hI.put hA ?_ oq (hI.2.2.put z oq hA)) hl0
  show H1[a]? = some (vp_cell _ _)
  rw [e]
  rw [vp_cell_l, vp_cell_l, arrV_store]
  congr 2
  funext q
  by_cases hq : q = i.toNatClampNeg
  · subst hq
    simp [updV, vp_updL]
  · simp [updV, vp_updL, hq]
theorem g_alen (X : Cx κ own cc rt tab nm) {a t0 : Nat} {x : vp_A} {ty : FieldType} {v : Int32} (d : decode cc pc = .ok (.arraylength, 1)) (hq : M a = some (.inl (κ.Γ.2.1 t0, x))) (ht : (TYS κ.Γ)[t0]? = some (κ.Γ.2.1 t0, ty)) (hv : Int32.ofNat x.1 = v) (k9 : G κ M cells slots L (pc + 1) (.int v :: rest)) : G κ M cells slots L pc (.ref a :: rest) := fun H locs ls hI hl0 =>
  va_alen (D := κ.Γ.1) (cl := CL) (tys := TYS κ.Γ) (ws := [(a, .inl (κ.Γ.2.1 t0, x))]) X.1 X.2.1 X.2.2.2.2.2.2.2.1.1 (hI.1.one hq) 0 t0 rfl ht hv d (k9 H locs ls hI hl0)
/-! ends -/
theorem Fn.end_ {M0 : Hp} {mc ms : Nat} {post : Res → Hp → Prop} (F : Fn κ M0 mc ms post) {H : Heap} {locs : List Loc} (hI : Iv κ M H locs) {v : Option Value} (hp : post (.inl v) M) (t : State) (ht : t.heap = H) : PostR κ.Γ M0 κ.s.heap.size post κ.args κ.s (.returned v) t := by
  obtain ⟨h1, h2, h3⟩ := hI
  rw [F.1] at h2 h3
  exact ⟨v, M, rfl, hp, by rw [ht]; exact h1, h2, h3.F ht⟩
theorem g_iret (X : Cx κ own cc (some .int) tab nm) {M0 : Hp} {mc ms : Nat} {post : Res → Hp → Prop} (F : Fn κ M0 mc ms post) {v : Int32} (d : decode cc pc = .ok (.ireturn, 1)) (hc : cells ≤ mc) (hs : slots ≤ ms) (hp : post (.inl (some (.int v))) M) : G κ M cells slots L pc [.int v] := by
  intro H locs ls hI hl0
  unfold Wk
  rw [F.2]
  refine W.widen hc hs (vx_ret ?_)
  exact W.iret X.1 X.2.1 X.2.2.2.1 (fun t ht _ => F.end_ hI hp t ht) hI.2.2.2.2 d X.2.2.2.2.1
theorem g_zret {ty : FieldType} (X : Cx κ own cc (some ty) tab nm) {M0 : Hp} {mc ms : Nat} {post : Res → Hp → Prop} (F : Fn κ M0 mc ms post) {v : Int32} (d : decode cc pc = .ok (.ireturn, 1)) (hc : cells ≤ mc) (hs : slots ≤ ms) (hn : narrow ty (.int v) = .int v) (hp : post (.inl (some (.int v))) M) : G κ M cells slots L pc [.int v] := by
  intro H locs ls hI hl0
  unfold Wk
  rw [F.2]
  refine W.widen hc hs (vx_ret ?_)
  exact W.zret X.1 X.2.1 X.2.2.2.1 hn (fun t ht _ => F.end_ hI hp t ht) hI.2.2.2.2 d X.2.2.2.2.1
theorem g_lret (X : Cx κ own cc (some .long) tab nm) {M0 : Hp} {mc ms : Nat} {post : Res → Hp → Prop} (F : Fn κ M0 mc ms post) {v : Int64} (d : decode cc pc = .ok (.lreturn, 1)) (hc : cells ≤ mc) (hs : slots ≤ ms) (hp : post (.inl (some (.long v))) M) : G κ M cells slots L pc [.long v] := by
  intro H locs ls hI hl0
  unfold Wk
  rw [F.2]
  refine W.widen hc hs (vx_ret ?_)
  exact W.lret X.1 X.2.1 X.2.2.2.1 (fun t ht _ => F.end_ hI hp t ht) hI.2.2.2.2 d X.2.2.2.2.1
theorem g_dret (X : Cx κ own cc (some .double) tab nm) {M0 : Hp} {mc ms : Nat} {post : Res → Hp → Prop} (F : Fn κ M0 mc ms post) {v : UInt64} (d : decode cc pc = .ok (.dreturn, 1)) (hc : cells ≤ mc) (hs : slots ≤ ms) (hp : post (.inl (some (.double v))) M) : G κ M cells slots L pc [.double v] := by
  intro H locs ls hI hl0
  unfold Wk
  rw [F.2]
  refine W.widen hc hs (vx_ret ?_)
  exact W.dret X.1 X.2.1 X.2.2.2.1 (fun t ht _ => F.end_ hI hp t ht) hI.2.2.2.2 d X.2.2.2.2.1
theorem g_vret (X : Cx κ own cc none tab nm) {M0 : Hp} {mc ms : Nat} {post : Res → Hp → Prop} (F : Fn κ M0 mc ms post) (d : decode cc pc = .ok (.return_, 1)) (hc : cells ≤ mc) (hs : slots ≤ ms) (hp : post (.inl none) M) : G κ M cells slots L pc [] := by
  intro H locs ls hI hl0
  unfold Wk
  rw [F.2]
  refine W.widen hc hs (vx_ret ?_)
  exact W.vret X.1 X.2.1 X.2.2.2.1 (fun t ht _ => F.end_ hI hp t ht) hI.2.2.2.2 d X.2.2.2.2.1
theorem g_aret {cn : String} (X : Cx κ own cc (some (.object cn)) tab nm) {M0 : Hp} {mc ms : Nat} {post : Res → Hp → Prop} (F : Fn κ M0 mc ms post) {a : Nat} (d : decode cc pc = .ok (.areturn, 1)) (hc : cells ≤ mc) (hs : slots ≤ ms) (hp : post (.inl (some (.ref a))) M) : G κ M cells slots L pc [.ref a] := by
  intro H locs ls hI hl0
  unfold Wk
  rw [F.2]
  refine W.widen hc hs (vx_ret ?_)
  exact W.aret X.1 X.2.1 X.2.2.2.1 (Or.inl ⟨_, rfl⟩) (Or.inr ⟨_, rfl⟩) (fun t ht _ => F.end_ hI hp t ht) hI.2.2.2.2 d X.2.2.2.2.1
/-! calls: what comes back, and what is thrown -/
/-- thrown over the frame at pc: an object of class E -/
def GX (κ : KT) (M : Hp) (cells slots : Nat) (L : List (Nat × Value)) (pc : Nat) (rest : List Value) (E : String) : Prop :=
  ∀ (H : Heap) (locs : List Loc) (ls : Array Slot) (q : Nat) (ce : Cell), Iv κ M H locs → lv_has ls κ.nL L → H[q]? = some ce → ce.vm = .none → κ.s.vm.findClass E = some ce.cls → vx_W κ.p κ.l κ.e κ.R κ.s κ.m κ.args κ.below κ.meth κ.c H locs cells slots κ.Q (F0 κ.m pc ls rest) q
theorem pre_blind (Γ : Gm) (as : List Value) (M : Hp) (sz : Nat) : FrameBlind (PreC Γ as M sz) := fun a U g mk q => by
  obtain ⟨q0, q1, q2, q3⟩ := q
  exact ⟨q0, q1, q2, En.same (s := U) rfl q3⟩
theorem g_back {y : MethodName} {st0 : List Value} {as : List Value} {post : Res → Hp → Prop} {mc ms : Nat} {H : Heap} {locs : List Loc} {ls : Array Slot} (X : Cx κ own cc rt tab nm) (hI : Iv κ M H locs) (hl : lv_has ls κ.nL L)
    (hr : vx_Run κ.p κ.l κ.e κ.R κ.s κ.m κ.args κ.below κ.meth κ.c H locs cells slots mc ms (F0 κ.m pc ls st0) rest (PostR κ.Γ M H.size post as.toArray) (PostX κ.Γ M H.size post) (Af M H.size))
    (kk : ∀ v M', post (.inl v) M' → G κ M' (cells + mc) (slots + ms) L (pc + 3) (v.toList ++ rest)) (kx : ∀ E M', post (.inr E) M' → GX κ M' (cells + mc) (slots + ms) L pc rest E) : Wk κ H locs cells slots (F0 κ.m pc ls st0) := by
  have hA : ∀ q, Af M H.size q → κ.A q := fun q h => by
    rcases h with ⟨e, h⟩ | h
    · exact hI.2.1 q e h
    · exact X.2.2.2.2.2.2.2.2.1 q (Nat.le_trans hI.2.2.1 h)
  intro T hT X9
  have key : ∀ (t T' : State) (L9 : List Loc) (M' : Hp), HH κ.Γ M' t.heap → (∀ q e, M' q = some e → Af M H.size q) → T'.heap = t.heap → (∀ q ∈ L9, Af M H.size q.base) → H.size ≤ t.heap.size → (∀ q : Nat, q < H.size → ¬ Af M H.size q → t.heap[q]? = H[q]?) → Iv κ M' T'.heap (locs ++ L9) := by
    intro t T' L9 M' g1 g2 e1 g3 g4 g5
    refine ⟨by rw [e1]; exact g1, fun q e h => hA q (g2 q e h), Nat.le_trans hI.2.2.1 (by rw [e1]; exact g4), fun q h1 h2 => ?_, fun q hq => ?_⟩
    · rw [e1, g5 q (Nat.lt_of_lt_of_le h1 hI.2.2.1) (fun z => h2 (hA q z))]
      exact hI.2.2.2.1 q h1 h2
    · rcases List.mem_append.mp hq with h | h
      · exact hI.2.2.2.2 q h
      · exact hA _ (g3 q h)
  rcases hr T hT X9 with ⟨v, st₀, t, T', L9, h0, X', hL, e1, e2, ⟨v', M', hv, hp, hH, hdom, hF⟩, st⟩ | ⟨q, st₀, t, T', L9, E, ce, h0, X', hL, e1, e2, ⟨M', hp, hH, hdom, hF⟩, hce, hcv, hcl, st⟩
  · cases hv
    obtain ⟨f1, f2⟩ := hF
    rw [h0] at f1 f2
    obtain ⟨t2, a1, b1⟩ := kk v M' hp T'.heap (locs ++ L9) ls (key t T' L9 M' hH hdom e1 hL f1 f2) hl T' rfl X'
    exact ⟨t2, st t2 a1, b1⟩
  · obtain ⟨f1, f2⟩ := hF
    rw [h0] at f1 f2
    obtain ⟨t2, a1, b1⟩ := kx E M' hp T'.heap (locs ++ L9) ls q ce (key t T' L9 M' hH hdom e1 hL f1 f2) hl (by rw [e1]; exact hce) hcv hcl T' rfl X'
    exact ⟨t2, st.trans a1, b1⟩
theorem en_callee (X : Cx κ own cc rt tab nm) {H : Heap} {locs : List Loc} (hI : Iv κ M H locs) {U : State} (hU : U.heap = H) (hW : κ.s.WarmedH U.vm) : En κ.Γ (Af M H.size) U U.heap := by
  rw [hU]
  refine En.warm hW ((Iv.en X hI).narrow fun q h => ?_)
  rcases h with ⟨e, h⟩ | h
  · exact hI.2.1 q e h
  · exact X.2.2.2.2.2.2.2.2.1 q (Nat.le_trans hI.2.2.1 h)
/-- a virtual call on an object of class number ci -/
theorem g_callV (X : Cx κ own cc rt tab nm) {y : MethodName} {bytes : ByteArray} {maxL idx k mc ms b ci : Nat} {C : String} {T : u_T} {N : Nat} {ret : Option FieldType} {As : List Value} {fs : List Value} {st0 : List Value} {post : Res → Hp → Prop} (d : decode cc pc = .ok (.invokevirtual idx, 3)) (hC : Ct κ.l κ.Γ y bytes maxL ret k mc ms (.ref b :: As) M post)
    (h1 : Cond.methodLink own idx y ∈ TG) (h2 : Cond.instanceMethod y ∈ TG) (h3 : Cond.selects C y y ∈ TG) (h4 : Cond.initialized C ∈ TG) (h5 : Cond.code y bytes maxL ret ∈ TG) (hc : CL[ci]? = some (C, T, N)) (hb : M b = some (.inr (ci, fs)))
    (hd : y.cls = C ∧ y.cls ≠ "java/lang/invoke/MethodHandle" ∧ y.cls ≠ "java/lang/invoke/VarHandle" ∧ (parseMethodDescriptor y.desc).map (fun d => d.parameters.length) = some As.length) (hst : st0 = As.reverse ++ .ref b :: rest) (hW : (rest.map fun v => v.category).sum ≤ 8) (hR : 12 + k + 1 ≤ κ.R.frames ∧ 8 + (maxL + 11) + (300 + 40 * k) ≤ κ.R.locals) (hf : cells + mc ≤ κ.R.cells ∧ slots + ms ≤ κ.R.slots)
    (kk : ∀ v M', post (.inl v) M' → G κ M' (cells + mc) (slots + ms) L (pc + 3) (v.toList ++ rest)) (kx : ∀ E M', post (.inr E) M' → GX κ M' (cells + mc) (slots + ms) L pc rest E) : G κ M cells slots L pc st0 := by
  intro H locs ls hI hl
  have hts := X.2.2.2.2.2.2.1
  have hE := Iv.en X hI
  obtain ⟨hC0, hd⟩ := hd
  subst hC0
  have hG : GoodIn TG (wsV own idx y.cls y (Cond.code y bytes maxL ret :: TG)) := by
    intro w hw
    have hm : w ∈ TG := by
      simp only [wsV, List.mem_append, List.mem_cons, List.not_mem_nil, or_false] at hw
      rcases hw with (rfl | rfl | rfl | rfl) | rfl | hw <;> assumption
    exact tg_in w hm
  have hz : κ.nL = ls.size := hl.1.symm
  obtain ⟨q', g1, cell, g2, g3, g4, -⟩ := hI.1 b _ hb
  have hq' : q' = (y.cls, T, N) := Option.some.inj (g1.symm.trans hc)
  subst hq'
  have hrun : vx_Run κ.p κ.l κ.e κ.R κ.s κ.m κ.args κ.below κ.meth κ.c H locs cells slots mc ms (F0 κ.m pc ls st0) rest (PostR κ.Γ M H.size post (.ref b :: As).toArray) (PostX κ.Γ M H.size post) (Af M H.size) := vx_runV (As := As) (rest := rest) (g := F0 κ.m pc ls st0) (nL := κ.nL) (cells := cells) (slots := slots) (H := H) (locs := locs) ⟨X.1, X.2.1, X.2.2.1, X.2.2.2.2.2.1, hts⟩ (hC H.size) (cwV (C := y.cls) (index := idx) As.length hts hG rfl rfl rfl ⟨rfl, hd⟩ hR)
    ⟨pre_blind _ _ _ _, ⟨cell, g2, by rw [g4]; rfl, by rw [g3]; exact (X.2.2.2.2.2.2.2.1.1.1 ci _ hc).2.1⟩, fun U hU hW => ⟨rfl, by rw [hU], by rw [hU]; exact hI.1, en_callee X hI hU hW⟩⟩ rfl rfl hl.1 hst (lv_room hW) d hf
  exact g_back (y := y) X hI hl hrun kk kx
theorem g_callS (X : Cx κ own cc rt tab nm) {y : MethodName} {bytes : ByteArray} {maxL idx k mc ms : Nat} {ret : Option FieldType} {As : List Value} {st0 : List Value} {post : Res → Hp → Prop} (d : decode cc pc = .ok (.invokestatic idx, 3)) (hC : Ct κ.l κ.Γ y bytes maxL ret k mc ms As M post)
    (h1 : Cond.methodLink own idx y ∈ TG) (h2 : Cond.static y ∈ TG) (h4 : Cond.initialized y.cls ∈ TG) (h5 : Cond.code y bytes maxL ret ∈ TG)
    (hd : y.cls ≠ "java/lang/invoke/MethodHandle" ∧ y.cls ≠ "java/lang/invoke/VarHandle" ∧ (parseMethodDescriptor y.desc).map (fun d => d.parameters.length) = some As.length) (hst : st0 = As.reverse ++ rest) (hW : (rest.map fun v => v.category).sum ≤ 8) (hR : 12 + k + 1 ≤ κ.R.frames ∧ 8 + (maxL + 11) + (300 + 40 * k) ≤ κ.R.locals) (hf : cells + mc ≤ κ.R.cells ∧ slots + ms ≤ κ.R.slots)
    (kk : ∀ v M', post (.inl v) M' → G κ M' (cells + mc) (slots + ms) L (pc + 3) (v.toList ++ rest)) (kx : ∀ E M', post (.inr E) M' → GX κ M' (cells + mc) (slots + ms) L pc rest E) : G κ M cells slots L pc st0 := by
  intro H locs ls hI hl
  have hts := X.2.2.2.2.2.2.1
  have hE := Iv.en X hI
  have hG : GoodIn TG (Cond.code y bytes maxL ret :: TG) := by
    intro w hw
    have hm : w ∈ TG := by
      rcases List.mem_cons.mp hw with rfl | hw <;> assumption
    exact tg_in w hm
  have hrun : vx_Run κ.p κ.l κ.e κ.R κ.s κ.m κ.args κ.below κ.meth κ.c H locs cells slots mc ms (F0 κ.m pc ls st0) rest (PostR κ.Γ M H.size post (As).toArray) (PostX κ.Γ M H.size post) (Af M H.size) := vx_runS (As := As) (rest := rest) (g := F0 κ.m pc ls st0) (nL := κ.nL) (cells := cells) (slots := slots) (H := H) (locs := locs) ⟨X.1, X.2.1, X.2.2.1, X.2.2.2.2.2.1, hts⟩ (hC H.size) ⟨callB_of (index := idx) As.length hts hG rfl rfl rfl (hts _ h4) (hts _ h1) hd hR, hts _ h2⟩
    ⟨pre_blind _ _ _ _, fun U hU hW => ⟨rfl, by rw [hU], by rw [hU]; exact hI.1, en_callee X hI hU hW⟩⟩ rfl rfl hl.1 hst (lv_room hW) d hf
  exact g_back (y := y) X hI hl hrun kk kx
theorem g_callSX (X : Cx κ own cc rt tab nm) {y : MethodName} {bytes : ByteArray} {maxL idx k mc ms : Nat} {ret : Option FieldType} {hh : List (Nat × Nat × Nat × Nat)} {As : List Value} {st0 : List Value} {post : Res → Hp → Prop} (d : decode cc pc = .ok (.invokestatic idx, 3)) (hC : CtW κ.l κ.Γ y bytes maxL ret hh k mc ms As M post)
    (h1 : Cond.methodLink own idx y ∈ TG) (h2 : Cond.static y ∈ TG) (h4 : Cond.initialized y.cls ∈ TG) (h5 : Cond.codeWith y bytes maxL ret hh ∈ TG)
    (hd : y.cls ≠ "java/lang/invoke/MethodHandle" ∧ y.cls ≠ "java/lang/invoke/VarHandle" ∧ (parseMethodDescriptor y.desc).map (fun d => d.parameters.length) = some As.length) (hst : st0 = As.reverse ++ rest) (hW : (rest.map fun v => v.category).sum ≤ 8) (hR : 12 + k + 1 ≤ κ.R.frames ∧ 8 + (maxL + 11) + (300 + 40 * k) ≤ κ.R.locals) (hf : cells + mc ≤ κ.R.cells ∧ slots + ms ≤ κ.R.slots)
    (kk : ∀ v M', post (.inl v) M' → G κ M' (cells + mc) (slots + ms) L (pc + 3) (v.toList ++ rest)) (kx : ∀ E M', post (.inr E) M' → GX κ M' (cells + mc) (slots + ms) L pc rest E) : G κ M cells slots L pc st0 := by
  intro H locs ls hI hl
  have hts := X.2.2.2.2.2.2.1
  have hE := Iv.en X hI
  have hG : GoodIn TG (va_wsS own idx y (Cond.codeWith y bytes maxL ret hh :: TG)) := by
    intro w hw
    have hm : w ∈ TG := by
      simp only [va_wsS, List.mem_append, List.mem_cons, List.not_mem_nil, or_false] at hw
      rcases hw with (rfl | rfl | rfl) | rfl | hw <;> assumption
    exact tg_in w hm
  have hrun : vx_Run κ.p κ.l κ.e κ.R κ.s κ.m κ.args κ.below κ.meth κ.c H locs cells slots mc ms (F0 κ.m pc ls st0) rest (PostR κ.Γ M H.size post (As).toArray) (PostX κ.Γ M H.size post) (Af M H.size) := vx_runSX (As := As) (rest := rest) (g := F0 κ.m pc ls st0) (nL := κ.nL) (cells := cells) (slots := slots) (H := H) (locs := locs) ⟨X.1, X.2.1, X.2.2.1, X.2.2.2.2.2.1, hts⟩ (hC H.size) (vx_cwSW (index := idx) As.length hts hG rfl rfl rfl hd hR)
    ⟨pre_blind _ _ _ _, fun U hU hW => ⟨rfl, by rw [hU], by rw [hU]; exact hI.1, en_callee X hI hU hW⟩⟩ rfl rfl hl.1 hst (lv_room hW) d hf
  exact g_back (y := y) X hI hl hrun kk kx
end GH
