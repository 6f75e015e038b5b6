/-! ===== String constants ===== -/
section GST
variable {κ : KT} {own : String} {cc : ByteArray} {rt : Option FieldType} {tab : List ExceptionTableEntry} {nm : String} {M : Hp} {cells slots pc : Nat} {L : List (Nat × Value)} {rest : List Value}
abbrev sK (Γ : Gm) (i : Nat) : Nat := Γ.2.2.1 i
abbrev sV (Γ : Gm) (i : Nat) : Nat := Γ.2.2.2 i
abbrev sN (i : Nat) : Nat := sLen.getD i 0
abbrev sB (i j : Nat) : Int32 := (sByt.getD i []).getD j 0
theorem g_ldcS (X : Cx κ own cc rt tab nm) {idx i : Nat} (d : decode cc pc = .ok (.ldc idx, 2)) (hi : i < 25) (h1 : sOwn i = own) (h2 : sIdx i = idx) (k9 : G κ M cells slots L (pc + 2) (.ref (sK κ.Γ i) :: rest)) : G κ M cells slots L pc rest := fun H locs ls hI hl => by
  subst h1
  subst h2
  exact va_ldcS X.1 X.2.1 X.2.2.2.2.2.1 (X.2.2.2.2.2.2.2.1.2.2.2.2.2.2.1 i hi) d (k9 H locs ls hI hl)
theorem g_compact (X : Cx κ own cc rt tab nm) {idx : Nat} (d : decode cc pc = .ok (.getstatic idx, 3)) (h : Cond.fieldLink own idx "java/lang/String" "COMPACT_STRINGS" "Z" ∈ TG) (k9 : G κ M cells slots L (pc + 3) (.int 1 :: rest)) : G κ M cells slots L pc rest := fun H locs ls hI hl => va_gets X.1 X.2.1 X.2.2.2.2.2.2.2.1.2.2.2.2.2.2.2.1 hI.2.2 X.2.2.2.2.2.1 (X.2.2.2.2.2.2.1 _ h) (fun _ h => h) d (k9 H locs ls hI hl)
theorem g_sioobe (X : Cx κ own cc rt tab nm) {idx : Nat} (d : decode cc pc = .ok (.getstatic idx, 3)) (h : Cond.fieldLink own idx "jdk/internal/util/Preconditions" "SIOOBE_FORMATTER" "Ljava/util/function/BiFunction;" ∈ TG) (kn : G κ M cells slots L (pc + 3) (.null :: rest)) (kr : ∀ t, G κ M cells slots L (pc + 3) (.ref t :: rest)) : G κ M cells slots L pc rest := fun H locs ls hI hl => by
  rcases X.2.2.2.2.2.2.2.1.2.2.2.2.2.2.2.2 with hZ | ⟨t, hZ⟩
  · exact va_gets X.1 X.2.1 hZ hI.2.2 X.2.2.2.2.2.1 (X.2.2.2.2.2.2.1 _ h) (fun _ h => h) d (kn H locs ls hI hl)
  · exact va_gets X.1 X.2.1 hZ hI.2.2 X.2.2.2.2.2.1 (X.2.2.2.2.2.2.1 _ h) (fun _ h => h) d (kr t H locs ls hI hl)
theorem g_sval (X : Cx κ own cc rt tab nm) {idx i : Nat} (d : decode cc pc = .ok (.getfield idx, 3)) (hi : i < 25) (h : Cond.fieldLink own idx "java/lang/String" "value" "[B" ∈ TG) (k9 : G κ M cells slots L (pc + 3) (.ref (sV κ.Γ i) :: rest)) : G κ M cells slots L pc (.ref (sK κ.Γ i) :: rest) := fun H locs ls hI hl => vk_getf X.1 X.2.1 (X.2.2.2.2.2.2.2.1.2.2.2.2.2.1.1 i hi).2.2.1 hI.2.2 X.2.2.2.2.2.1 (X.2.2.2.2.2.2.1 _ h) (fun _ h => h) d (k9 H locs ls hI hl)
theorem g_scod (X : Cx κ own cc rt tab nm) {idx i : Nat} (d : decode cc pc = .ok (.getfield idx, 3)) (hi : i < 25) (h : Cond.fieldLink own idx "java/lang/String" "coder" "B" ∈ TG) (k9 : G κ M cells slots L (pc + 3) (.int 0 :: rest)) : G κ M cells slots L pc (.ref (sK κ.Γ i) :: rest) := fun H locs ls hI hl => vk_getf X.1 X.2.1 (X.2.2.2.2.2.2.2.1.2.2.2.2.2.1.1 i hi).2.1 hI.2.2 X.2.2.2.2.2.1 (X.2.2.2.2.2.2.1 _ h) (fun _ h => h) d (k9 H locs ls hI hl)
theorem g_slen (X : Cx κ own cc rt tab nm) {i : Nat} (d : decode cc pc = .ok (.arraylength, 1)) (hi : i < 25) (k9 : G κ M cells slots L (pc + 1) (.int (nI (sN i)) :: rest)) : G κ M cells slots L pc (.ref (sV κ.Γ i) :: rest) := fun H locs ls hI hl => va_tlen X.1 X.2.1 (X.2.2.2.2.2.2.2.1.2.2.2.2.2.1.1 i hi).2.2.2 hI.2.2 rfl d (k9 H locs ls hI hl)
theorem g_sbyte (X : Cx κ own cc rt tab nm) {i j : Nat} (d : decode cc pc = .ok (.baload, 1)) (hi : i < 25) (hj : j < sN i) (hb : sN i < 2 ^ 31) (k9 : G κ M cells slots L (pc + 1) (.int (sB i j) :: rest)) : G κ M cells slots L pc (.int (nI j) :: .ref (sV κ.Γ i) :: rest) := fun H locs ls hI hl => va_tb X.1 X.2.1 (X.2.2.2.2.2.2.2.1.2.2.2.2.2.1.1 i hi).2.2.2 hI.2.2 (vp_in_nI hj hb) (by rw [nI_clamp (by omega)]) d (k9 H locs ls hI hl)
/-- a virtual call whose receiver isn't of the heap that is kept -/
theorem g_callVr (X : Cx κ own cc rt tab nm) {y : MethodName} {bytes : ByteArray} {maxL idx k mc ms b : Nat} {C : String} {ret : Option FieldType} {As : List Value} {st0 : List Value} {post : Res → Hp → Prop} (d : decode cc pc = .ok (.invokevirtual idx, 3)) (hC : Ct κ.l κ.Γ y bytes maxL ret k mc ms (.ref b :: As) M post)
    (h1 : Cond.methodLink own idx y ∈ TG) (h2 : Cond.instanceMethod y ∈ TG) (h3 : Cond.selects C y y ∈ TG) (h4 : Cond.initialized C ∈ TG) (h5 : Cond.code y bytes maxL ret ∈ TG) (hrecv : ∀ H locs, Iv κ M H locs → ∃ cell : Cell, H[b]? = some cell ∧ cell.vm.isStatics = false ∧ κ.s.vm.findClass C = some cell.cls)
    (hd : y.cls = C ∧ y.cls ≠ "java/lang/invoke/MethodHandle" ∧ y.cls ≠ "java/lang/invoke/VarHandle" ∧ (parseMethodDescriptor y.desc).map (fun d => d.parameters.length) = some As.length) (hst : st0 = As.reverse ++ .ref b :: rest) (hW : (rest.map fun v => v.category).sum ≤ 8) (hR : 12 + k + 1 ≤ κ.R.frames ∧ 8 + (maxL + 11) + (300 + 40 * k) ≤ κ.R.locals) (hf : cells + mc ≤ κ.R.cells ∧ slots + ms ≤ κ.R.slots)
    (kk : ∀ v M', post (.inl v) M' → G κ M' (cells + mc) (slots + ms) L (pc + 3) (v.toList ++ rest)) (kx : ∀ E M', post (.inr E) M' → GX κ M' (cells + mc) (slots + ms) L pc rest E) : G κ M cells slots L pc st0 := by
  intro H locs ls hI hl
  have hts := X.2.2.2.2.2.2.1
  obtain ⟨hC0, hd⟩ := hd
  subst hC0
  have hG : GoodIn TG (wsV own idx y.cls y (Cond.code y bytes maxL ret :: TG)) := by
    intro w hw
    have hm : w ∈ TG := by
      simp only [wsV, List.mem_append, List.mem_cons, List.not_mem_nil, or_false] at hw
      rcases hw with (rfl | rfl | rfl | rfl) | rfl | hw <;> assumption
    exact tg_in w hm
  have hrun : vx_Run κ.p κ.l κ.e κ.R κ.s κ.m κ.args κ.below κ.meth κ.c H locs cells slots mc ms (F0 κ.m pc ls st0) rest (PostR κ.Γ M H.size post (.ref b :: As).toArray) (PostX κ.Γ M H.size post) (Af M H.size) := vx_runV (As := As) (rest := rest) (g := F0 κ.m pc ls st0) (nL := κ.nL) (cells := cells) (slots := slots) (H := H) (locs := locs) ⟨X.1, X.2.1, X.2.2.1, X.2.2.2.2.2.1, hts⟩ (hC H.size) (cwV (C := y.cls) (index := idx) As.length hts hG rfl rfl rfl ⟨rfl, hd⟩ hR)
    ⟨pre_blind _ _ _ _, hrecv H locs hI, fun U hU hW => ⟨rfl, by rw [hU], by rw [hU]; exact hI.1, en_callee X hI hU hW⟩⟩ rfl rfl hl.1 hst (lv_room hW) d hf
  exact g_back (y := y) X hI hl hrun kk kx
theorem s_recv (X : Cx κ own cc rt tab nm) {i : Nat} (hi : i < 25) : ∀ H locs, Iv κ M H locs → ∃ cell : Cell, H[sK κ.Γ i]? = some cell ∧ cell.vm.isStatics = false ∧ κ.s.vm.findClass "java/lang/String" = some cell.cls := fun H locs hI => vk_recv X.2.2.2.2.2.2.2.1.2.2.2.2.2.1 hi hI.2.2
theorem g_callVr_rd (X : Cx κ own cc rt tab nm) {y : MethodName} {bytes : ByteArray} {maxL idx k b : Nat} {C : String} {ret : Option FieldType} {As : List Value} {st0 : List Value} {v : Option Value} (d : decode cc pc = .ok (.invokevirtual idx, 3)) (hC : Ct κ.l κ.Γ y bytes maxL ret k 0 0 (.ref b :: As) M (fun r M' => r = .inl v ∧ M' = M))
    (h1 : Cond.methodLink own idx y ∈ TG) (h2 : Cond.instanceMethod y ∈ TG) (h3 : Cond.selects C y y ∈ TG) (h4 : Cond.initialized C ∈ TG) (h5 : Cond.code y bytes maxL ret ∈ TG) (hrecv : ∀ H locs, Iv κ M H locs → ∃ cell : Cell, H[b]? = some cell ∧ cell.vm.isStatics = false ∧ κ.s.vm.findClass C = some cell.cls)
    (hd : y.cls = C ∧ y.cls ≠ "java/lang/invoke/MethodHandle" ∧ y.cls ≠ "java/lang/invoke/VarHandle" ∧ (parseMethodDescriptor y.desc).map (fun d => d.parameters.length) = some As.length) (hst : st0 = As.reverse ++ .ref b :: rest) (hW : (rest.map fun v => v.category).sum ≤ 8) (hR : 12 + k + 1 ≤ κ.R.frames ∧ 8 + (maxL + 11) + (300 + 40 * k) ≤ κ.R.locals) (hf : cells ≤ κ.R.cells ∧ slots ≤ κ.R.slots)
    (kk : G κ M cells slots L (pc + 3) (v.toList ++ rest)) : G κ M cells slots L pc st0 :=
  g_callVr X d hC h1 h2 h3 h4 h5 hrecv hd hst hW hR hf (fun v' M' h => by obtain ⟨h1, rfl⟩ := h; cases h1; exact kk) (fun E M' h => by cases h.1)
theorem g_tabIn (X : Cx κ own cc rt tab nm) {dflt lo hi : Int} {offs : Array Int} {len : Nat} {x : Int32} {off : Int} {tgt : Nat} (d : decode cc pc = .ok (.tableswitch dflt lo hi offs, len)) (h1 : ¬ x.toInt < lo) (h2 : ¬ hi < x.toInt) (ho : offs[(x.toInt - lo).toNat]? = some off) (ht : (pc : Int) + off = (tgt : Int)) (k9 : G κ M cells slots L tgt rest) : G κ M cells slots L pc (.int x :: rest) := fun H locs ls hI hl => lv_tableIn X.1 X.2.1 d h1 h2 ho ht (k9 H locs ls hI hl)
theorem g_tabOut (X : Cx κ own cc rt tab nm) {dflt lo hi : Int} {offs : Array Int} {len : Nat} {x : Int32} {tgt : Nat} (d : decode cc pc = .ok (.tableswitch dflt lo hi offs, len)) (h : x.toInt < lo ∨ hi < x.toInt) (ht : (pc : Int) + dflt = (tgt : Int)) (k9 : G κ M cells slots L tgt rest) : G κ M cells slots L pc (.int x :: rest) := fun H locs ls hI hl => lv_tableOut X.1 X.2.1 d h ht (k9 H locs ls hI hl)
end GST
