theorem kAc1 : Cond.initialized "java/lang/System" ∈ TG := k16
theorem kAc2 : Cond.static arraycopyName ∈ TG := kw (15 + 203) (by decide +kernel) (by decide +kernel)
theorem kAc3 : Cond.native arraycopyName ∈ TG := kw (15 + 204) (by decide +kernel) (by decide +kernel)
theorem kAcL : Cond.methodLink "BellParliament$House" 55 arraycopyName ∈ TG := kw (15 + 202) (by decide +kernel) (by decide +kernel)
theorem arrV_cg {c : ClassId} {n : Nat} {f g : Nat → Value} (h : ∀ j, j < n → f j = g j) : arrV c n f = arrV c n g := by
  have e : (arrV c n f).slots = (arrV c n g).slots := by
    apply Array.ext_getElem?
    intro i
    by_cases hi : i < n
    · rw [arrV_read _ _ hi, arrV_read _ _ hi, h i hi]
    · rw [Array.getElem?_eq_none (by rw [arrV_size]; omega), Array.getElem?_eq_none (by rw [arrV_size]; omega)]
  have e2 : arrV c n f = { arrV c n f with slots := (arrV c n g).slots } := by rw [← e]
  rw [e2]
  rfl
section GC
variable {κ : KT} {own : String} {cc : ByteArray} {rt : Option FieldType} {tab : List ExceptionTableEntry} {nm : String} {M : Hp} {cells slots pc : Nat} {L : List (Nat × Value)} {rest : List Value}
theorem g_copyi (X : Cx κ own cc rt tab nm) {idx a0 a n : Nat} {f g : Nat → Int32} {k9n : Int32} (d : decode cc pc = .ok (.invokestatic idx, 3)) (h1 : Cond.methodLink own idx arraycopyName ∈ TG) (hq0 : M a0 = some (.inl (κ.Γ.2.1 0, n, .inl f)) ) (hq1 : M a = some (.inl (κ.Γ.2.1 0, n, .inl g))) (hn : k9n = nI n) (hb : n < 2 ^ 31) (hRf : 1 ≤ κ.R.frames) (hRl : (rest.map fun v => v.category).sum + (nativeFrameWords "java/lang/System" "arraycopy" 5 + 11) ≤ κ.R.locals) (k9 : G κ (hup M a (.inl (κ.Γ.2.1 0, n, .inl f))) cells slots L (pc + 3) rest) : G κ M cells slots L pc (.int k9n :: .int 0 :: .ref a :: .int 0 :: .ref a0 :: rest) := by
  subst hn
  intro H locs ls hI hl0 T hT X9
  have hts := X.2.2.2.2.2.2.1
  have hK := X.2.2.2.2.2.2.2.1.1
  have hA := hI.2.1 a _ hq1
  have hc0 : H[a0]? = some (vp_cell (κ.Γ.2.1 0) (n, .inl f)) := hI.1 a0 _ hq0
  have hc1 : H[a]? = some (vp_cell (κ.Γ.2.1 0) (n, .inl g)) := hI.1 a _ hq1
  obtain ⟨-, k0, hk0, cm0, hkk0⟩ := (hK.2 0 (κ.Γ.2.1 0, .int) rfl).1 n (fun j => Value.int (f j))
  obtain ⟨-, k1, hk1, cm1, hkk1⟩ := (hK.2 0 (κ.Γ.2.1 0, .int) rfl).1 n (fun j => Value.int (g j))
  have z0 : (0 : Int32).toNatClampNeg = 0 := rfl
  have zn : (nI n).toNatClampNeg = n := nI_clamp hb
  have hfit : ∀ i, fits .int (Value.int (f i)) = true := fun i => rfl
  obtain ⟨vm', X', step⟩ := X9.arraycopy X.1 X.2.2.2.2.2.1 (hts _ h1) (hts _ kAc3) (hts _ kAc2) (hts _ kAc1) (src := a0) (dst := a) (cs := vp_cell (κ.Γ.2.1 0) (n, .inl f)) (cd := vp_cell (κ.Γ.2.1 0) (n, .inl g)) (srcPos := 0) (destPos := 0) (n := nI n) (by rw [hT]; exact hc0) (by rw [hT]; exact hc1)
    (fun _ h => by cases h) (fun _ h => by cases h) (fun h => by cases h) (fun h => by cases h) hk0 hk1 hkk0 hkk1 (by simp [refKind]) (by decide) (by decide) (nI_pos hb)
    (by rw [nI_toInt hb]; show ¬ (0 : Int) + _ > ((arrV _ n (fun j => Value.int (f j))).slots.size : Int); rw [arrV_size]; omega)
    (by rw [nI_toInt hb]; show ¬ (0 : Int) + _ > ((arrV _ n (fun j => Value.int (g j))).slots.size : Int); rw [arrV_size]; omega)
    (fun vm₁ _ i hi => by
      rw [zn] at hi
      have e : (vp_cell (κ.Γ.2.1 0) (n, .inl f)).slots.getD ((0 : Int32).toNatClampNeg + i) .null = Value.int (f i) := by
        rw [z0, Nat.zero_add]
        show (arrV _ n (fun j => Value.int (f j))).slots.getD _ _ = _
        rw [Array.getD_eq_getD_getElem?, arrV_read _ _ hi]
        rfl
      refine ⟨?_, ?_⟩
      · rw [e]
        exact hfit i
      · rw [e]
        exact trivial)
    (g := F0 κ.m pc ls (.int (nI n) :: .int 0 :: .ref a :: .int 0 :: .ref a0 :: rest)) rfl (by rw [X.2.2.1]; exact hl0.1) (rest := rest) rfl (by rw [X.2.1]; exact d) hRf (by show 2 * 0 + _ + _ ≤ _; omega)
  have e1 : copied (vp_cell (κ.Γ.2.1 0) (n, .inl f)) (vp_cell (κ.Γ.2.1 0) (n, .inl g)) 0 0 (nI n) = vp_cell (κ.Γ.2.1 0) (n, .inl f) := by
    have h : copied (vp_cell (κ.Γ.2.1 0) (n, .inl f)) (vp_cell (κ.Γ.2.1 0) (n, .inl g)) 0 0 (nI n) = vp_cell (κ.Γ.2.1 0) (n, .inl (va_cpy f g (0 : Int32).toNatClampNeg (0 : Int32).toNatClampNeg (nI n).toNatClampNeg)) := va_copied (fun z => Value.int z) _ _ f g (by rw [z0, zn]; omega)
    refine h.trans ?_
    rw [z0, zn]
    show arrV _ n (fun j => Value.int (va_cpy f g 0 0 n j)) = arrV _ n (fun j => Value.int (f j))
    refine arrV_cg fun j hj => ?_
    rw [pk_cpy_in (Nat.zero_le j) (by omega)]
    simp
  rw [e1] at X' step
  have hl : a < H.size := (Array.getElem?_eq_some_iff.mp hc1).1
  have hheap : ((T.setVm vm').setCell a (vp_cell (κ.Γ.2.1 0) (n, .inl f))).heap = H.setIfInBounds a (vp_cell (κ.Γ.2.1 0) (n, .inl f)) := by rw [← hT]; rfl
  have oq : ∀ q : Nat, q ≠ a → (H.setIfInBounds a (vp_cell (κ.Γ.2.1 0) (n, .inl f)))[q]? = H[q]? := fun q hq => by simp [Array.getElem?_setIfInBounds, Ne.symm hq]
  obtain ⟨t, a1, b1⟩ := k9 (H.setIfInBounds a (vp_cell (κ.Γ.2.1 0) (n, .inl f))) _ ls (hI.put hA (show (H.setIfInBounds a _)[a]? = some _ by simp [Array.getElem?_setIfInBounds, hl]) oq ⟨by simp; exact hI.2.2.1, fun q g1 g2 => by
      rw [oq q (fun e => g2 (by rw [e]; exact hA))]
      exact hI.2.2.2.1 q g1 g2, fun q hq => by
      rcases List.mem_append.mp hq with h | h
      · exact hI.2.2.2.2 q h
      · obtain ⟨z, -, hz⟩ := List.mem_map.mp h
        rw [← hz]
        exact hA⟩) hl0 _ hheap X'
  exact ⟨t, step t a1, b1⟩
theorem g_copyl (X : Cx κ own cc rt tab nm) {idx a0 a n : Nat} {f g : Nat → Int64} {k9n : Int32} (d : decode cc pc = .ok (.invokestatic idx, 3)) (h1 : Cond.methodLink own idx arraycopyName ∈ TG) (hq0 : M a0 = some (.inl (κ.Γ.2.1 1, n, .inr (.inl f))) ) (hq1 : M a = some (.inl (κ.Γ.2.1 1, n, .inr (.inl g)))) (hn : k9n = nI n) (hb : n < 2 ^ 31) (hRf : 1 ≤ κ.R.frames) (hRl : (rest.map fun v => v.category).sum + (nativeFrameWords "java/lang/System" "arraycopy" 5 + 11) ≤ κ.R.locals) (k9 : G κ (hup M a (.inl (κ.Γ.2.1 1, n, .inr (.inl f)))) cells slots L (pc + 3) rest) : G κ M cells slots L pc (.int k9n :: .int 0 :: .ref a :: .int 0 :: .ref a0 :: rest) := by
  subst hn
  intro H locs ls hI hl0 T hT X9
  have hts := X.2.2.2.2.2.2.1
  have hK := X.2.2.2.2.2.2.2.1.1
  have hA := hI.2.1 a _ hq1
  have hc0 : H[a0]? = some (vp_cell (κ.Γ.2.1 1) (n, .inr (.inl f))) := hI.1 a0 _ hq0
  have hc1 : H[a]? = some (vp_cell (κ.Γ.2.1 1) (n, .inr (.inl g))) := hI.1 a _ hq1
  obtain ⟨-, k0, hk0, cm0, hkk0⟩ := (hK.2 1 (κ.Γ.2.1 1, .long) rfl).1 n (fun j => Value.long (f j))
  obtain ⟨-, k1, hk1, cm1, hkk1⟩ := (hK.2 1 (κ.Γ.2.1 1, .long) rfl).1 n (fun j => Value.long (g j))
  have z0 : (0 : Int32).toNatClampNeg = 0 := rfl
  have zn : (nI n).toNatClampNeg = n := nI_clamp hb
  have hfit : ∀ i, fits .long (Value.long (f i)) = true := fun i => rfl
  obtain ⟨vm', X', step⟩ := X9.arraycopy X.1 X.2.2.2.2.2.1 (hts _ h1) (hts _ kAc3) (hts _ kAc2) (hts _ kAc1) (src := a0) (dst := a) (cs := vp_cell (κ.Γ.2.1 1) (n, .inr (.inl f))) (cd := vp_cell (κ.Γ.2.1 1) (n, .inr (.inl g))) (srcPos := 0) (destPos := 0) (n := nI n) (by rw [hT]; exact hc0) (by rw [hT]; exact hc1)
    (fun _ h => by cases h) (fun _ h => by cases h) (fun h => by cases h) (fun h => by cases h) hk0 hk1 hkk0 hkk1 (by simp [refKind]) (by decide) (by decide) (nI_pos hb)
    (by rw [nI_toInt hb]; show ¬ (0 : Int) + _ > ((arrV _ n (fun j => Value.long (f j))).slots.size : Int); rw [arrV_size]; omega)
    (by rw [nI_toInt hb]; show ¬ (0 : Int) + _ > ((arrV _ n (fun j => Value.long (g j))).slots.size : Int); rw [arrV_size]; omega)
    (fun vm₁ _ i hi => by
      rw [zn] at hi
      have e : (vp_cell (κ.Γ.2.1 1) (n, .inr (.inl f))).slots.getD ((0 : Int32).toNatClampNeg + i) .null = Value.long (f i) := by
        rw [z0, Nat.zero_add]
        show (arrV _ n (fun j => Value.long (f j))).slots.getD _ _ = _
        rw [Array.getD_eq_getD_getElem?, arrV_read _ _ hi]
        rfl
      refine ⟨?_, ?_⟩
      · rw [e]
        exact hfit i
      · rw [e]
        exact trivial)
    (g := F0 κ.m pc ls (.int (nI n) :: .int 0 :: .ref a :: .int 0 :: .ref a0 :: rest)) rfl (by rw [X.2.2.1]; exact hl0.1) (rest := rest) rfl (by rw [X.2.1]; exact d) hRf (by show 2 * 0 + _ + _ ≤ _; omega)
  have e1 : copied (vp_cell (κ.Γ.2.1 1) (n, .inr (.inl f))) (vp_cell (κ.Γ.2.1 1) (n, .inr (.inl g))) 0 0 (nI n) = vp_cell (κ.Γ.2.1 1) (n, .inr (.inl f)) := by
    have h : copied (vp_cell (κ.Γ.2.1 1) (n, .inr (.inl f))) (vp_cell (κ.Γ.2.1 1) (n, .inr (.inl g))) 0 0 (nI n) = vp_cell (κ.Γ.2.1 1) (n, .inr (.inl (va_cpy f g (0 : Int32).toNatClampNeg (0 : Int32).toNatClampNeg (nI n).toNatClampNeg))) := va_copied (fun z => Value.long z) _ _ f g (by rw [z0, zn]; omega)
    refine h.trans ?_
    rw [z0, zn]
    show arrV _ n (fun j => Value.long (va_cpy f g 0 0 n j)) = arrV _ n (fun j => Value.long (f j))
    refine arrV_cg fun j hj => ?_
    rw [pk_cpy_in (Nat.zero_le j) (by omega)]
    simp
  rw [e1] at X' step
  have hl : a < H.size := (Array.getElem?_eq_some_iff.mp hc1).1
  have hheap : ((T.setVm vm').setCell a (vp_cell (κ.Γ.2.1 1) (n, .inr (.inl f)))).heap = H.setIfInBounds a (vp_cell (κ.Γ.2.1 1) (n, .inr (.inl f))) := by rw [← hT]; rfl
  have oq : ∀ q : Nat, q ≠ a → (H.setIfInBounds a (vp_cell (κ.Γ.2.1 1) (n, .inr (.inl f))))[q]? = H[q]? := fun q hq => by simp [Array.getElem?_setIfInBounds, Ne.symm hq]
  obtain ⟨t, a1, b1⟩ := k9 (H.setIfInBounds a (vp_cell (κ.Γ.2.1 1) (n, .inr (.inl f)))) _ ls (hI.put hA (show (H.setIfInBounds a _)[a]? = some _ by simp [Array.getElem?_setIfInBounds, hl]) oq ⟨by simp; exact hI.2.2.1, fun q g1 g2 => by
      rw [oq q (fun e => g2 (by rw [e]; exact hA))]
      exact hI.2.2.2.1 q g1 g2, fun q hq => by
      rcases List.mem_append.mp hq with h | h
      · exact hI.2.2.2.2 q h
      · obtain ⟨z, -, hz⟩ := List.mem_map.mp h
        rw [← hz]
        exact hA⟩) hl0 _ hheap X'
  exact ⟨t, step t a1, b1⟩
end GC
