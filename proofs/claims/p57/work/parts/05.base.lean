def sOwn : Nat → String := fun i => (["BellParliament$CommandText", "BellParliament$CommandText", "BellParliament$CommandText", "BellParliament$CommandText", "BellParliament$CommandText", "BellParliament$CommandText", "BellParliament$CommandText", "BellParliament$CommandText", "BellParliament$CommandText", "BellParliament$CommandText", "BellParliament$CommandText", "BellParliament$CommandText", "BellParliament$CommandText", "BellParliamentLaw", "BellParliamentLaw", "BellParliamentLaw", "BellParliamentLaw", "BellParliamentLaw", "BellParliamentLaw", "BellParliamentLaw", "BellParliamentLaw", "BellParliamentLaw", "BellParliamentLaw", "BellParliamentLaw", "BellParliamentLaw", "BellParliamentLaw", "BellParliamentLaw", "BellParliamentLaw", "BellParliamentLaw", "BellParliamentLaw", "BellParliamentLaw", "BellParliamentLaw", "BellParliamentLaw", "BellParliamentLaw", "BellParliamentLaw", "BellParliamentLaw", "BellParliamentLaw", "BellParliamentLaw", "BellParliamentLaw", "BellParliamentLaw", "BellParliamentLaw", "BellParliamentLaw", "BellParliamentLaw", "BellParliamentLaw"] : List String).getD i ""
def sIdx : Nat → Nat := fun i => ([67, 69, 71, 73, 75, 77, 79, 81, 83, 85, 87, 89, 91, 317, 319, 321, 323, 325, 327, 329, 331, 333, 335, 337, 339, 341, 343, 345, 347, 349, 351, 353, 355, 357, 359, 361, 363, 365, 367, 369, 371, 373, 375, 377] : List Nat).getD i 0
def sTxt : Nat → String := fun i => (["member DD", "enter N", "leave N", "quorum N", "bill N N-N", "yes D N", "no D N", "close D", "amend D N N", "support DD N", "decide D", "ride N D N", "", "member 37", "member 01;member 15", "enter 0", "enter 5;enter 5", "leave 1", "leave 0;leave 0", "quorum 2", "quorum 24;quorum 01", "bill 0 0-63", "bill 1 5-5;bill 2 60-63", "yes 0 1", "yes 0 0;no 0 0", "no 1 02", "close 0", "close 1;close 1", "amend 0 1 63", "amend 1 2 5;decide 1", "support 00 2", "support 01 1", "decide 0", "decide 0;decide 0", "ride 0 0 30", "ride 1 1 30;ride 1 1 30;ride 1 1 30;ride 1 1 30", "member 47", "member 08", "quorum 0", "quorum 25", "bill 0 9-8", "bill 0 0-64", "ride 0 0 0", "yes 9 0"] : List String).getD i ""
def sLen : List Nat := [9, 7, 7, 8, 10, 7, 6, 7, 11, 12, 8, 10, 0, 9, 19, 7, 15, 7, 15, 8, 19, 11, 23, 7, 14, 7, 7, 15, 12, 20, 12, 12, 8, 17, 11, 47, 9, 9, 8, 9, 10, 11, 10, 7]
def sByt : List (List Int32) := [[109, 101, 109, 98, 101, 114, 32, 68, 68], [101, 110, 116, 101, 114, 32, 78], [108, 101, 97, 118, 101, 32, 78], [113, 117, 111, 114, 117, 109, 32, 78], [98, 105, 108, 108, 32, 78, 32, 78, 45, 78], [121, 101, 115, 32, 68, 32, 78], [110, 111, 32, 68, 32, 78], [99, 108, 111, 115, 101, 32, 68], [97, 109, 101, 110, 100, 32, 68, 32, 78, 32, 78], [115, 117, 112, 112, 111, 114, 116, 32, 68, 68, 32, 78], [100, 101, 99, 105, 100, 101, 32, 68], [114, 105, 100, 101, 32, 78, 32, 68, 32, 78], [], [109, 101, 109, 98, 101, 114, 32, 51, 55], [109, 101, 109, 98, 101, 114, 32, 48, 49, 59, 109, 101, 109, 98, 101, 114, 32, 49, 53], [101, 110, 116, 101, 114, 32, 48], [101, 110, 116, 101, 114, 32, 53, 59, 101, 110, 116, 101, 114, 32, 53], [108, 101, 97, 118, 101, 32, 49], [108, 101, 97, 118, 101, 32, 48, 59, 108, 101, 97, 118, 101, 32, 48], [113, 117, 111, 114, 117, 109, 32, 50], [113, 117, 111, 114, 117, 109, 32, 50, 52, 59, 113, 117, 111, 114, 117, 109, 32, 48, 49], [98, 105, 108, 108, 32, 48, 32, 48, 45, 54, 51], [98, 105, 108, 108, 32, 49, 32, 53, 45, 53, 59, 98, 105, 108, 108, 32, 50, 32, 54, 48, 45, 54, 51], [121, 101, 115, 32, 48, 32, 49], [121, 101, 115, 32, 48, 32, 48, 59, 110, 111, 32, 48, 32, 48], [110, 111, 32, 49, 32, 48, 50], [99, 108, 111, 115, 101, 32, 48], [99, 108, 111, 115, 101, 32, 49, 59, 99, 108, 111, 115, 101, 32, 49], [97, 109, 101, 110, 100, 32, 48, 32, 49, 32, 54, 51], [97, 109, 101, 110, 100, 32, 49, 32, 50, 32, 53, 59, 100, 101, 99, 105, 100, 101, 32, 49], [115, 117, 112, 112, 111, 114, 116, 32, 48, 48, 32, 50], [115, 117, 112, 112, 111, 114, 116, 32, 48, 49, 32, 49], [100, 101, 99, 105, 100, 101, 32, 48], [100, 101, 99, 105, 100, 101, 32, 48, 59, 100, 101, 99, 105, 100, 101, 32, 48], [114, 105, 100, 101, 32, 48, 32, 48, 32, 51, 48], [114, 105, 100, 101, 32, 49, 32, 49, 32, 51, 48, 59, 114, 105, 100, 101, 32, 49, 32, 49, 32, 51, 48, 59, 114, 105, 100, 101, 32, 49, 32, 49, 32, 51, 48, 59, 114, 105, 100, 101, 32, 49, 32, 49, 32, 51, 48], [109, 101, 109, 98, 101, 114, 32, 52, 55], [109, 101, 109, 98, 101, 114, 32, 48, 56], [113, 117, 111, 114, 117, 109, 32, 48], [113, 117, 111, 114, 117, 109, 32, 50, 53], [98, 105, 108, 108, 32, 48, 32, 57, 45, 56], [98, 105, 108, 108, 32, 48, 32, 48, 45, 54, 52], [114, 105, 100, 101, 32, 48, 32, 48, 32, 48], [121, 101, 115, 32, 57, 32, 48]]
def NCl : List (String × String) := [("java/lang/IndexOutOfBoundsException", "java/lang/IllegalArgumentException"), ("java/lang/IndexOutOfBoundsException", "java/lang/IllegalStateException"), ("java/lang/IndexOutOfBoundsException", "java/util/NoSuchElementException"), ("java/lang/IndexOutOfBoundsException", "java/lang/UnsupportedOperationException"), ("java/lang/IndexOutOfBoundsException", "java/lang/ArithmeticException"), ("java/lang/IllegalArgumentException", "java/lang/IndexOutOfBoundsException"), ("java/lang/IllegalArgumentException", "java/lang/IllegalStateException"), ("java/lang/IllegalArgumentException", "java/util/NoSuchElementException"), ("java/lang/IllegalArgumentException", "java/lang/UnsupportedOperationException"), ("java/lang/IllegalArgumentException", "java/lang/ArithmeticException"), ("java/lang/IllegalStateException", "java/lang/IndexOutOfBoundsException"), ("java/lang/IllegalStateException", "java/lang/IllegalArgumentException"), ("java/lang/IllegalStateException", "java/util/NoSuchElementException"), ("java/lang/IllegalStateException", "java/lang/UnsupportedOperationException"), ("java/lang/IllegalStateException", "java/lang/ArithmeticException"), ("java/util/NoSuchElementException", "java/lang/IndexOutOfBoundsException"), ("java/util/NoSuchElementException", "java/lang/IllegalArgumentException"), ("java/util/NoSuchElementException", "java/lang/IllegalStateException"), ("java/util/NoSuchElementException", "java/lang/UnsupportedOperationException"), ("java/util/NoSuchElementException", "java/lang/ArithmeticException"), ("java/lang/UnsupportedOperationException", "java/lang/IndexOutOfBoundsException"), ("java/lang/UnsupportedOperationException", "java/lang/IllegalArgumentException"), ("java/lang/UnsupportedOperationException", "java/lang/IllegalStateException"), ("java/lang/UnsupportedOperationException", "java/util/NoSuchElementException"), ("java/lang/UnsupportedOperationException", "java/lang/ArithmeticException"), ("java/lang/ArithmeticException", "java/lang/IndexOutOfBoundsException"), ("java/lang/ArithmeticException", "java/lang/IllegalArgumentException"), ("java/lang/ArithmeticException", "java/lang/IllegalStateException"), ("java/lang/ArithmeticException", "java/util/NoSuchElementException"), ("java/lang/ArithmeticException", "java/lang/UnsupportedOperationException")]
/-! ===== heaps as functions of the address; a judgement over them ===== -/
abbrev Hp : Type := Nat → Option va_E
def hup (M : Hp) (q : Nat) (e : va_E) : Hp := fun x => if x = q then some e else M x
theorem hup_s (M : Hp) (q : Nat) (e : va_E) : hup M q e q = some e := if_pos rfl
theorem hup_n {M : Hp} {q x : Nat} {e : va_E} (h : x ≠ q) : hup M q e x = M x := if_neg h
abbrev CL : List vw_C := [(RX0, TX0, 6), (RX1, TX1, 16), (RX2, TX2, 2), (RX3, TX3, 11)]
/-- what is fixed all the way: class ids and slots, array classes, the String constants' addresses (44: the array of the texts), their bytes; the script's cell, its length, its ints -/
abbrev Gm : Type := va_G × (Nat → ClassId) × (Nat → Nat) × (Nat → Nat) × Nat × Nat × (Nat → Int32)
def TYS (Γ : Gm) : List (ClassId × FieldType) := [(Γ.2.1 0, .int), (Γ.2.1 1, .long), (Γ.2.1 2, .char), (Γ.2.1 3, .array .int), (Γ.2.1 4, .object "BellParliament$House")]
def HH (Γ : Gm) (M : Hp) (H : Heap) : Prop := ∀ q e, M q = some e → va_at Γ.1 CL (q, e) H
theorem HH.lt {Γ : Gm} {M : Hp} {H : Heap} (h : HH Γ M H) {q : Nat} {e : va_E} (hq : M q = some e) : q < H.size := (h q e hq).lt
theorem HH.kept {Γ : Gm} {M : Hp} {H H1 : Heap} (h : HH Γ M H) (hq : ∀ q e, M q = some e → H1[q]? = H[q]?) : HH Γ M H1 := fun q e he => (h q e he).kept (hq q e he)
theorem HH.set {Γ : Gm} {M : Hp} {H H1 : Heap} (h : HH Γ M H) {a : Nat} {e : va_E} (he : va_at Γ.1 CL (a, e) H1) (oq : ∀ q : Nat, q ≠ a → H1[q]? = H[q]?) : HH Γ (hup M a e) H1 := by
  intro q e1 h1
  by_cases hq : q = a
  · subst hq
    rw [hup_s] at h1
    cases h1
    exact he
  · rw [hup_n hq] at h1
    exact (h q e1 h1).kept (oq q hq)
/-- one cell as a world of the kit -/
theorem HH.one {Γ : Gm} {M : Hp} {H : Heap} (h : HH Γ M H) {q : Nat} {e : va_E} (hq : M q = some e) : va_P Γ.1 CL [(q, e)] H := by
  intro k x hx
  have h0 : k < 1 := (List.getElem?_eq_some_iff.mp hx).1
  rw [show k = 0 by omega] at hx
  cases hx
  exact h q e hq
theorem dOne {A : Nat → Prop} {q : Nat} {e : va_E} (h : A q) : va_D A [(q, e)] := by
  refine ⟨fun i j x y hi hj _ => ?_, fun k x hx => ?_⟩
  · have h0 : i < 1 := (List.getElem?_eq_some_iff.mp hi).1
    have h1 : j < 1 := (List.getElem?_eq_some_iff.mp hj).1
    omega
  · have h0 : k < 1 := (List.getElem?_eq_some_iff.mp hx).1
    rw [show k = 0 by omega] at hx
    cases hx
    exact h
/-! what the launch gives beside the tables' good words -/
/-- the array classes over House, over int and over rows of ints -/
def AOI (U : State) : Prop := ∃ (cI cA cc : ClassId) (kI kA : Class), U.vm.findClass "[I" = some cI ∧ U.vm.findClass "[[I" = some cA ∧ U.vm.classes[cA]? = some kA ∧ kA.kind = .array cI (.array .int) ∧ U.vm.classes[cI]? = some kI ∧ kI.kind = .array cc .int
theorem AOI.moved {u U : State} (hvm : u.vm.Alike U.vm) (h : AOI u) : AOI U := by
  obtain ⟨cI, cA, cc, kI, kA, h1, h2, h3, h4, h5, h6⟩ := h
  obtain ⟨kA', a1, a2⟩ := hvm.2.2 _ _ h3
  obtain ⟨kI', b1, b2⟩ := hvm.2.2 _ _ h5
  exact ⟨cI, cA, cc, kI', kA', by rw [hvm.findClass]; exact h1, by rw [hvm.findClass]; exact h2, a1, by rw [a2]; exact h4, b1, by rw [b2]; exact h6⟩
def AOF (U : State) : Prop := va_AO "BellParliament$House" U ∧ AOI U
theorem AOF.moved {u U : State} (hvm : u.vm.Alike U.vm) (h : AOF u) : AOF U := ⟨va_AO.moved hvm h.1, AOI.moved hvm h.2⟩
/-- the String constants, each by itself -/
def SS (Γ : Gm) (A : Nat → Prop) (U : State) (H : Heap) : Prop := ∀ i : Nat, i < 44 → vk_S 1 [sLen.getD i 0] [sByt.getD i []] (fun _ => Γ.2.2.1 i) (fun _ => Γ.2.2.2.1 i) A U H
/-- the law's array of texts; the script -/
def TXS (Γ : Gm) (A : Nat → Prop) (U : State) (H : Heap) : Prop :=
  va_Z "BellParliamentLaw" "TEXTS" "[Ljava/lang/String;" (.ref (Γ.2.2.1 44)) A U H ∧ va_T (.object "java/lang/String") (Γ.2.2.1 44) 31 (fun j => .ref (Γ.2.2.1 (13 + j))) A U H ∧ va_T .int Γ.2.2.2.2.1 Γ.2.2.2.2.2.1 (fun j => .int (Γ.2.2.2.2.2.2 j)) A U H ∧ Γ.2.2.2.2.2.1 ≤ 260
theorem SS.moved {Γ : Gm} {A : Nat → Prop} {u U : State} {H : Heap} (hvm : u.vm.Alike U.vm) (h : SS Γ A u H) : SS Γ A U H := fun i hi => vk_S.moved hvm (h i hi)
theorem SS.kept {Γ : Gm} {A : Nat → Prop} {U : State} {H H1 : Heap} (h : SS Γ A U H) (hq : ∀ a : Nat, a < H.size → ¬ A a → H1[a]? = H[a]?) : SS Γ A U H1 := fun i hi => (h i hi).kept hq
theorem SS.narrow {Γ : Gm} {A B : Nat → Prop} {U : State} {H : Heap} (h : SS Γ A U H) (hAB : ∀ q, B q → A q) : SS Γ B U H := fun i hi => (h i hi).narrow hAB
theorem TXS.moved {Γ : Gm} {A : Nat → Prop} {u U : State} {H : Heap} (hvm : u.vm.Alike U.vm) (h : TXS Γ A u H) : TXS Γ A U H := ⟨va_Z.moved hvm h.1, va_T.moved hvm h.2.1, va_T.moved hvm h.2.2.1, h.2.2.2⟩
theorem TXS.kept {Γ : Gm} {A : Nat → Prop} {U : State} {H H1 : Heap} (h : TXS Γ A U H) (hq : ∀ a : Nat, a < H.size → ¬ A a → H1[a]? = H[a]?) : TXS Γ A U H1 := ⟨h.1.kept hq, h.2.1.kept hq, h.2.2.1.kept hq, h.2.2.2⟩
theorem TXS.narrow {Γ : Gm} {A B : Nat → Prop} {U : State} {H : Heap} (h : TXS Γ A U H) (hAB : ∀ q, B q → A q) : TXS Γ B U H := ⟨h.1.narrow hAB, h.2.1.narrow hAB, h.2.2.1.narrow hAB, h.2.2.2⟩
def EnS (Γ : Gm) (A : Nat → Prop) (U : State) (H : Heap) : Prop :=
  SS Γ A U H ∧ (∀ i : Nat, i < 44 → vk_R (sOwn i) (sIdx i) (sTxt i) (Γ.2.2.1 i) U) ∧ va_Z "java/lang/String" "COMPACT_STRINGS" "Z" (.int 1) A U H ∧ ((va_Zq "jdk/internal/util/Preconditions" "SIOOBE_FORMATTER" "Ljava/util/function/BiFunction;" A U H ∧ TXS Γ A U H) ∧ AOF U)
def En (Γ : Gm) (A : Nat → Prop) (U : State) (H : Heap) : Prop :=
  va_K Γ.1 CL (TYS Γ) U ∧ vx_Zq Bundle.tN "UNASSIGNED_STACK" Bundle.steD A U H ∧ vx_Zq Bundle.tN "SUPPRESSED_SENTINEL" Bundle.listD A U H ∧ (∀ w ∈ NG, va_Nw w U) ∧ (∀ q ∈ NCl, va_Nc q.1 q.2 U) ∧ EnS Γ A U H
theorem ng_warm {w : Cond} (hw : w ∈ NG) {s U : State} (hW : s.WarmedH U.vm) (h : va_Nw w s) : va_Nw w U := by
  have hk := (List.mem_filter.mp hw).2
  cases w <;> first | (simp [ngk] at hk; done) | exact va_Nw.warmC hW h | exact va_Nw.warmF hW h | exact va_Nw.warmM hW h | exact va_tabs rfl (rfl : (s.setVm U.vm).vm = U.vm) (by rw [Cond.declares_setVm hW.alike]; exact h)
theorem En.warm {Γ : Gm} {A : Nat → Prop} {s U : State} {H : Heap} (hW : s.WarmedH U.vm) (h : En Γ A s H) : En Γ A U H :=
  ⟨va_K.moved hW.alike h.1, vx_Zq.moved hW.alike h.2.1, vx_Zq.moved hW.alike h.2.2.1, fun w hw => ng_warm hw hW (h.2.2.2.1 w hw), fun q hq => va_Nc.moved hW.alike (h.2.2.2.2.1 q hq), SS.moved hW.alike h.2.2.2.2.2.1, fun i hi => vk_R.warm hW (h.2.2.2.2.2.2.1 i hi), va_Z.moved hW.alike h.2.2.2.2.2.2.2.1, ⟨va_Zq.moved hW.alike h.2.2.2.2.2.2.2.2.1.1, TXS.moved hW.alike h.2.2.2.2.2.2.2.2.1.2⟩, AOF.moved hW.alike h.2.2.2.2.2.2.2.2.2⟩
theorem En.kept {Γ : Gm} {A : Nat → Prop} {U : State} {H H1 : Heap} (h : En Γ A U H) (hq : ∀ a : Nat, a < H.size → ¬ A a → H1[a]? = H[a]?) : En Γ A U H1 :=
  ⟨h.1, h.2.1.kept hq, h.2.2.1.kept hq, h.2.2.2.1, h.2.2.2.2.1, h.2.2.2.2.2.1.kept hq, h.2.2.2.2.2.2.1, h.2.2.2.2.2.2.2.1.kept hq, ⟨h.2.2.2.2.2.2.2.2.1.1.kept hq, h.2.2.2.2.2.2.2.2.1.2.kept hq⟩, h.2.2.2.2.2.2.2.2.2⟩
theorem En.narrow {Γ : Gm} {A B : Nat → Prop} {U : State} {H : Heap} (h : En Γ A U H) (hAB : ∀ q, B q → A q) : En Γ B U H :=
  ⟨h.1, h.2.1.narrow hAB, h.2.2.1.narrow hAB, h.2.2.2.1, h.2.2.2.2.1, h.2.2.2.2.2.1.narrow hAB, h.2.2.2.2.2.2.1, h.2.2.2.2.2.2.2.1.narrow hAB, ⟨h.2.2.2.2.2.2.2.2.1.1.narrow hAB, h.2.2.2.2.2.2.2.2.1.2.narrow hAB⟩, h.2.2.2.2.2.2.2.2.2⟩
theorem En.same {Γ : Gm} {A : Nat → Prop} {s U : State} {H : Heap} (hv : U.vm = s.vm) (h : En Γ A s H) : En Γ A U H := by
  refine En.warm ?_ h
  rw [hv]
  exact State.WarmedH.refl s
/-! ===== the judgement: p l e R s m args below meth c Γ A nL Q ===== -/
abbrev KT : Type := Program × Launch × Jvm.Env × Room × State × MethodId × Array Value × List Frame × Method × Code × Gm × (Nat → Prop) × Nat × (State → Prop)
abbrev KT.p (κ : KT) := κ.1
abbrev KT.l (κ : KT) := κ.2.1
abbrev KT.e (κ : KT) := κ.2.2.1
abbrev KT.R (κ : KT) := κ.2.2.2.1
abbrev KT.s (κ : KT) := κ.2.2.2.2.1
abbrev KT.m (κ : KT) := κ.2.2.2.2.2.1
abbrev KT.args (κ : KT) := κ.2.2.2.2.2.2.1
abbrev KT.below (κ : KT) := κ.2.2.2.2.2.2.2.1
abbrev KT.meth (κ : KT) := κ.2.2.2.2.2.2.2.2.1
abbrev KT.c (κ : KT) := κ.2.2.2.2.2.2.2.2.2.1
abbrev KT.Γ (κ : KT) := κ.2.2.2.2.2.2.2.2.2.2.1
abbrev KT.A (κ : KT) := κ.2.2.2.2.2.2.2.2.2.2.2.1
abbrev KT.nL (κ : KT) := κ.2.2.2.2.2.2.2.2.2.2.2.2.1
abbrev KT.Q (κ : KT) := κ.2.2.2.2.2.2.2.2.2.2.2.2.2
def Wk (κ : KT) (H : Heap) (locs : List Loc) (cells slots : Nat) (g : JFrame) : Prop := W κ.p κ.l κ.e κ.R κ.s κ.m κ.args κ.below κ.meth κ.c H locs cells slots κ.Q g
/-- the heap, what may be written, the frame of it -/
def Iv (κ : KT) (M : Hp) (H : Heap) (locs : List Loc) : Prop := HH κ.Γ M H ∧ (∀ q e, M q = some e → κ.A q) ∧ va_S κ.A κ.s.heap H locs
/-- from heap M, at pc, with these locals and this stack, the body comes to its end -/
def G (κ : KT) (M : Hp) (cells slots : Nat) (L : List (Nat × Value)) (pc : Nat) (st : List Value) : Prop :=
  ∀ (H : Heap) (locs : List Loc) (ls : Array Slot), Iv κ M H locs → lv_has ls κ.nL L → Wk κ H locs cells slots (F0 κ.m pc ls st)
/-- what holds all over a body -/
def Cx (κ : KT) (own : String) (cc : ByteArray) (rt : Option FieldType) (tab : List ExceptionTableEntry) (nm : String) : Prop :=
  κ.p.tables.exec = Jvm.exec ∧ κ.c.code = cc ∧ κ.c.maxLocals = κ.nL ∧ κ.meth.sig.returnType = rt ∧ κ.meth.locks = false ∧ κ.s.vm.findClass own = some κ.m.cls ∧ (∀ w ∈ TG, w.before κ.args κ.s = true) ∧ En κ.Γ κ.A κ.s κ.s.heap ∧ (∀ q, κ.s.heap.size ≤ q → κ.A q) ∧ κ.l.stackTraces = false ∧ κ.c.exceptionTable.toList = tab ∧ κ.meth.name = nm
/-- room by levels -/
def Rm (k mc ms : Nat) : Room := { frames := 12 + k, cells := mc, slots := ms, locals := 300 + 40 * k }
def Af (M : Hp) (sz : Nat) : Nat → Prop := fun q => (∃ e, M q = some e) ∨ sz ≤ q
abbrev Res : Type := Option Value ⊕ String
def PreC (Γ : Gm) (as : List Value) (M : Hp) (sz : Nat) : Array Value → State → Prop := va_Pc as (fun U => U.heap.size = sz ∧ HH Γ M U.heap ∧ En Γ (Af M sz) U U.heap)
def PostR (Γ : Gm) (M : Hp) (sz : Nat) (post : Res → Hp → Prop) : Array Value → State → Outcome → State → Prop := fun _ st o t =>
  ∃ (v : Option Value) (M' : Hp), o = .returned v ∧ post (.inl v) M' ∧ HH Γ M' t.heap ∧ (∀ q e, M' q = some e → Af M sz q) ∧ va_F (Af M sz) st t
def PostX (Γ : Gm) (M : Hp) (sz : Nat) (post : Res → Hp → Prop) : String → State → State → Prop := fun E st t =>
  ∃ (M' : Hp), post (.inr E) M' ∧ HH Γ M' t.heap ∧ (∀ q e, M' q = some e → Af M sz q) ∧ va_F (Af M sz) st t
/-- a contract: from heap M with these arguments it returns or throws, and 'post' says how -/
def Ct (l : Launch) (Γ : Gm) (y : MethodName) (cc : ByteArray) (maxL : Nat) (rt : Option FieldType) (k mc ms : Nat) (as : List Value) (M : Hp) (post : Res → Hp → Prop) : Prop :=
  ∀ sz, vx_Met l y (Cond.code y cc maxL rt :: TG) (Rm k mc ms) (PreC Γ as M sz) (PostR Γ M sz post) (PostX Γ M sz post) mc ms (Af M sz)
def CtW (l : Launch) (Γ : Gm) (y : MethodName) (cc : ByteArray) (maxL : Nat) (rt : Option FieldType) (hh : List (Nat × Nat × Nat × Nat)) (k mc ms : Nat) (as : List Value) (M : Hp) (post : Res → Hp → Prop) : Prop :=
  ∀ sz, vx_Met l y (Cond.codeWith y cc maxL rt hh :: TG) (Rm k mc ms) (PreC Γ as M sz) (PostR Γ M sz post) (PostX Γ M sz post) mc ms (Af M sz)
/-- a body's end: what it owes -/
def Fn (κ : KT) (M0 : Hp) (mc ms : Nat) (post : Res → Hp → Prop) : Prop :=
  κ.A = Af M0 κ.s.heap.size ∧ κ.Q = vx_MQ κ.below (PostR κ.Γ M0 κ.s.heap.size post) (PostX κ.Γ M0 κ.s.heap.size post) κ.args κ.s mc ms κ.A
theorem Ct.mono {l : Launch} {Γ : Gm} {y : MethodName} {cc : ByteArray} {maxL : Nat} {rt : Option FieldType} {k mc ms : Nat} {as : List Value} {M : Hp} {post post' : Res → Hp → Prop} (h : Ct l Γ y cc maxL rt k mc ms as M post) (hp : ∀ r M', post r M' → post' r M') : Ct l Γ y cc maxL rt k mc ms as M post' := by
  intro sz p e ha hc hk s m args below hf happ hP hK
  obtain ⟨n, o, h1, h2, h3, h4⟩ := h sz p e ha hc hk s m args below hf happ hP hK
  refine ⟨n, o, h1, h2, h3, ?_⟩
  rcases h4 with ⟨⟨v, M', e1, q1, q2⟩, hL⟩ | ⟨q, e1, E, ce, L, ⟨M', q1, q2⟩, hL⟩
  · exact Or.inl ⟨⟨v, M', e1, hp _ _ q1, q2⟩, hL⟩
  · exact Or.inr ⟨q, e1, E, ce, L, ⟨M', hp _ _ q1, q2⟩, hL⟩
/-- a contract out of a body's walk -/
theorem Ct.of {l : Launch} {Γ : Gm} {y : MethodName} {cc : ByteArray} {maxL : Nat} {rt : Option FieldType} {k mc ms : Nat} {as : List Value} {M : Hp} {post : Res → Hp → Prop} {L0 : List (Nat × Value)}
    (hl : l.stackTraces = false) (hy : plainName y.cls = true) (hn : (lg_sl as).length ≤ maxL) (hL : lv_args 0 as = L0)
    (body : ∀ κ : KT, κ.l = l → κ.Γ = Γ → κ.nL = maxL → κ.R = Rm k mc ms → Cx κ y.cls cc rt [] y.name → Fn κ M mc ms post → (∀ q e, M q = some e → q < κ.s.heap.size) → G κ M 0 0 L0 0 []) : Ct l Γ y cc maxL rt k mc ms as M post := by
  intro sz
  refine vx_ofW (cc := cc) (maxL := maxL) (ret := rt) hy rfl ?_
  intro p e s m args below meth c s₁ B hml ht hv
  obtain ⟨rfl, hsz, hH, hE⟩ := hv
  subst hsz
  have hts := atoms_spec (ws := Cond.code y cc maxL rt :: TG) B.pre
  have hown : s.vm.findClass y.cls = some m.cls := findClass_of_methodNamed B.named
  have hl0 := lv_entry as (n := maxL) hn
  rw [lg_entry_eq]
  refine body (p, l, e, Rm k mc ms, s, m, as.toArray, below, meth, c, Γ, Af M s.heap.size, maxL, vx_MQ below (PostR Γ M s.heap.size post) (PostX Γ M s.heap.size post) as.toArray s mc ms (Af M s.heap.size)) rfl rfl rfl rfl ?_ ⟨rfl, rfl⟩ (fun q e h => hH.lt h) s.heap [] _ ⟨hH, fun q e h => Or.inl ⟨e, h⟩, va_S.rf⟩ (hL ▸ hl0)
  refine ⟨B.exec, B.bytes, hml, B.returns, B.notSynchronized, hown, fun w hw => hts w (List.mem_cons_of_mem _ hw), hE, fun q h => Or.inr h, hl, ?_, (name_of_methodNamed B.named B.method).1⟩
  rw [List.eq_nil_iff_forall_not_mem]
  exact fun x hx => ht x hx
theorem CtW.of {l : Launch} {Γ : Gm} {y : MethodName} {cc : ByteArray} {maxL : Nat} {rt : Option FieldType} {hh : List (Nat × Nat × Nat × Nat)} {k mc ms : Nat} {as : List Value} {M : Hp} {post : Res → Hp → Prop} {L0 : List (Nat × Value)}
    (hl : l.stackTraces = false) (hy : plainName y.cls = true) (hn : (lg_sl as).length ≤ maxL) (hL : lv_args 0 as = L0)
    (body : ∀ κ : KT, κ.l = l → κ.Γ = Γ → κ.nL = maxL → κ.R = Rm k mc ms → Cx κ y.cls cc rt (tableOf hh) y.name → Fn κ M mc ms post → (∀ q e, M q = some e → q < κ.s.heap.size) → G κ M 0 0 L0 0 []) : CtW l Γ y cc maxL rt hh k mc ms as M post := by
  intro sz
  refine vx_ofWH (cc := cc) (maxL := maxL) (ret := rt) (hh := hh) hy rfl ?_
  intro p e s m args below meth c s₁ B hml hv
  obtain ⟨rfl, hsz, hH, hE⟩ := hv
  subst hsz
  have hts := atoms_spec (ws := Cond.codeWith y cc maxL rt hh :: TG) B.pre
  have hown : s.vm.findClass y.cls = some m.cls := findClass_of_methodNamed B.named
  have hl0 := lv_entry as (n := maxL) hn
  rw [lg_entry_eq]
  refine body (p, l, e, Rm k mc ms, s, m, as.toArray, below, meth, c, Γ, Af M s.heap.size, maxL, vx_MQ below (PostR Γ M s.heap.size post) (PostX Γ M s.heap.size post) as.toArray s mc ms (Af M s.heap.size)) rfl rfl rfl rfl ?_ ⟨rfl, rfl⟩ (fun q e h => hH.lt h) s.heap [] _ ⟨hH, fun q e h => Or.inl ⟨e, h⟩, va_S.rf⟩ (hL ▸ hl0)
  exact ⟨B.exec, B.bytes, hml, B.returns, B.notSynchronized, hown, fun w hw => hts w (List.mem_cons_of_mem _ hw), hE, fun q h => Or.inr h, hl, vx_table (x := y) B (hts _ List.mem_cons_self), (name_of_methodNamed B.named B.method).1⟩
