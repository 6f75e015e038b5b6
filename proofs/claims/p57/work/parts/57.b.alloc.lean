/-! ===== making: arrays of arrays ===== -/
section MZ
variable {p : Program} {l : Launch} {e : Env} {R : Room} {s : State} {m : MethodId} {args : Array Value} {below : List Frame} {meth : Method} {c : Code}
/-- where i inner rows have been made: the outer one at h0, the inner ones behind it, all else as it was -/
def MZ (T0 : State) (cA cI : ClassId) (N M i : Nat) (S : State) : Prop :=
  S.heap.size = T0.heap.size + 1 + i ∧ S.heap[T0.heap.size]? = some (arrV cA N (fun j => if j < i then .ref (T0.heap.size + 1 + j) else .null)) ∧ (∀ j, j < i → S.heap[T0.heap.size + 1 + j]? = some (arrV cI M (fun _ => .int 0))) ∧ (∀ q, q < T0.heap.size → S.heap[q]? = T0.heap[q]?) ∧ S.vm = T0.vm ∧ S.slotsUsed = T0.slotsUsed + N + i * M
theorem mz_ref {f g : Nat → Value} {c : ClassId} {N : Nat} (h : ∀ j, j < N → f j = g j) : arrV c N f = arrV c N g := by
  have e : (fun j : Fin N => f j.val) = (fun j : Fin N => g j.val) := funext fun j => h j.val j.isLt
  unfold arrV
  rw [e]
theorem MZ.zero (T0 : State) (cA cI : ClassId) (N M : Nat) : MZ T0 cA cI N M 0 (T0.pushCell { cls := cA, slots := Array.replicate N .null, vm := .none }) := by
  refine ⟨by simp, ?_, fun j hj => absurd hj (Nat.not_lt_zero _), fun q hq => State.heap_pushCell_of_lt _ _ hq, rfl, by simp⟩
  rw [arrV_new]
  simp
theorem MZ.next {T0 S : State} {cA cI : ClassId} {N M i : Nat} (h : MZ T0 cA cI N M i S) (hi : i < N) :
    MZ T0 cA cI N M (i + 1) ((S.pushCell { cls := cI, slots := Array.replicate M (.int 0), vm := .none }).setCell T0.heap.size ((arrV cA N (fun j => if j < i then .ref (T0.heap.size + 1 + j) else .null)).setSlot i (.ref S.heap.size))) := by
  obtain ⟨h1, h2, h3, h4, h5, h6⟩ := h
  have hlt : T0.heap.size < S.heap.size := by omega
  have hb : (S.pushCell { cls := cI, slots := Array.replicate M (.int 0), vm := .none }).heap[T0.heap.size]? = some (arrV cA N (fun j => if j < i then .ref (T0.heap.size + 1 + j) else .null)) := by rw [State.heap_pushCell_of_lt (h := hlt)]; exact h2
  refine ⟨?_, ?_, fun j hj => ?_, fun q hq => ?_, h5, ?_⟩
  · simp [State.setCell, h1]
    omega
  · rw [State.heap_setCell_self hb, h1, arrV_store]
    congr 1
    refine mz_ref fun j hj => ?_
    unfold updV
    by_cases e : j = i
    · subst e
      rw [if_pos rfl, if_pos (by omega)]
    · rw [if_neg e]
      show (if j < i then Value.ref (T0.heap.size + 1 + j) else .null) = _
      by_cases q : j < i
      · rw [if_pos q, if_pos (by omega)]
      · rw [if_neg q, if_neg (by omega)]
  · rw [State.heap_setCell_other (show T0.heap.size ≠ T0.heap.size + 1 + j by omega)]
    by_cases e : j = i
    · subst e
      rw [← h1, arrV_new]
      exact State.heap_pushCell_size _ _
    · have hq2 : T0.heap.size + 1 + j < S.heap.size := by omega
      rw [State.heap_pushCell_of_lt (h := hq2)]
      exact h3 j (by omega)
  · have hq2 : q < S.heap.size := by omega
    rw [State.heap_setCell_other (show T0.heap.size ≠ q by omega), State.heap_pushCell_of_lt (h := hq2)]
    exact h4 q hq
  · simp [h6, Nat.succ_mul]
    omega
/-- one new row -/
theorem mz_row {E : CtlPost} {e : Env} {d : Bool} {acts : List Action} {s : State} {c comp : ClassId} {k : Class} {type : FieldType} {len : Nat} {v : Value} (hk : s.vm.classes[c]? = some k) (hkind : k.kind = .array comp type)
    (hlimit : ¬ len > e.platform.arrayLengthLimit) (hheap : ¬ len * componentBytes type > e.platform.maxHeapBytes) (hfit : fits type v = true) (hdef : v.isDefault = true) {Q : Addr → Pre}
    (h1 : s.heap.size < e.platform.maxCells) (h2 : s.slotsUsed + len ≤ e.platform.maxSlots) (hq : Q s.heap.size d acts (s.pushCell { cls := c, slots := Array.replicate len v, vm := .none })) : wp (Jvm.newArray c len v) Q E e d acts s := by
  have hact : allocActs (Array.replicate len v) s.heap.size acts = acts := by
    unfold allocActs
    rw [if_pos]
    rw [Array.all_replicate]
    split <;> simp [hdef]
  simp only [Jvm.newArray, Jvm.arrayFits, wp_bind', W.ask, W.ite, hlimit, if_false, wp_pure', W.theClass, hk, hkind, hheap, W.alloc, W.stop, Option.some.injEq, exists_eq_left', Array.size_replicate, hact]
  rw [if_neg (by omega)]
  refine ⟨h1, h2, fun i w hw => ?_, hq⟩
  rw [Array.getElem?_replicate] at hw
  split at hw
  · cases hw
    simp [State.fitsSlot, State.slotType?, hk, hkind, hfit]
  · cases hw
def mzS (T0 : State) (cA cI : ClassId) (N M : Nat) : Nat → State
  | 0 => T0.pushCell { cls := cA, slots := Array.replicate N .null, vm := .none }
  | i + 1 => ((mzS T0 cA cI N M i).pushCell { cls := cI, slots := Array.replicate M (.int 0), vm := .none }).setCell T0.heap.size ((arrV cA N (fun j => if j < i then .ref (T0.heap.size + 1 + j) else .null)).setSlot i (.ref (mzS T0 cA cI N M i).heap.size))
theorem mzS_mz (T0 : State) (cA cI : ClassId) (N M : Nat) : ∀ i, i ≤ N → MZ T0 cA cI N M i (mzS T0 cA cI N M i)
  | 0, _ => MZ.zero T0 cA cI N M
  | i + 1, h => (mzS_mz T0 cA cI N M i (by omega)).next (by omega)
theorem mzS_top (T0 : State) (f : JFrame) (cA cI : ClassId) (N M : Nat) : ∀ i, mzS (T0.setTop f) cA cI N M i = (mzS T0 cA cI N M i).setTop f
  | 0 => rfl
  | i + 1 => by simp only [mzS, mzS_top T0 f cA cI N M i, State.heap_setTop, State.pushCell_setTop, State.setCell_setTop]
theorem mzS_stand {T0 : State} {locs : List Loc} {cells slots : Nat} (X : Stand p l e R s m args below meth c T0 locs cells slots) (cA cI : ClassId) (N M : Nat) : ∀ i, i ≤ N → Stand p l e R s m args below meth c (mzS T0 cA cI N M i) (locs ++ (List.range i).map fun j => ⟨T0.heap.size, j⟩) (cells + 1 + i) (slots + N + i * M)
  | 0, _ => by
    have h := X.pushed { cls := cA, slots := Array.replicate N .null, vm := .none }
    simpa [mzS] using h
  | i + 1, hi => by
    have Xi := mzS_stand X cA cI N M i (by omega)
    obtain ⟨z1, z2, -⟩ := mzS_mz T0 cA cI N M i (by omega)
    have hlt : T0.heap.size < (mzS T0 cA cI N M i).heap.size := by omega
    have hcell : ((mzS T0 cA cI N M i).pushCell { cls := cI, slots := Array.replicate M (.int 0), vm := .none }).heap[T0.heap.size]? = some (arrV cA N (fun j => if j < i then .ref (T0.heap.size + 1 + j) else .null)) := by rw [State.heap_pushCell_of_lt (h := hlt)]; exact z2
    have h := (Xi.pushed { cls := cI, slots := Array.replicate M (.int 0), vm := .none }).stored hcell i (.ref (mzS T0 cA cI N M i).heap.size)
    rw [show (({ cls := cI, slots := Array.replicate M (.int 0), vm := .none } : Cell)).slots.size = M by simp, List.append_assoc] at h
    rw [show slots + N + (i + 1) * M = slots + N + i * M + M by rw [Nat.succ_mul]; omega, List.range_succ, List.map_append]
    exact h
theorem mz_make {E : CtlPost} {e : Env} {d : Bool} {acts : List Action} {T0 : State} {cA cI ci : ClassId} {kA kI : Class} {n k : Int32} {N M : Nat} {t0 : FieldType}
    (hkA : T0.vm.classes[cA]? = some kA) (hkindA : kA.kind = .array cI t0) (href : ∀ v, v = .null ∨ (∃ a, v = .ref a) → fits t0 v = true) (hkI : T0.vm.classes[cI]? = some kI) (hkindI : kI.kind = .array ci .int) (hn : ¬ n < 0) (hk : ¬ k < 0) (hN : n.toNatClampNeg = N) (hM : k.toNatClampNeg = M)
    (hl1 : ¬ N > e.platform.arrayLengthLimit) (hh1 : ¬ N * componentBytes t0 > e.platform.maxHeapBytes) (hl2 : ¬ M > e.platform.arrayLengthLimit) (hh2 : ¬ M * componentBytes .int > e.platform.maxHeapBytes) (hc : T0.heap.size + 1 + N ≤ e.platform.maxCells) (hs : T0.slotsUsed + N + N * M ≤ e.platform.maxSlots)
    {Q : Addr → Pre} (hq : ∀ d' acts', Q T0.heap.size d' acts' (mzS T0 cA cI N M N)) : wp (multianewarray.make cA [n, k]) Q E e d acts T0 := by
  have hfind : ([k].find? (· < 0)) = none := by simp [hk]
  rw [multianewarray.make]
  simp only [wp_bind', W.ite, hn, if_false, wp_pure', W.theClass, hkA, hkindA, Option.some.injEq, exists_eq_left']
  rw [hN]
  refine mz_row hkA hkindA hl1 hh1 (href _ (Or.inl rfl)) rfl (by omega) (by have := Nat.zero_le (N * M); omega) ?_
  simp only [hfind]
  rw [ite_self, wp_bind', Std.Legacy.Range.forIn_eq_forIn_range']
  rw [show ([:N] : Std.Legacy.Range).size = N by simp [Std.Legacy.Range.size]]
  show wp (forIn (List.range' 0 N 1) PUnit.unit _) _ E e d acts _
  refine wp_forIn_inv (fun rest s' => ∃ i, i ≤ N ∧ rest = List.range' i (N - i) ∧ s' = mzS T0 cA cI N M i) _ _ ⟨0, Nat.zero_le _, rfl, rfl⟩ ?_ ?_
  · rintro x rest s' d' acts' Q' ⟨i, hi, hr, rfl⟩ hnext
    have hlt : i < N := by
      rcases Nat.lt_or_ge i N with h | h
      · exact h
      · rw [show N - i = 0 by omega] at hr; cases hr
    rw [show N - i = (N - (i + 1)) + 1 by omega, List.range'_succ] at hr
    obtain ⟨rfl, rfl⟩ := List.cons.inj hr
    obtain ⟨z1, z2, z3, z4, z5, z6⟩ := mzS_mz T0 cA cI N M x hi
    have hmul : x * M + M ≤ N * M := by
      have := Nat.mul_le_mul_right M (show x + 1 ≤ N from hlt)
      rw [Nat.succ_mul] at this
      exact this
    have hlt0 : T0.heap.size < (mzS T0 cA cI N M x).heap.size := by omega
    simp only [wp_bind']
    rw [multianewarray.make]
    simp only [wp_bind', W.ite, hk, if_false, wp_pure', W.theClass, z5, hkI, hkindI, Option.some.injEq, exists_eq_left']
    rw [hM]
    refine mz_row (k := kI) (by rw [z5]; exact hkI) hkindI hl2 hh2 rfl rfl (by omega) (by omega) ?_
    simp only [wp_bind', W.writeLoc, wp_pure']
    refine ⟨arrV cA N (fun j => if j < x then .ref (T0.heap.size + 1 + j) else .null), by rw [State.heap_pushCell_of_lt (h := hlt0)]; exact z2, by simp [arrV], by rw [arrV_size]; exact hlt, ?_, hnext _ _ _ ⟨x + 1, hlt, rfl, rfl⟩⟩
    simp [arrV, State.fitsSlot, State.slotType?, z5, hkA, hkindA, href _ (Or.inr ⟨_, rfl⟩)]
  · rintro s' d' acts' ⟨i, hi, hr, rfl⟩
    have hiN : i = N := by
      rcases Nat.lt_or_ge i N with h | h
      · rw [show N - i = (N - (i + 1)) + 1 by omega, List.range'_succ] at hr; cases hr
      · omega
    subst hiN
    simp only [wp_pure']
    exact hq _ _
end MZ
section WM
variable {p : Program} {l : Launch} {e : Env} {R : Room} {s : State} {m : MethodId} {args : Array Value} {below : List Frame} {meth : Method} {c : Code} {H : Heap} {locs : List Loc} {cells slots : Nat} {Q : State → Prop}
theorem w_mana {cc : ByteArray} (hexec : p.tables.exec = Jvm.exec) (hb : c.code = cc) {own : String} {index : Nat} (hown : s.vm.findClass own = some m.cls) (hcl : (Cond.classLink own index "[[I").before args s = true) (hA : AOI s) {n k : Int32} {N M : Nat} {pc : Nat} {ls : Array Slot} {rest : List Value}
    (hn : ¬ n < 0) (hk : ¬ k < 0) (hN : n.toNatClampNeg = N) (hM : k.toNatClampNeg = M) (hN2 : N * 4 ≤ 536870912) (hM2 : M * 4 ≤ 536870912) (hcells : cells + (1 + N) ≤ R.cells) (hslots : slots + (N + N * M) ≤ R.slots) (hdg : decode cc pc = .ok (.multianewarray index 2, 4))
    (kk : ∀ (H1 : Heap) (L1 : List Loc) (cA cI : ClassId), s.vm.findClass "[I" = some cI → s.vm.findClass "[[I" = some cA → H1.size = H.size + 1 + N → H1[H.size]? = some (arrV cA N (fun j => .ref (H.size + 1 + j))) → (∀ j, j < N → H1[H.size + 1 + j]? = some (arrV cI M (fun _ => .int 0))) → (∀ q, q < H.size → H1[q]? = H[q]?) → (∀ q ∈ L1, q.base = H.size) →
      W p l e R s m args below meth c H1 (locs ++ L1) (cells + 1 + N) (slots + N + N * M) Q (F0 m (pc + 4) ls (.ref H.size :: rest))) : W p l e R s m args below meth c H locs cells slots Q (F0 m pc ls (.int k :: .int n :: rest)) := by
  intro T hT X
  subst hT; subst hb
  obtain ⟨cI, cA, ci, kI, kA, f1, f2, f3, f4, f5, f6⟩ := hA
  have hpl : e.platform.magicAccessors = ({} : Platform).magicAccessors := by rw [X.admits.platform]
  obtain ⟨c0, g1, g2⟩ := Cond.classLink_spec hown hcl e.platform hpl
  cases f2.symm.trans g1
  obtain ⟨hg₁, hwarm₁, hready₁⟩ := State.classEntry (e := e) X.warmed g2
  generalize T.vm.noted m.cls index (.cls cA) = vm₁ at hg₁ hwarm₁ hready₁
  obtain ⟨kA₁, a1, a2⟩ := hwarm₁.alike.2.2 _ _ f3
  obtain ⟨kI₁, b1, b2⟩ := hwarm₁.alike.2.2 _ _ f5
  have X₁ := X.noted hwarm₁
  obtain ⟨r1, r2⟩ := X.roomAbove hcells hslots
  have hl1 : ¬ N > e.platform.arrayLengthLimit := by rw [Launch.admits_arrayLengthLimit X.admits]; omega
  have hh1 : ¬ N * componentBytes (.array .int) > e.platform.maxHeapBytes := by rw [Launch.admits_maxHeapBytes X.admits]; show ¬ N * 4 > 536870912; omega
  have hl2 : ¬ M > e.platform.arrayLengthLimit := by rw [Launch.admits_arrayLengthLimit X.admits]; omega
  have hh2 : ¬ M * componentBytes .int > e.platform.maxHeapBytes := by rw [Launch.admits_maxHeapBytes X.admits]; show ¬ M * 4 > 536870912; omega
  have XF := mzS_stand X₁ cA cI N M N (Nat.le_refl N)
  obtain ⟨z1, z2, z3, z4, z5, z6⟩ := mzS_mz (T.setVm vm₁) cA cI N M N (Nat.le_refl N)
  obtain ⟨t, st, hQ⟩ := kk (mzS (T.setVm vm₁) cA cI N M N).heap _ cA cI f1 f2 z1 (z2.trans (congrArg some (mz_ref fun j hj => if_pos hj))) z3 z4 (fun q hq => by obtain ⟨j, -, rfl⟩ := List.mem_map.mp hq; rfl) _ rfl XF
  refine ⟨t, ?_, hQ⟩
  jvm_step X.here [hexec, hdg]
  simp only [multianewarray.sem, wp_bind', W.resolveClassAt_links (State.method?_setTop (F0 m pc ls (.int k :: .int n :: rest)) X.here.top) hg₁]
  rw [W.popN, if_neg (by decide)]
  refine ⟨F0 m pc ls (.int k :: .int n :: rest), State.topJava?_setTop' (s := T.setVm vm₁) _ X.here.top, [.int n, .int k], rest, rfl, rfl, ?_⟩
  simp only [List.mapM_cons, List.mapM_nil, wp_bind', wp_pure']
  refine mz_make (kA := kA₁) (kI := kI₁) (ci := ci) (t0 := .array .int) a1 (by rw [a2]; exact f4) (fun v hv => by rcases hv with rfl | ⟨_, rfl⟩ <;> rfl) b1 (by rw [b2]; exact f6) hn hk hN hM hl1 hh1 hl2 hh2 (by show T.heap.size + 1 + N ≤ _; omega) (by show T.slotsUsed + N + N * M ≤ _; omega) (fun d' acts' => ?_)
  rw [show ((T.setTop (F0 m pc ls (.int k :: .int n :: rest))).setVm vm₁).setTop { (F0 m pc ls (.int k :: .int n :: rest)) with stack := rest } = (T.setVm vm₁).setTop { (F0 m pc ls (.int k :: .int n :: rest)) with stack := rest } from by
    show ((T.setVm vm₁).setTop _).setTop _ = _
    rw [State.setTop_setTop]]
  rw [mzS_top]
  simp only [wp_bind', W.mark, W.pushRef, State.topJava?_setTop' _ XF.here.top, Option.some.injEq, exists_eq_left', State.setTop_setTop, State.heap_setTop]
  intro acts
  simp [jvm, XF.here.top]
  exact st
end WM
/-! ===== making, over heaps as functions ===== -/
section GA
variable {κ : KT} {own : String} {cc : ByteArray} {rt : Option FieldType} {tab : List ExceptionTableEntry} {nm : String} {M : Hp} {cells slots pc : Nat} {L : List (Nat × Value)} {rest : List Value}
/-- an address above all that are told -/
def Abv (M : Hp) (q : Nat) : Prop := ∀ x e, M x = some e → x < q
theorem Abv.none {M : Hp} {q : Nat} (h : Abv M q) : M q = none := by
  cases h1 : M q with
  | none => rfl
  | some e => exact absurd (h q e h1) (Nat.lt_irrefl q)
theorem Abv.ne {M : Hp} {q x : Nat} {e : va_E} (h : Abv M q) (hx : M x = some e) : x ≠ q := Nat.ne_of_lt (h x e hx)
theorem Iv.new {H H1 : Heap} {locs : List Loc} (hI : Iv κ M H locs) {e : va_E} (hA : ∀ q, κ.s.heap.size ≤ q → κ.A q) (h1 : va_at κ.Γ.1 CL (H.size, e) H1) (o1 : ∀ q : Nat, q < H.size → H1[q]? = H[q]?) (z : H.size ≤ H1.size) : Iv κ (hup M H.size e) H1 locs := by
  obtain ⟨g1, g2, g3, g4, g5⟩ := hI
  refine ⟨fun q e1 he => ?_, fun q e1 he => ?_, Nat.le_trans g3 z, fun q h2 h3 => (o1 q (Nat.lt_of_lt_of_le h2 g3)).trans (g4 q h2 h3), g5⟩
  · by_cases hq : q = H.size
    · subst hq
      rw [hup_s] at he
      cases he
      exact h1
    · rw [hup_n hq] at he
      exact (g1 q e1 he).kept (o1 q (g1.lt he))
  · by_cases hq : q = H.size
    · subst hq; exact hA _ g3
    · rw [hup_n hq] at he; exact g2 q e1 he
theorem Iv.abv {H : Heap} {locs : List Loc} (hI : Iv κ M H locs) : Abv M H.size := fun _ _ he => hI.1.lt he
theorem g_newa (X : Cx κ own cc rt tab nm) {at_ : ArrayType} {t0 N : Nat} {ty : FieldType} {a0 : vp_A} {n : Int32} (d : decode cc pc = .ok (.newarray at_, 2)) (harr : Cond.arrayClass (newarray.typeOf at_) ∈ TG) (hty : newarray.typeOf at_ = ty) (ht : (TYS κ.Γ)[t0]? = some (κ.Γ.2.1 t0, ty)) (ha : ∀ cA : ClassId, vp_cell cA a0 = arrV cA N (fun _ => defaultValue ty)) (hn : ¬ n < 0) (hN : n.toNatClampNeg = N) (hb : N * componentBytes ty ≤ 536870912) (hcells : cells + 1 ≤ κ.R.cells) (hslots : slots + N ≤ κ.R.slots)
    (k9 : ∀ q, Abv M q → G κ (hup M q (.inl (κ.Γ.2.1 t0, a0))) (cells + 1) (slots + N) L (pc + 2) (.ref q :: rest)) : G κ M cells slots L pc (.int n :: rest) := by
  subst hty
  intro H locs ls hI hl
  refine va_newaK X.1 X.2.1 (X.2.2.2.2.2.2.1 _ harr) rfl d rfl hn hN hb hcells hslots rfl fun H1 cA e1 z1 o1 hAr hNm => ?_
  have hcA : cA = κ.Γ.2.1 t0 := by
    have h2 := (X.2.2.2.2.2.2.2.1.1.2 t0 _ ht).2
    cases at_ <;> exact Option.some.inj (hNm.symm.trans h2)
  subst hcA
  exact k9 H.size hI.abv H1 locs ls (hI.new X.2.2.2.2.2.2.2.2.1 (by show H1[H.size]? = some (vp_cell _ _); rw [ha]; exact e1) o1 (by omega)) hl
theorem g_new (X : Cx κ own cc rt tab nm) {idx ci N : Nat} {C : String} {T : u_T} {fs : List Value} (d : decode cc pc = .ok (.new idx, 3)) (hc : CL[ci]? = some (C, T, N)) (h1 : Cond.classLink own idx C ∈ TG) (h2 : Cond.instantiable C N ∈ TG) (h3 : Cond.initialized C ∈ TG) (hfs : ∀ (ty : Nat → FieldType), (∀ k, k < N → parseFieldDescriptor (T k).2.2.1 = some (ty k)) → ∀ j, j < N → defaultValue (ty j) = vp_V fs j) (hcells : cells + 1 ≤ κ.R.cells) (hslots : slots + N ≤ κ.R.slots)
    (k9 : ∀ q, Abv M q → G κ (hup M q (.inr (ci, fs))) (cells + 1) (slots + N) L (pc + 3) (.ref q :: rest)) : G κ M cells slots L pc rest := by
  obtain ⟨ty, hty⟩ := cl_ty hc
  intro H locs ls hI hl
  have hts := X.2.2.2.2.2.2.1
  have hKn := X.2.2.2.2.2.2.2.1.1.1 ci _ hc
  refine W.newcK X.1 X.2.1 X.2.2.2.2.2.1 (hts _ h1) (hts _ h2) (hts _ h3) rfl d hcells hslots hKn.2.1 rfl fun H1 kC hkC e1 z1 o1 => ?_
  exact k9 H.size hI.abv H1 locs ls (hI.new X.2.2.2.2.2.2.2.2.1 ⟨_, hc, (u_born ty hts (cl_in hc) hKn hkC e1 hty).to (hfs ty hty)⟩ o1 (by omega)) hl
theorem g_anew (X : Cx κ own cc rt tab nm) {idx N : Nat} {n : Int32} (d : decode cc pc = .ok (.anewarray idx, 3)) (h1 : Cond.classLink own idx "BellParliament$House" ∈ TG) (hn : ¬ n < 0) (hN : n.toNatClampNeg = N) (hb : N * 4 ≤ 536870912) (hcells : cells + 1 ≤ κ.R.cells) (hslots : slots + N ≤ κ.R.slots)
    (k9 : ∀ q, Abv M q → G κ (hup M q (.inl (κ.Γ.2.1 4, N, .inr (.inr (.inr (.inr (fun _ => none))))))) (cells + 1) (slots + N) L (pc + 3) (.ref q :: rest)) : G κ M cells slots L pc (.int n :: rest) := by
  subst hN
  intro H locs ls hI hl
  refine W.anew X.1 X.2.1 X.2.2.2.2.2.1 (X.2.2.2.2.2.2.1 _ h1) (va_AO.use X.2.2.2.2.2.2.2.1.2.2.2.2.2.2.2.2.2.1) rfl d rfl hn hb hcells hslots fun cA kA comp f1 f2 f3 f4 => ?_
  generalize hH1 : H.push ({ cls := cA, slots := Array.replicate n.toNatClampNeg .null, vm := .none } : Cell) = H1
  have z1 : H1.size = H.size + 1 := by rw [← hH1, Array.size_push]
  have e1 : H1[H.size]? = some (arrV cA n.toNatClampNeg (fun _ => .null)) := by rw [← hH1, Array.getElem?_push_size, ← arrV_new]
  have o1 : ∀ q : Nat, q < H.size → H1[q]? = H[q]? := fun q hq => by rw [← hH1, Array.getElem?_push, if_neg (Nat.ne_of_lt hq)]
  have hcA : cA = κ.Γ.2.1 4 := by
    obtain ⟨kB, comp2, g1, g2, g3, g4⟩ := (X.2.2.2.2.2.2.2.1.1.2 4 (κ.Γ.2.1 4, .object "BellParliament$House") rfl).2
    exact Option.some.inj (f1.symm.trans g4)
  subst hcA
  exact k9 H.size hI.abv H1 locs ls (hI.new X.2.2.2.2.2.2.2.2.1 (by show H1[H.size]? = some (vp_cell _ _); rw [vp_cell_q]; exact e1) o1 (by omega)) hl
/-- an array of rows of ints: the outer one at h, the inner ones behind it -/
def mUp (M : Hp) (h N : Nat) (eo ei : va_E) : Hp := fun x => if x = h then some eo else if h < x ∧ x < h + 1 + N then some ei else M x
theorem mUp_o {M : Hp} {h N : Nat} {eo ei : va_E} : mUp M h N eo ei h = some eo := if_pos rfl
theorem mUp_i {M : Hp} {h N j : Nat} {eo ei : va_E} (hj : j < N) : mUp M h N eo ei (h + 1 + j) = some ei := (if_neg (by omega)).trans (if_pos (by omega))
theorem mUp_n {M : Hp} {h N x : Nat} {eo ei : va_E} (hx : x < h ∨ h + 1 + N ≤ x) : mUp M h N eo ei x = M x := (if_neg (by omega)).trans (if_neg (by omega))
abbrev mOut (Γ : Gm) (h N : Nat) : va_E := .inl (Γ.2.1 3, N, .inr (.inr (.inr (.inr (fun b => if b < N then some (h + 1 + b) else none)))))
abbrev mInn (Γ : Gm) (K : Nat) : va_E := .inl (Γ.2.1 0, K, .inl (fun _ => 0))
theorem g_mana (X : Cx κ own cc rt tab nm) {idx N K : Nat} {n k : Int32} (d : decode cc pc = .ok (.multianewarray idx 2, 4)) (h1 : Cond.classLink own idx "[[I" ∈ TG) (hn : ¬ n < 0) (hk : ¬ k < 0) (hN : n.toNatClampNeg = N) (hK : k.toNatClampNeg = K) (b1 : N * 4 ≤ 536870912) (b2 : K * 4 ≤ 536870912) (hcells : cells + (1 + N) ≤ κ.R.cells) (hslots : slots + (N + N * K) ≤ κ.R.slots)
    (k9 : ∀ h, Abv M h → G κ (mUp M h N (mOut κ.Γ h N) (mInn κ.Γ K)) (cells + 1 + N) (slots + N + N * K) L (pc + 4) (.ref h :: rest)) : G κ M cells slots L pc (.int k :: .int n :: rest) := by
  intro H locs ls hI hl
  refine w_mana X.1 X.2.1 X.2.2.2.2.2.1 (X.2.2.2.2.2.2.1 _ h1) X.2.2.2.2.2.2.2.1.2.2.2.2.2.2.2.2.2.2 hn hk hN hK b1 b2 hcells hslots d fun H1 L1 cA cI f1 f2 z o1 o2 o3 hL => ?_
  have hcA : cA = κ.Γ.2.1 3 := by
    have h2 : κ.s.vm.findClass ("[" ++ (FieldType.array FieldType.int).toString) = some (κ.Γ.2.1 3) := (X.2.2.2.2.2.2.2.1.1.2 3 (κ.Γ.2.1 3, .array .int) rfl).2
    exact Option.some.inj (f2.symm.trans h2)
  have hcI : cI = κ.Γ.2.1 0 := by
    have h2 : κ.s.vm.findClass ("[" ++ FieldType.int.toString) = some (κ.Γ.2.1 0) := (X.2.2.2.2.2.2.2.1.1.2 0 (κ.Γ.2.1 0, .int) rfl).2
    exact Option.some.inj (f1.symm.trans h2)
  subst hcA hcI
  obtain ⟨g1, g2, g3, g4, g5⟩ := hI
  refine k9 H.size (fun _ _ he => g1.lt he) H1 (locs ++ L1) ls ⟨fun q e he => ?_, fun q e he => ?_, by omega, fun q h2 h3 => (o3 q (Nat.lt_of_lt_of_le h2 g3)).trans (g4 q h2 h3), fun q hq => ?_⟩ hl
  · by_cases e1 : q = H.size
    · subst e1
      rw [mUp_o] at he
      cases he
      show H1[H.size]? = some (vp_cell _ _)
      rw [vp_cell_q, o1]
      exact congrArg some (mz_ref fun j hj => by rw [if_pos hj]; rfl)
    · by_cases e2 : H.size < q ∧ q < H.size + 1 + N
      · obtain ⟨j, rfl⟩ : ∃ j, q = H.size + 1 + j := ⟨q - H.size - 1, by omega⟩
        have hj : j < N := by omega
        rw [mUp_i hj] at he
        cases he
        show H1[H.size + 1 + j]? = some (vp_cell _ _)
        rw [vp_cell_i]
        exact o2 j hj
      · rw [mUp_n (by omega)] at he
        exact (g1 q e he).kept (o3 q (g1.lt he))
  · by_cases e2 : H.size ≤ q
    · exact X.2.2.2.2.2.2.2.2.1 q (Nat.le_trans g3 e2)
    · rw [mUp_n (by omega)] at he
      exact g2 q e he
  · rcases List.mem_append.mp hq with h2 | h2
    · exact g5 q h2
    · rw [hL q h2]; exact X.2.2.2.2.2.2.2.2.1 _ g3
theorem g_objI (X : Cx κ own cc rt tab nm) {idx b : Nat} (d : decode cc pc = .ok (.invokespecial idx, 3)) (h1 : Cond.methodLink own idx (⟨"java/lang/Object", "<init>", "()V"⟩ : MethodName) ∈ TG) (hf : 1 ≤ κ.R.frames) (hr : (rest.map fun v => v.category).sum + 12 ≤ κ.R.locals) (k9 : G κ M cells slots L (pc + 3) rest) : G κ M cells slots L pc (.ref b :: rest) := by
  intro H locs ls hI hl
  have hts := X.2.2.2.2.2.2.1
  exact W.objInit X.1 X.2.1 X.2.2.2.2.2.1 (hts _ h1) (hts _ k32) (hts _ k33) rfl (hl.1.trans X.2.2.1.symm) rfl d hf (by show 2 * 0 + _ + 12 ≤ _; omega) (k9 H locs ls hI hl)
/-- a nest mate's own constructor -/
theorem g_callIN (X : Cx κ own cc rt tab nm) {y : MethodName} {bytes : ByteArray} {maxL idx k mc ms b : Nat} {host : String} {As : List Value} {st0 : List Value} {post : Res → Hp → Prop} (d : decode cc pc = .ok (.invokespecial idx, 3)) (hC : Ct κ.l κ.Γ y bytes maxL none k mc ms (.ref b :: As) M post)
    (h1 : Cond.methodLinkNest own idx y host ∈ NG) (h2 : Cond.instanceMethod y ∈ TG) (h4 : Cond.initialized y.cls ∈ TG) (h5 : Cond.code y bytes maxL none ∈ TG) (hy : y.name = "<init>")
    (hd : y.cls ≠ "java/lang/invoke/MethodHandle" ∧ y.cls ≠ "java/lang/invoke/VarHandle" ∧ (parseMethodDescriptor y.desc).map (fun d => d.parameters.length) = some As.length) (hst : st0 = As.reverse ++ .ref b :: rest) (hW : (rest.map fun v => v.category).sum ≤ 8) (hR : 12 + k + 1 ≤ κ.R.frames ∧ 8 + (maxL + 11) + (300 + 40 * k) ≤ κ.R.locals) (hf : cells + mc ≤ κ.R.cells ∧ slots + ms ≤ κ.R.slots)
    (kk : ∀ v M', post (.inl v) M' → G κ M' (cells + mc) (slots + ms) L (pc + 3) (v.toList ++ rest)) (kx : ∀ E M', post (.inr E) M' → GX κ M' (cells + mc) (slots + ms) L pc rest E) : G κ M cells slots L pc st0 := by
  intro H locs ls hI hl
  have hts := X.2.2.2.2.2.2.1
  have hG : GoodIn TG (Cond.code y bytes maxL none :: TG) := by
    intro w hw
    have hm : w ∈ TG := by
      rcases List.mem_cons.mp hw with rfl | hw <;> assumption
    exact tg_in w hm
  have hrun : vx_Run κ.p κ.l κ.e κ.R κ.s κ.m κ.args κ.below κ.meth κ.c H locs cells slots mc ms (F0 κ.m pc ls st0) rest (PostR κ.Γ M H.size post (.ref b :: As).toArray) (PostX κ.Γ M H.size post) (Af M H.size) := vx_runIN (As := As) (rest := rest) (g := F0 κ.m pc ls st0) (nL := κ.nL) (cells := cells) (slots := slots) (H := H) (locs := locs) ⟨X.1, X.2.1, X.2.2.1, X.2.2.2.2.2.1, hts⟩ (hC H.size) ⟨va_cnB As.length hts hG rfl rfl rfl (X.2.2.2.2.2.2.2.1.2.2.2.1 _ h1) (hts _ h4) hd hR, hy, hts _ h2⟩
    ⟨pre_blind _ _ _ _, fun U hU hW => ⟨rfl, by rw [hU], by rw [hU]; exact hI.1, en_callee X hI hU hW⟩⟩ rfl rfl hl.1 hst (lv_room hW) d hf
  exact g_back (y := y) X hI hl hrun kk kx
theorem g_callI (X : Cx κ own cc rt tab nm) {y : MethodName} {bytes : ByteArray} {maxL idx k mc ms b : Nat} {As : List Value} {st0 : List Value} {post : Res → Hp → Prop} (d : decode cc pc = .ok (.invokespecial idx, 3)) (hC : Ct κ.l κ.Γ y bytes maxL none k mc ms (.ref b :: As) M post)
    (h1 : Cond.methodLink own idx y ∈ TG) (h2 : Cond.instanceMethod y ∈ TG) (h4 : Cond.initialized y.cls ∈ TG) (h5 : Cond.code y bytes maxL none ∈ TG) (hy : y.name = "<init>")
    (hd : y.cls ≠ "java/lang/invoke/MethodHandle" ∧ y.cls ≠ "java/lang/invoke/VarHandle" ∧ (parseMethodDescriptor y.desc).map (fun d => d.parameters.length) = some As.length) (hst : st0 = As.reverse ++ .ref b :: rest) (hW : (rest.map fun v => v.category).sum ≤ 8) (hR : 12 + k + 1 ≤ κ.R.frames ∧ 8 + (maxL + 11) + (300 + 40 * k) ≤ κ.R.locals) (hf : cells + mc ≤ κ.R.cells ∧ slots + ms ≤ κ.R.slots)
    (kk : ∀ v M', post (.inl v) M' → G κ M' (cells + mc) (slots + ms) L (pc + 3) (v.toList ++ rest)) (kx : ∀ E M', post (.inr E) M' → GX κ M' (cells + mc) (slots + ms) L pc rest E) : G κ M cells slots L pc st0 := by
  intro H locs ls hI hl
  have hts := X.2.2.2.2.2.2.1
  have hG : GoodIn TG (Cond.code y bytes maxL none :: TG) := by
    intro w hw
    have hm : w ∈ TG := by
      rcases List.mem_cons.mp hw with rfl | hw <;> assumption
    exact tg_in w hm
  have hrun : vx_Run κ.p κ.l κ.e κ.R κ.s κ.m κ.args κ.below κ.meth κ.c H locs cells slots mc ms (F0 κ.m pc ls st0) rest (PostR κ.Γ M H.size post (.ref b :: As).toArray) (PostX κ.Γ M H.size post) (Af M H.size) := vx_runI (As := As) (rest := rest) (g := F0 κ.m pc ls st0) (nL := κ.nL) (cells := cells) (slots := slots) (H := H) (locs := locs) ⟨X.1, X.2.1, X.2.2.1, X.2.2.2.2.2.1, hts⟩ (hC H.size) (cwI As.length hts hG rfl rfl rfl (hts _ h4) (hts _ h1) (hts _ h2) hy hd hR)
    ⟨pre_blind _ _ _ _, fun U hU hW => ⟨rfl, by rw [hU], by rw [hU]; exact hI.1, en_callee X hI hU hW⟩⟩ rfl rfl hl.1 hst (lv_room hW) d hf
  exact g_back (y := y) X hI hl hrun kk kx
end GA
