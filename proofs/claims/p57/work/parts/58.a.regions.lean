/-! ===== regions that grow ===== -/
/-- since M0 the cells a 0 .. a (n-1) were written or made; all but the first are new -/
def Rq (M0 : Hp) (a : Nat → Nat) (n : Nat) (f : Nat → va_E) (M : Hp) : Prop := Rp a n f M ∧ Fr a n M0 M ∧ ∀ i, 1 ≤ i → i < n → M0 (a i) = none
def apn {α : Type} (n : Nat) (a b : Nat → α) : Nat → α := fun i => if i < n then a i else b (i - n)
theorem apn_l {α : Type} {n i : Nat} {a b : Nat → α} (h : i < n) : apn n a b i = a i := if_pos h
theorem apn_r {α : Type} {n i : Nat} {a b : Nat → α} : apn n a b (n + i) = b i := by
  unfold apn
  rw [if_neg (by omega), Nat.add_sub_cancel_left]
theorem apn_r' {α : Type} {n i : Nat} {a b : Nat → α} (h : n ≤ i) : apn n a b i = b (i - n) := if_neg (by omega)
theorem Rq.one {M : Hp} {q : Nat} {e : va_E} (h : M q = some e) : Rq M (fun _ => q) 1 (fun _ => e) M := ⟨⟨fun _ _ => h, fun i j hi hj _ => by omega⟩, Fr.rf, fun i h1 h2 => by omega⟩
theorem Rq.get {M0 M : Hp} {a : Nat → Nat} {n : Nat} {f : Nat → va_E} (h : Rq M0 a n f M) (i : Nat) (hi : i < n) : M (a i) = some (f i) := h.1.1 i hi
theorem Rq.put {M0 M : Hp} {a : Nat → Nat} {n i : Nat} {f : Nat → va_E} (h : Rq M0 a n f M) (hi : i < n) (e : va_E) : Rq M0 a n (va_up f i e) (hup M (a i) e) := by
  refine ⟨Rp.put h.1 hi (if_pos rfl) (fun j _ hj => if_neg hj), h.2.1.tr (Fr.up hi), h.2.2⟩
theorem Rq.app {M0 M M' : Hp} {a b : Nat → Nat} {n N : Nat} {f g : Nat → va_E} (h : Rq M0 a n f M) (hb : Rp b N g M') (hF : Fr b N M M') (hn : ∀ i, i < N → M (b i) = none) (h0 : 1 ≤ n) : Rq M0 (apn n a b) (n + N) (apn n f g) M' := by
  have hd : ∀ i j, i < n → j < N → a i ≠ b j := fun i j hi hj e => by
    have h1 := h.1.1 i hi
    rw [e, hn j hj] at h1
    cases h1
  have h0n : ∀ i, i < N → M0 (b i) = none := fun i hi => by
    rw [← h.2.1 (b i) (fun j hj e => hd j i hj hi e.symm)]
    exact hn i hi
  refine ⟨⟨fun i hi => ?_, fun i j hi hj e => ?_⟩, fun q hq => ?_, fun i h1 h2 => ?_⟩
  · by_cases c : i < n
    · rw [apn_l c, apn_l c, hF (a i) (fun j hj => hd i j c hj)]
      exact h.1.1 i c
    · rw [apn_r' (by omega), apn_r' (by omega)]
      exact hb.1 (i - n) (by omega)
  · by_cases c : i < n
    · by_cases c2 : j < n
      · rw [apn_l c, apn_l c2] at e; exact h.1.2 i j c c2 e
      · rw [apn_l c, apn_r' (by omega)] at e; exact absurd e (hd i (j - n) c (by omega))
    · by_cases c2 : j < n
      · rw [apn_l c2, apn_r' (by omega)] at e; exact absurd e.symm (hd j (i - n) c2 (by omega))
      · rw [apn_r' (by omega), apn_r' (by omega)] at e
        have := hb.2 (i - n) (j - n) (by omega) (by omega) e
        omega
  · have q1 : ∀ i, i < n → q ≠ a i := fun i hi => by have := hq i (by omega); rw [apn_l hi] at this; exact this
    have q2 : ∀ i, i < N → q ≠ b i := fun i hi => by have := hq (n + i) (by omega); rw [apn_r] at this; exact this
    exact (hF q q2).trans (h.2.1 q q1)
  · by_cases c : i < n
    · rw [apn_l c]; exact h.2.2 i h1 c
    · rw [apn_r' (by omega)]; exact h0n (i - n) (by omega)
theorem Rq.ext {M0 M : Hp} {a : Nat → Nat} {n q : Nat} {f : Nat → va_E} {e : va_E} (h : Rq M0 a n f M) (hq : Abv M q) (h0 : 1 ≤ n) : Rq M0 (apn n a (fun _ => q)) (n + 1) (apn n f (fun _ => e)) (hup M q e) :=
  h.app (N := 1) ⟨fun _ _ => hup_s .., fun i j hi hj _ => by omega⟩ (fun x hx => hup_n (hx 0 (by decide))) (fun _ _ => hq.none) h0
theorem Rq.exm {M0 M : Hp} {a : Nat → Nat} {n q N : Nat} {f : Nat → va_E} {eo ei : va_E} (h : Rq M0 a n f M) (hq : Abv M q) (h0 : 1 ≤ n) : Rq M0 (apn n a (fun i => q + i)) (n + (1 + N)) (apn n f (fun i => if i = 0 then eo else ei)) (mUp M q N eo ei) := by
  have hab : ∀ x, q ≤ x → M x = none := fun x hx => by
    cases h1 : M x with
    | none => rfl
    | some e => exact absurd (hq x e h1) (by omega)
  refine h.app (N := 1 + N) ⟨fun i hi => ?_, fun i j hi hj e => by have e1 : q + i = q + j := e; omega⟩ (fun x hx => ?_) (fun i hi => hab _ (Nat.le_add_right q i)) h0
  · show mUp M q N eo ei (q + i) = some (if i = 0 then eo else ei)
    by_cases c : i = 0
    · subst c
      rw [if_pos rfl]
      exact mUp_o
    · rw [if_neg c]
      obtain ⟨j, rfl⟩ : ∃ j, i = j + 1 := ⟨i - 1, by omega⟩
      rw [show q + (j + 1) = q + 1 + j by omega]
      exact mUp_i (by omega)
  · refine mUp_n ?_
    by_cases c : x < q
    · exact Or.inl c
    · right
      by_cases c2 : q + 1 + N ≤ x
      · exact c2
      · exact absurd (show x = q + (x - q) by omega) (hx (x - q) (by omega))
/-- a part of a grown region, as a region of its own -/
theorem Rq.part {M0 M : Hp} {a : Nat → Nat} {n N : Nat} {f g : Nat → va_E} (h : Rq M0 a n f M) (pos : Nat → Nat) (hp : ∀ i, i < N → pos i < n) (hj : ∀ i j, i < N → j < N → pos i = pos j → i = j) (hg : ∀ i, i < N → f (pos i) = g i) : Rp (fun i => a (pos i)) N g M :=
  ⟨fun i hi => by rw [h.get _ (hp i hi), hg i hi], fun i j hi hj2 e => hj i j hi hj2 (h.1.2 _ _ (hp i hi) (hp j hj2) e)⟩
/-- the states of new objects -/
def zH : HV := (fun _ => 0, fun _ _ => 0, fun _ => 0)
def hZ : HV := hsc zH 2 3
def bZ : PV := (fun _ => hZ, fun _ => hZ, zH, zH, fun s => if s = 3 then -1 else if s = 4 then -1 else 0)
def mZ : HV := hset (hsc (hsc zH 7 (-1)) 8 (-1)) 1 3 3
theorem HC_cong {Γ : Gm} {a b : Nat → Nat} {u : HV} (h : ∀ i, i < 28 → a i = b i) (i : Nat) : HC Γ a u i = HC Γ b u i := by
  unfold HC HF
  rw [h 1 (by decide), h 2 (by decide), h 3 (by decide), h 4 (by decide), h 5 (by decide), h 6 (by decide), h 7 (by decide), h 8 (by decide), h 9 (by decide), h 10 (by decide), h 11 (by decide)]
  have e1 : (fun c => if c < 8 then some (a (12 + c)) else none) = (fun c => if c < 8 then some (b (12 + c)) else none) := by
    funext c
    by_cases q : c < 8
    · rw [if_pos q, if_pos q, h _ (by omega)]
    · rw [if_neg q, if_neg q]
  have e2 : (fun c => if c < 8 then some (a (20 + c)) else none) = (fun c => if c < 8 then some (b (20 + c)) else none) := by
    funext c
    by_cases q : c < 8
    · rw [if_pos q, if_pos q, h _ (by omega)]
    · rw [if_neg q, if_neg q]
  rw [e1, e2]
/-- what a constructor leaves: the region of the new object, its cells new -/
def New (Rep : (Nat → Nat) → Hp → Prop) (q n : Nat) (M : Hp) : Res → Hp → Prop := fun r M' => r = .inl none ∧ ∃ a : Nat → Nat, a 0 = q ∧ Rep a M' ∧ Fr a n M M' ∧ ∀ i, 1 ≤ i → i < n → M (a i) = none
theorem New.of {Rep : (Nat → Nat) → Hp → Prop} {q n : Nat} {M M' : Hp} {a : Nat → Nat} {f : Nat → va_E} (h : Rq M a n f M') (pos ipos : Nat → Nat) (h0 : a (pos 0) = q) (hR : Rep (fun i => a (pos i)) M') (hp : ∀ i, i < n → pos i < n) (hi : ∀ j, j < n → ipos j < n ∧ pos (ipos j) = j) (h1 : ∀ i, i < n → 1 ≤ i → 1 ≤ pos i) : New Rep q n M (.inl none) M' :=
  ⟨rfl, fun i => a (pos i), h0, hR, fun x hx => h.2.1 x fun j hj e => hx (ipos j) (hi j hj).1 (by show x = a (pos (ipos j)); rw [(hi j hj).2]; exact e), fun i a1 a2 => h.2.2 (pos i) (h1 i a2 a1) (hp i a2)⟩
def hpos (i : Nat) : Nat := if i < 5 then i else if i = 9 then 5 else if i < 9 then i + 1 else if i = 10 then 10 else if i = 11 then 19 else if i < 20 then i - 1 else i
def hpoi (j : Nat) : Nat := if j < 5 then j else if j = 5 then 9 else if j < 10 then j - 1 else if j = 10 then 10 else if j < 19 then j + 1 else if j = 19 then 11 else j
theorem hpos_lt : ∀ i, i < 28 → hpos i < 28 := by decide
theorem hpos_i : ∀ j, j < 28 → hpoi j < 28 ∧ hpos (hpoi j) = j := by decide
theorem hpos_1 : ∀ i, i < 28 → 1 ≤ i → 1 ≤ hpos i := by decide
theorem hpos_l : ∀ i, i < 28 → hpoi (hpos i) = i := by decide
theorem hpos_j (i j : Nat) (hi : i < 28) (hj : j < 28) (e : hpos i = hpos j) : i = j := by rw [← hpos_l i hi, ← hpos_l j hj, e]
theorem lt28 {i : Nat} (h : i < 28) : i = 0 ∨ i = 1 ∨ i = 2 ∨ i = 3 ∨ i = 4 ∨ i = 5 ∨ i = 6 ∨ i = 7 ∨ i = 8 ∨ i = 9 ∨ i = 10 ∨ i = 11 ∨ i = 12 ∨ i = 13 ∨ i = 14 ∨ i = 15 ∨ i = 16 ∨ i = 17 ∨ i = 18 ∨ i = 19 ∨ i = 20 ∨ i = 21 ∨ i = 22 ∨ i = 23 ∨ i = 24 ∨ i = 25 ∨ i = 26 ∨ i = 27 := by omega
theorem lt15 {i : Nat} (h : i < 15) : i = 0 ∨ i = 1 ∨ i = 2 ∨ i = 3 ∨ i = 4 ∨ i = 5 ∨ i = 6 ∨ i = 7 ∨ i = 8 ∨ i = 9 ∨ i = 10 ∨ i = 11 ∨ i = 12 ∨ i = 13 ∨ i = 14 := by omega
theorem lt8 {i : Nat} (h : i < 8) : i = 0 ∨ i = 1 ∨ i = 2 ∨ i = 3 ∨ i = 4 ∨ i = 5 ∨ i = 6 ∨ i = 7 := by omega
theorem out_eq {g k : Nat → Nat} (h : g 0 = k 0 ∧ g 1 = k 1 ∧ g 2 = k 2 ∧ g 3 = k 3 ∧ g 4 = k 4 ∧ g 5 = k 5 ∧ g 6 = k 6 ∧ g 7 = k 7) : (fun b => if b < 8 then some (g b) else none) = (fun b => if b < 8 then some (k b) else none) := by
  obtain ⟨h0, h1, h2, h3, h4, h5, h6, h7⟩ := h
  funext b
  by_cases c : b < 8
  · rw [if_pos c, if_pos c]
    rcases lt8 c with rfl | rfl | rfl | rfl | rfl | rfl | rfl | rfl
    · rw [h0]
    · rw [h1]
    · rw [h2]
    · rw [h3]
    · rw [h4]
    · rw [h5]
    · rw [h6]
    · rw [h7]
  · rw [if_neg c, if_neg c]
theorem outE {Γ : Gm} {g k : Nat → Nat} (h : g 0 = k 0 ∧ g 1 = k 1 ∧ g 2 = k 2 ∧ g 3 = k 3 ∧ g 4 = k 4 ∧ g 5 = k 5 ∧ g 6 = k 6 ∧ g 7 = k 7) {t : Nat} : (Sum.inl (Γ.2.1 t, 8, .inr (.inr (.inr (.inr (fun b => if b < 8 then some (g b) else none))))) : va_E) = .inl (Γ.2.1 t, 8, .inr (.inr (.inr (.inr (fun b => if b < 8 then some (k b) else none))))) := by rw [out_eq h]
abbrev obZ0 : va_E := .inr (0, [.null, .int 0, .int 0, .int 0, .null, .int 0])
abbrev obZ1 : va_E := .inr (1, [.int 0, .null, .null, .int 0, .int 0, .int 0, .null, .null, .null, .null, .null, .null, .null, .null, .null, .int 0])
abbrev obZ2 : va_E := .inr (2, [.null, .int 0])
abbrev obZ3 : va_E := .inr (3, [.null, .null, .null, .int 0, .null, .int 0, .int 0, .null, .int 0, .int 0, .null])
abbrev obZ4 : va_E := .inr (4, [.int 0, .null, .null, .null, .null, .int 0, .int 0, .int 0, .null, .int 0, .null, .int 0, .int 0, .int 0, .int 0, .int 0, .int 0, .int 0, .int 0, .int 0])
