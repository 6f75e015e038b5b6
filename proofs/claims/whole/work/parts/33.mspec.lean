/-! ===== the reference ===== -/
theorem nI_addJ (a b : Nat) : nI a + nI b = nI (a + b) := (Int32.ofNat_add a b).symm
theorem nI_mulJ (a b : Nat) : nI a * nI b = nI (a * b) := (Int32.ofNat_mul a b).symm
theorem va_up_up {α : Type} {f : Nat → α} {i : Nat} {x y : α} : va_up (va_up f i x) i y = va_up f i y := by
  funext j
  unfold va_up
  by_cases h : j = i
  · rw [if_pos h, if_pos h]
  · rw [if_neg h, if_neg h, if_neg h]
theorem hsc_hsc {u : HV} {s : Nat} {x y : Int32} : hsc (hsc u s x) s y = hsc u s y := by
  unfold hsc
  rw [va_up_up]
theorem MRep.cong {Γ : Gm} {a : Nat → Nat} {u v : HV} {M : Hp} (h : MRep Γ a u M) (h1 : ∀ s, s < 14 → u.1 s = v.1 s) (h2 : ∀ i, i < 15 → i ≠ 0 ∧ i ≠ 4 → u.2.1 i = v.2.1 i) : MRep Γ a v M := by
  refine ⟨fun i hi => ?_, h.2⟩
  rw [h.1 i hi]
  congr 1
  unfold MC MF
  by_cases e0 : i = 0
  · rw [if_pos e0, if_pos e0, h1 0 (by decide), h1 1 (by decide), h1 2 (by decide), h1 3 (by decide), h1 4 (by decide), h1 5 (by decide), h1 6 (by decide), h1 7 (by decide), h1 8 (by decide), h1 9 (by decide), h1 10 (by decide), h1 11 (by decide), h1 12 (by decide), h1 13 (by decide)]
  by_cases e4 : i = 4
  · rw [if_neg e0, if_neg e0, if_pos e4, if_pos e4]
  rw [if_neg e0, if_neg e0, if_neg e4, if_neg e4, h2 i hi ⟨e0, e4⟩]
abbrev MMu (Γ : Gm) (a : Nat → Nat) (x : Res × HV) (M : Hp) : Res → Hp → Prop := fun r M' => r = x.1 ∧ MRep Γ a x.2 M' ∧ Fr a 15 M M'
abbrev btw (v lo hi : Int32) : Prop := lo ≤ v ∧ v ≤ hi
abbrev rB (r : HV) (b k : Nat) : Int32 := r.2.1 1 (53 + 16 * b + k)
abbrev rM (r : HV) (m k : Nat) : Int32 := r.2.1 1 (5 + 2 * m + k)
def rSum (r : HV) (s : Int32) : Nat → Int32
  | 0 => 0
  | n + 1 => if shr s (nI n) &&& 1 = 1 then rSum r s n + rM r n 1 else rSum r s n + 0
