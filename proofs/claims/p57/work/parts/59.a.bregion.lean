/-! ===== the main object's constructor ===== -/
theorem va_up_s {α : Type} {f : Nat → α} {i : Nat} {x : α} : va_up f i x i = x := if_pos rfl
theorem va_up_n {α : Type} {f : Nat → α} {i j : Nat} {x : α} (h : j ≠ i) : va_up f i x j = f j := if_neg h
theorem Rq.newb {M0 M M' : Hp} {a b : Nat → Nat} {n N q : Nat} {f g : Nat → va_E} {e : va_E} (h : Rq M0 a n f M) (hq : Abv M q) (hb0 : b 0 = q) (hR : Rp b N g M') (hF : Fr b N (hup M q e) M') (hn : ∀ i, 1 ≤ i → i < N → (hup M q e) (b i) = none) (hN : 1 ≤ N) (h0 : 1 ≤ n) : Rq M0 (apn n a b) (n + N) (apn n f g) M' := by
  refine h.app hR (Fr.tr (fun x hx => hup_n (fun z => hx 0 (by omega) (by rw [hb0]; exact z))) hF) (fun i hi => ?_) h0
  by_cases c : i = 0
  · rw [c, hb0]; exact hq.none
  · have h1 := hn i (by omega) hi
    by_cases c2 : b i = q
    · rw [c2, hup_s] at h1; cases h1
    · rw [hup_n c2] at h1; exact h1
section GA2
variable {κ : KT} {own : String} {cc : ByteArray} {rt : Option FieldType} {tab : List ExceptionTableEntry} {nm : String} {M : Hp} {cells slots pc : Nat} {L : List (Nat × Value)} {rest : List Value}
theorem g_aastH (X : Cx κ own cc rt tab nm) {n a v : Nat} {f : Nat → Option Nat} {i : Int32} {vs : List Value} (d : decode cc pc = .ok (.aastore, 1)) (hq : M a = some (.inl (κ.Γ.2.1 4, n, .inr (.inr (.inr (.inr f)))))) (hv : M v = some (.inr (1, vs))) (hin : vp_in i n) (k9 : G κ (hup M a (.inl (κ.Γ.2.1 4, n, .inr (.inr (.inr (.inr (va_up f (cN i) (some v)))))))) cells slots L (pc + 1) rest) : G κ M cells slots L pc (.ref v :: .int i :: .ref a :: rest) := by
  intro H locs ls hI hl0
  have hA := hI.2.1 a _ hq
  have hlt : i.toNatClampNeg < n := Nat.not_le.mp fun q => hin (Or.inr q)
  have h0 : ¬ i < 0 := fun q => hin (Or.inl q)
  have hK := X.2.2.2.2.2.2.2.1.1
  obtain ⟨r', hr', cellV, g1, g2, g3, -⟩ := hI.1 v _ hv
  have hcls := (hK.1 1 (RX1, TX1, 16) rfl).2
  obtain ⟨kA, comp, k1, k2, k3, -⟩ := (hK.2 4 (κ.Γ.2.1 4, .object "BellParliament$House") rfl).2
  have hcomp : comp = κ.Γ.1.1 1 := Option.some.inj (k3.symm.trans hcls.1)
  subst hcomp
  obtain ⟨kC, hkC, -⟩ := hcls.2
  refine W.aast X.1 X.2.1 (hI.1 a _ hq) (fun q h => by cases h) (fun h => by cases h) k1 k2 rfl hkC ⟨h0, by show _ < (arrV _ _ _).slots.size; rw [arrV_size]; exact hlt⟩ g1 (fun q h => by rw [g3] at h; cases h) (by rw [g2]; exact hkC) (by rw [g2]; exact va_assign hcls) rfl rfl d fun H1 e z oq => ?_
  refine k9 H1 _ ls (hI.put hA ?_ oq (hI.2.2.put z oq hA)) hl0
  show H1[a]? = some (vp_cell _ _)
  rw [e]
  rw [vp_cell_q, vp_cell_q, arrV_store]
  congr 2
  funext q
  by_cases hq : q = i.toNatClampNeg
  · subst hq
    simp [updV, va_up, va_rf]
  · simp [updV, va_up, hq]
end GA2
/-- what stands before the history is made, and behind h of its houses -/
def PA (Γ : Gm) (q : Nat) (a : Nat → Nat) (f : Nat → va_E) : Prop := a 0 = q ∧ f 0 = .inr (3, [.ref (a 1), .ref (a 29), .ref (a 57), .int 0, .ref (a 85), .int 0, .int 0, .ref (a 86), .int (-1), .int (-1), .ref (a 89)]) ∧ (∀ h, h < 3 → ∀ i, i < 28 → f (1 + 28 * h + i) = HC Γ (fun i => a (1 + 28 * h + i)) hZ i) ∧ (∀ i, i < 3 → f (86 + i) = TC Γ (fun i => a (86 + i)) zH i) ∧ (∀ i, i < 2 → f (89 + i) = LC Γ (fun i => a (89 + i)) zH i)
def PH (Γ : Gm) (h : Nat) (a : Nat → Nat) (f : Nat → va_E) : Prop := f 85 = .inl (Γ.2.1 4, 8, .inr (.inr (.inr (.inr (fun b => if b < h then some (a (91 + 28 * b)) else none))))) ∧ ∀ j, j < h → ∀ i, i < 28 → f (91 + 28 * j + i) = HC Γ (fun i => a (91 + 28 * j + i)) hZ i
theorem TC_cong {Γ : Gm} {a b : Nat → Nat} {u : HV} (h : ∀ i, i < 3 → a i = b i) (i : Nat) : TC Γ a u i = TC Γ b u i := by
  unfold TC TF
  rw [h 1 (by decide), h 2 (by decide)]
theorem LC_cong {Γ : Gm} {a b : Nat → Nat} {u : HV} (h : ∀ i, i < 2 → a i = b i) (i : Nat) : LC Γ a u i = LC Γ b u i := by
  unfold LC LF
  rw [h 1 (by decide)]
theorem PA.next {Γ : Gm} {q : Nat} {a b : Nat → Nat} {f g : Nat → va_E} {n : Nat} (h : PA Γ q a f) (hn : 91 ≤ n) {e : va_E} : PA Γ q (apn n a b) (va_up (apn n f g) 85 e) := by
  obtain ⟨h1, h2, h3, h4, h5⟩ := h
  have ea : ∀ i, i < 91 → apn n a b i = a i := fun i hi => apn_l (by omega)
  have ef : ∀ i, i < 91 → i ≠ 85 → va_up (apn n f g) 85 e i = f i := fun i hi hne => (va_up_n hne).trans (apn_l (by omega))
  refine ⟨by rw [ea 0 (by decide), h1], ?_, fun k hk i hi => ?_, fun i hi => ?_, fun i hi => ?_⟩
  · rw [ef 0 (by decide) (by decide), h2, ea 1 (by decide), ea 29 (by decide), ea 57 (by decide), ea 85 (by decide), ea 86 (by decide), ea 89 (by decide)]
  · rw [ef _ (by omega) (by omega), h3 k hk i hi]
    exact HC_cong (fun j hj => (ea _ (by omega)).symm) i
  · rw [ef _ (by omega) (by omega), h4 i hi]
    exact TC_cong (fun j hj => (ea _ (by omega)).symm) i
  · rw [ef _ (by omega) (by omega), h5 i hi]
    exact LC_cong (fun j hj => (ea _ (by omega)).symm) i
theorem PH.next {Γ : Gm} {a b : Nat → Nat} {f : Nat → va_E} {h : Nat} (hp : PH Γ h a f) : PH Γ (h + 1) (apn (91 + 28 * h) a b) (va_up (apn (91 + 28 * h) f (HC Γ b hZ)) 85 (.inl (Γ.2.1 4, 8, .inr (.inr (.inr (.inr (va_up (fun b => if b < h then some (a (91 + 28 * b)) else none) h (some (b 0))))))))) := by
  obtain ⟨h1, h2⟩ := hp
  refine ⟨?_, fun j hj i hi => ?_⟩
  · rw [va_up_s]
    have e : va_up (fun c => if c < h then some (a (91 + 28 * c)) else none) h (some (b 0)) = (fun c => if c < h + 1 then some (apn (91 + 28 * h) a b (91 + 28 * c)) else none) := by
      funext c
      by_cases q : c = h
      · subst q
        rw [va_up_s, if_pos (by omega), apn_r' (Nat.le_refl _), Nat.sub_self]
      · rw [va_up_n q]
        show (if c < h then some (a (91 + 28 * c)) else none) = _
        by_cases r : c < h
        · rw [if_pos r, if_pos (by omega), apn_l (by omega)]
        · rw [if_neg r, if_neg (by omega)]
    rw [e]
  · rw [va_up_n (by omega)]
    by_cases c : j < h
    · rw [apn_l (by omega), h2 j c i hi]
      exact HC_cong (fun k hk => (apn_l (by omega)).symm) i
    · have : j = h := by omega
      subst this
      rw [apn_r]
      exact HC_cong (fun k hk => apn_r.symm) i
def bpos (k : Nat) : Nat := if k < 84 then k + 1 else if k < 308 then k + 7 else if k < 313 then k - 222 else if k = 313 then 0 else 85
def bpoi (j : Nat) : Nat := if j = 0 then 313 else if j < 85 then j - 1 else if j = 85 then 314 else if j < 91 then j + 222 else j - 7
theorem bpos_lt {k : Nat} (h : k < 315) : bpos k < 315 := by unfold bpos; split; omega; split; omega; split; omega; split <;> omega
theorem bpos_i {j : Nat} (h : j < 315) : bpoi j < 315 ∧ bpos (bpoi j) = j := by
  have e : bpoi j < 315 := by unfold bpoi; split; omega; split; omega; split; omega; split <;> omega
  refine ⟨e, ?_⟩
  unfold bpoi bpos
  split
  · rename_i c; rw [if_neg (by omega), if_neg (by omega), if_neg (by omega), if_pos rfl]; exact c.symm
  split
  · rw [if_pos (by omega)]; omega
  split
  · rename_i c; rw [if_neg (by omega), if_neg (by omega), if_neg (by omega), if_neg (by omega)]; exact c.symm
  split
  · rw [if_neg (by omega), if_neg (by omega), if_pos (by omega)]; omega
  · by_cases q : j - 7 < 84
    · omega
    · rw [if_neg q, if_pos (by omega)]; omega
theorem bpos_j {i j : Nat} (hi : i < 315) (hj : j < 315) (e : bpos i = bpos j) : i = j := by
  have h : ∀ k, k < 315 → bpoi (bpos k) = k := fun k hk => by
    unfold bpos bpoi
    split
    · rw [if_neg (by omega), if_pos (by omega)]; omega
    split
    · rw [if_neg (by omega), if_neg (by omega), if_neg (by omega), if_neg (by omega)]; omega
    split
    · rw [if_neg (by omega), if_neg (by omega), if_neg (by omega), if_pos (by omega)]; omega
    split
    · rw [if_pos rfl]; omega
    · rw [if_neg (by omega), if_neg (by omega), if_pos rfl]; omega
  rw [← h i hi, ← h j hj, e]
theorem BRep.of {Γ : Gm} {q : Nat} {M M' : Hp} {a : Nat → Nat} {f : Nat → va_E} (h : Rq M a 315 f M') (hA : PA Γ q a f) (hH : PH Γ 8 a f) : BRep Γ (fun k => a (bpos k)) bZ M' := by
  obtain ⟨h1, h2, h3, h4, h5⟩ := hA
  obtain ⟨g1, g2⟩ := hH
  have hj : ∀ i j, i < 315 → j < 315 → a (bpos i) = a (bpos j) → i = j := fun i j hi hj2 e => bpos_j hi hj2 (h.1.2 _ _ (bpos_lt hi) (bpos_lt hj2) e)
  have p1 : ∀ k, k < 84 → bpos k = k + 1 := fun k hk => if_pos hk
  have p2 : ∀ k, 84 ≤ k → k < 308 → bpos k = k + 7 := fun k h1 h2 => (if_neg (by omega)).trans (if_pos h2)
  have p3 : ∀ k, 308 ≤ k → k < 313 → bpos k = k - 222 := fun k h1 h2 => (if_neg (by omega)).trans ((if_neg (by omega)).trans (if_pos h2))
  refine ⟨fun k hk => ⟨fun i hi => ?_, fun i j hi hj2 e => ?_⟩, fun k hk => ⟨fun i hi => ?_, fun i j hi hj2 e => ?_⟩, ⟨fun i hi => ?_, fun i j hi hj2 e => ?_⟩, ⟨fun i hi => ?_, fun i j hi hj2 e => ?_⟩, ?_, ?_, fun i j hi hj2 e => hj i j hi hj2 e⟩
  · show M' (a (bpos (28 * k + i))) = _
    rw [h.get _ (bpos_lt (by omega)), p1 _ (by omega), show 28 * k + i + 1 = 1 + 28 * k + i by omega, h3 k hk i hi]
    exact congrArg some (HC_cong (fun j hj => by show a (1 + 28 * k + j) = a (bpos (28 * k + j)); rw [p1 _ (by omega), show 28 * k + j + 1 = 1 + 28 * k + j by omega]) i)
  · have := hj (28 * k + i) (28 * k + j) (by omega) (by omega) e; omega
  · show M' (a (bpos (28 * (3 + k) + i))) = _
    rw [h.get _ (bpos_lt (by omega)), p2 _ (by omega) (by omega), show 28 * (3 + k) + i + 7 = 91 + 28 * k + i by omega, g2 k hk i hi]
    exact congrArg some (HC_cong (fun j hj => by show a (91 + 28 * k + j) = a (bpos (28 * (3 + k) + j)); rw [p2 _ (by omega) (by omega), show 28 * (3 + k) + j + 7 = 91 + 28 * k + j by omega]) i)
  · have := hj (28 * (3 + k) + i) (28 * (3 + k) + j) (by omega) (by omega) e; omega
  · show M' (a (bpos (308 + i))) = _
    rw [h.get _ (bpos_lt (by omega)), p3 _ (by omega) (by omega), show 308 + i - 222 = 86 + i by omega, h4 i hi]
    exact congrArg some (TC_cong (fun j hj => by show a (86 + j) = a (bpos (308 + j)); rw [p3 _ (by omega) (by omega), show 308 + j - 222 = 86 + j by omega]) i)
  · have := hj (308 + i) (308 + j) (by omega) (by omega) e; omega
  · show M' (a (bpos (311 + i))) = _
    rw [h.get _ (bpos_lt (by omega)), p3 _ (by omega) (by omega), show 311 + i - 222 = 89 + i by omega, h5 i hi]
    exact congrArg some (LC_cong (fun j hj => by show a (89 + j) = a (bpos (311 + j)); rw [p3 _ (by omega) (by omega), show 311 + j - 222 = 89 + j by omega]) i)
  · have := hj (311 + i) (311 + j) (by omega) (by omega) e; omega
  · show M' (a 0) = _
    rw [h.get 0 (by decide), h2]
    rfl
  · show M' (a 85) = _
    rw [h.get 85 (by decide), g1]
    have e : (fun b => if b < 8 then some (a (91 + 28 * b)) else none) = (fun b => if b < 8 then some (hA (fun k => a (bpos k)) (3 + b) 0) else none) := by
      funext b
      by_cases c : b < 8
      · rw [if_pos c, if_pos c]
        show some (a (91 + 28 * b)) = some (a (bpos (28 * (3 + b) + 0)))
        rw [p2 _ (by omega) (by omega), show 28 * (3 + b) + 0 + 7 = 91 + 28 * b by omega]
      · rw [if_neg c, if_neg c]
    rw [e]
/-- what the constructor leaves -/
def NewB (Γ : Gm) (q : Nat) (M : Hp) : Res → Hp → Prop := fun r M' => r = .inl none ∧ ∃ A : Nat → Nat, A 313 = q ∧ BRep Γ A bZ M' ∧ Fr A 315 M M' ∧ ∀ i, i < 315 → i ≠ 313 → M (A i) = none
theorem NewB.of {Γ : Gm} {q : Nat} {M M' : Hp} {a : Nat → Nat} {f : Nat → va_E} (h : Rq M a 315 f M') (hA : PA Γ q a f) (hH : PH Γ 8 a f) : NewB Γ q M (.inl none) M' :=
  ⟨rfl, fun k => a (bpos k), hA.1, BRep.of h hA hH, fun x hx => h.2.1 x fun j hj e => hx (bpoi j) (bpos_i hj).1 (by show x = a (bpos (bpoi j)); rw [(bpos_i hj).2]; exact e), fun i hi hne => h.2.2 (bpos i) (by
    have : bpos i ≠ 0 := fun z => hne (bpos_j hi (by decide) (z.trans rfl))
    omega) (bpos_lt hi)⟩
