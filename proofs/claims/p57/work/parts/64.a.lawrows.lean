/-! ===== the law's body ===== -/
section GLL
variable {κ : KT} {own : String} {cc : ByteArray} {rt : Option FieldType} {tab : List ExceptionTableEntry} {nm : String} {M : Hp} {cells slots pc : Nat} {L : List (Nat × Value)} {rest : List Value}
theorem g_cC (X : Cx κ own cc rt tab nm) {idx : Nat} {i : Int32} {st0 : List Value} (d : decode cc pc = .ok (.invokestatic idx, 3)) (hl : κ.l.stackTraces = false)
    (h1 : Cond.methodLink own idx yL_cell ∈ TG) (h2 : Cond.static yL_cell ∈ TG) (h4 : Cond.initialized yL_cell.cls ∈ TG) (h5 : Cond.code yL_cell cL_cell 2 (some .int) ∈ TG)
    (hd : yL_cell.cls ≠ "java/lang/invoke/MethodHandle" ∧ yL_cell.cls ≠ "java/lang/invoke/VarHandle" ∧ (parseMethodDescriptor yL_cell.desc).map (fun d => d.parameters.length) = some 2) (hst : st0 = .int i :: .ref (scA κ.Γ) :: rest) (hW : (rest.map fun v => v.category).sum ≤ 8) (hR : 12 + 0 + 1 ≤ κ.R.frames ∧ 8 + (2 + 11) + (300 + 40 * 0) ≤ κ.R.locals) (hf : cells + 0 ≤ κ.R.cells ∧ slots + 0 ≤ κ.R.slots)
    (kk : ∀ z, G κ M cells slots L (pc + 3) (.int z :: rest)) : G κ M cells slots L pc st0 :=
  g_callS (As := [.ref (scA κ.Γ), .int i]) X d (c_L_cell κ.l hl κ.Γ M i) h1 h2 h4 h5 hd hst hW hR hf (fun v9 M9 h9 => by obtain ⟨⟨z, e⟩, rfl⟩ := h9; cases e; exact kk z) (fun E9 M9 h9 => by obtain ⟨⟨z, e⟩, -⟩ := h9; cases e)
theorem g_ex {P : PV → Prop} {w : PV} (h : P w) (k : ∀ v, P v → G κ M cells slots L pc rest) : G κ M cells slots L pc rest := k w h
theorem g_txt (X : Cx κ own cc rt tab nm) {t : Nat} (ht : t < 31) (d : decode cc pc = .ok (.aaload, 1)) (k9 : G κ M cells slots L (pc + 1) (.ref (sK κ.Γ (13 + t)) :: rest)) : G κ M cells slots L pc (.int (nI t) :: .ref (sK κ.Γ 44) :: rest) := by
  refine g_txld X d (vp_in_nI ht (by decide)) ?_
  rw [cN_nI (by omega)]
  exact k9
end GLL
theorem xk_z : XK hZ := ⟨fun k _ _ => b_0 k, fun b _ => XB.opn rfl, by decide⟩
theorem j_z : J bZ := ⟨⟨mZ, rel_z⟩, fun k _ => xk_z, fun k _ => xk_z⟩
def SN (H : HV) (v : PV) : Prop := v.1 2 = H ∧ v.2.2.2.2 0 = 1
theorem SN.ks {H : HV} {v v' : PV} (h : SN H v) (k : KS v v') : SN H v' := ⟨k.1.trans h.1, k.2.trans h.2⟩
theorem ks_addMember {w : PV} (h : J w) (x y : Int32) : KS w (pAddMember w x y).2 := by
  obtain ⟨u0, r⟩ := id h.1
  obtain ⟨m0, n0, q⟩ := id r.1
  exact ks_ch (ch_addMember q x y).f
theorem ks_enter {w : PV} (h : J w) (x : Int32) : KS w (pEnter w x).2 := by
  obtain ⟨u0, r⟩ := id h.1
  obtain ⟨m0, n0, q⟩ := id r.1
  exact ks_ch (ch_enter q x).f
theorem ks_setQuorum {w : PV} (h : J w) (x : Int32) : KS w (pSetQuorum w x).2 := by
  obtain ⟨u0, r⟩ := id h.1
  obtain ⟨m0, n0, q⟩ := id r.1
  exact ks_ch (ch_setQuorum q x).f
theorem ks_introduce {w : PV} (h : J w) (x y t : Int32) : KS w (pIntroduce w x y t).2 := by
  obtain ⟨u0, r⟩ := id h.1
  obtain ⟨m0, n0, q⟩ := id r.1
  exact ks_ch (ch_introduce q x y t).f
theorem ks_voteFor {w : PV} (h : J w) (x y : Int32) : KS w (pVoteFor w x y).2 := by
  obtain ⟨u0, r⟩ := id h.1
  obtain ⟨m0, n0, q⟩ := id r.1
  exact ks_ch (ch_voteFor q x y).f
theorem ks_propose {w : PV} (h : J w) (x y t : Int32) : KS w (pPropose w x y t).2 := by
  obtain ⟨u0, r⟩ := id h.1
  obtain ⟨m0, n0, q⟩ := id r.1
  exact ks_ch (ch_propose q x y t).f
