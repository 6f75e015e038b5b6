/-! ===== String constants ===== -/
section GST
variable {κ : KT} {own : String} {cc : ByteArray} {rt : Option FieldType} {tab : List ExceptionTableEntry} {nm : String} {M : Hp} {cells slots pc : Nat} {L : List (Nat × Value)} {rest : List Value}
abbrev sK (Γ : Gm) (i : Nat) : Nat := Γ.2.2.1 i
abbrev sV (Γ : Gm) (i : Nat) : Nat := Γ.2.2.2.1 i
abbrev sN (i : Nat) : Nat := sLen.getD i 0
abbrev sB (i j : Nat) : Int32 := (sByt.getD i []).getD j 0
theorem g_ldcS (X : Cx κ own cc rt tab nm) {idx i : Nat} (d : decode cc pc = .ok (.ldc idx, 2)) (hi : i < 44) (h1 : sOwn i = own) (h2 : sIdx i = idx) (k9 : G κ M cells slots L (pc + 2) (.ref (sK κ.Γ i) :: rest)) : G κ M cells slots L pc rest := fun H locs ls hI hl => by
  subst h1
  subst h2
  exact va_ldcS X.1 X.2.1 X.2.2.2.2.2.1 (X.2.2.2.2.2.2.2.1.2.2.2.2.2.2.1 i hi) d (k9 H locs ls hI hl)
theorem g_compact (X : Cx κ own cc rt tab nm) {idx : Nat} (d : decode cc pc = .ok (.getstatic idx, 3)) (h : Cond.fieldLink own idx "java/lang/String" "COMPACT_STRINGS" "Z" ∈ TG) (k9 : G κ M cells slots L (pc + 3) (.int 1 :: rest)) : G κ M cells slots L pc rest := fun H locs ls hI hl => va_gets X.1 X.2.1 X.2.2.2.2.2.2.2.1.2.2.2.2.2.2.2.1 hI.2.2 X.2.2.2.2.2.1 (X.2.2.2.2.2.2.1 _ h) (fun _ h => h) d (k9 H locs ls hI hl)
theorem g_sioobe (X : Cx κ own cc rt tab nm) {idx : Nat} (d : decode cc pc = .ok (.getstatic idx, 3)) (h : Cond.fieldLink own idx "jdk/internal/util/Preconditions" "SIOOBE_FORMATTER" "Ljava/util/function/BiFunction;" ∈ TG) (kn : G κ M cells slots L (pc + 3) (.null :: rest)) (kr : ∀ t, G κ M cells slots L (pc + 3) (.ref t :: rest)) : G κ M cells slots L pc rest := fun H locs ls hI hl => by
  rcases X.2.2.2.2.2.2.2.1.2.2.2.2.2.2.2.2.1.1 with hZ | ⟨t, hZ⟩
  · exact va_gets X.1 X.2.1 hZ hI.2.2 X.2.2.2.2.2.1 (X.2.2.2.2.2.2.1 _ h) (fun _ h => h) d (kn H locs ls hI hl)
  · exact va_gets X.1 X.2.1 hZ hI.2.2 X.2.2.2.2.2.1 (X.2.2.2.2.2.2.1 _ h) (fun _ h => h) d (kr t H locs ls hI hl)
theorem g_sval (X : Cx κ own cc rt tab nm) {idx i : Nat} (d : decode cc pc = .ok (.getfield idx, 3)) (hi : i < 44) (h : Cond.fieldLink own idx "java/lang/String" "value" "[B" ∈ TG) (k9 : G κ M cells slots L (pc + 3) (.ref (sV κ.Γ i) :: rest)) : G κ M cells slots L pc (.ref (sK κ.Γ i) :: rest) := fun H locs ls hI hl => vk_getf X.1 X.2.1 ((X.2.2.2.2.2.2.2.1.2.2.2.2.2.1 i hi).1 0 (by decide)).2.2.1 hI.2.2 X.2.2.2.2.2.1 (X.2.2.2.2.2.2.1 _ h) (fun _ h => h) d (k9 H locs ls hI hl)
theorem g_scod (X : Cx κ own cc rt tab nm) {idx i : Nat} (d : decode cc pc = .ok (.getfield idx, 3)) (hi : i < 44) (h : Cond.fieldLink own idx "java/lang/String" "coder" "B" ∈ TG) (k9 : G κ M cells slots L (pc + 3) (.int 0 :: rest)) : G κ M cells slots L pc (.ref (sK κ.Γ i) :: rest) := fun H locs ls hI hl => vk_getf X.1 X.2.1 ((X.2.2.2.2.2.2.2.1.2.2.2.2.2.1 i hi).1 0 (by decide)).2.1 hI.2.2 X.2.2.2.2.2.1 (X.2.2.2.2.2.2.1 _ h) (fun _ h => h) d (k9 H locs ls hI hl)
theorem g_slen (X : Cx κ own cc rt tab nm) {i : Nat} (d : decode cc pc = .ok (.arraylength, 1)) (hi : i < 44) (k9 : G κ M cells slots L (pc + 1) (.int (nI (sN i)) :: rest)) : G κ M cells slots L pc (.ref (sV κ.Γ i) :: rest) := fun H locs ls hI hl => va_tlen X.1 X.2.1 ((X.2.2.2.2.2.2.2.1.2.2.2.2.2.1 i hi).1 0 (by decide)).2.2.2 hI.2.2 rfl d (k9 H locs ls hI hl)
theorem g_sbyte (X : Cx κ own cc rt tab nm) {i j : Nat} (d : decode cc pc = .ok (.baload, 1)) (hi : i < 44) (hj : j < sN i) (hb : sN i < 2 ^ 31) (k9 : G κ M cells slots L (pc + 1) (.int (sB i j) :: rest)) : G κ M cells slots L pc (.int (nI j) :: .ref (sV κ.Γ i) :: rest) := fun H locs ls hI hl => va_tb X.1 X.2.1 ((X.2.2.2.2.2.2.2.1.2.2.2.2.2.1 i hi).1 0 (by decide)).2.2.2 hI.2.2 (vp_in_nI hj hb) (by (show Value.int (sB i (nI j).toNatClampNeg) = Value.int (sB i j)); rw [nI_clamp (by omega)]) d (k9 H locs ls hI hl)
/-- a virtual call whose receiver isn't of the heap that is kept -/
theorem g_callVr (X : Cx κ own cc rt tab nm) {y : MethodName} {bytes : ByteArray} {maxL idx k mc ms b : Nat} {C : String} {ret : Option FieldType} {As : List Value} {st0 : List Value} {post : Res → Hp → Prop} (d : decode cc pc = .ok (.invokevirtual idx, 3)) (hC : Ct κ.l κ.Γ y bytes maxL ret k mc ms (.ref b :: As) M post)
    (h1 : Cond.methodLink own idx y ∈ TG) (h2 : Cond.instanceMethod y ∈ TG) (h3 : Cond.selects C y y ∈ TG) (h4 : Cond.initialized C ∈ TG) (h5 : Cond.code y bytes maxL ret ∈ TG) (hrecv : ∀ H locs, Iv κ M H locs → ∃ cell : Cell, H[b]? = some cell ∧ cell.vm.isStatics = false ∧ κ.s.vm.findClass C = some cell.cls)
    (hd : y.cls = C ∧ y.cls ≠ "java/lang/invoke/MethodHandle" ∧ y.cls ≠ "java/lang/invoke/VarHandle" ∧ (parseMethodDescriptor y.desc).map (fun d => d.parameters.length) = some As.length) (hst : st0 = As.reverse ++ .ref b :: rest) (hW : (rest.map fun v => v.category).sum ≤ 8) (hR : 12 + k + 1 ≤ κ.R.frames ∧ 8 + (maxL + 11) + (300 + 40 * k) ≤ κ.R.locals) (hf : cells + mc ≤ κ.R.cells ∧ slots + ms ≤ κ.R.slots)
    (kk : ∀ v M', post (.inl v) M' → G κ M' (cells + mc) (slots + ms) L (pc + 3) (v.toList ++ rest)) (kx : ∀ E M', post (.inr E) M' → GX κ M' (cells + mc) (slots + ms) L pc rest E) : G κ M cells slots L pc st0 := by
  intro H locs ls hI hl
  have hts := X.2.2.2.2.2.2.1
  obtain ⟨hC0, hd⟩ := hd
  subst hC0
  have hG : GoodIn TG (wsV own idx y.cls y (Cond.code y bytes maxL ret :: TG)) := by
    intro w hw
    have hm : w ∈ TG := by
      simp only [wsV, List.mem_append, List.mem_cons, List.not_mem_nil, or_false] at hw
      rcases hw with (rfl | rfl | rfl | rfl) | rfl | hw <;> assumption
    exact tg_in w hm
  have hrun : vx_Run κ.p κ.l κ.e κ.R κ.s κ.m κ.args κ.below κ.meth κ.c H locs cells slots mc ms (F0 κ.m pc ls st0) rest (PostR κ.Γ M H.size post (.ref b :: As).toArray) (PostX κ.Γ M H.size post) (Af M H.size) := vx_runV (As := As) (rest := rest) (g := F0 κ.m pc ls st0) (nL := κ.nL) (cells := cells) (slots := slots) (H := H) (locs := locs) ⟨X.1, X.2.1, X.2.2.1, X.2.2.2.2.2.1, hts⟩ (hC H.size) (cwV (C := y.cls) (index := idx) As.length hts hG rfl rfl rfl ⟨rfl, hd⟩ hR)
    ⟨pre_blind _ _ _ _, hrecv H locs hI, fun U hU hW => ⟨rfl, by rw [hU], by rw [hU]; exact hI.1, en_callee X hI hU hW⟩⟩ rfl rfl hl.1 hst (lv_room hW) d hf
  exact g_back (y := y) X hI hl hrun kk kx
theorem s_recv (X : Cx κ own cc rt tab nm) {i : Nat} (hi : i < 44) : ∀ H locs, Iv κ M H locs → ∃ cell : Cell, H[sK κ.Γ i]? = some cell ∧ cell.vm.isStatics = false ∧ κ.s.vm.findClass "java/lang/String" = some cell.cls := fun H locs hI => vk_recv (i := 0) (X.2.2.2.2.2.2.2.1.2.2.2.2.2.1 i hi) (by decide) hI.2.2
theorem g_callVr_rd (X : Cx κ own cc rt tab nm) {y : MethodName} {bytes : ByteArray} {maxL idx k b : Nat} {C : String} {ret : Option FieldType} {As : List Value} {st0 : List Value} {v : Option Value} (d : decode cc pc = .ok (.invokevirtual idx, 3)) (hC : Ct κ.l κ.Γ y bytes maxL ret k 0 0 (.ref b :: As) M (fun r M' => r = .inl v ∧ M' = M))
    (h1 : Cond.methodLink own idx y ∈ TG) (h2 : Cond.instanceMethod y ∈ TG) (h3 : Cond.selects C y y ∈ TG) (h4 : Cond.initialized C ∈ TG) (h5 : Cond.code y bytes maxL ret ∈ TG) (hrecv : ∀ H locs, Iv κ M H locs → ∃ cell : Cell, H[b]? = some cell ∧ cell.vm.isStatics = false ∧ κ.s.vm.findClass C = some cell.cls)
    (hd : y.cls = C ∧ y.cls ≠ "java/lang/invoke/MethodHandle" ∧ y.cls ≠ "java/lang/invoke/VarHandle" ∧ (parseMethodDescriptor y.desc).map (fun d => d.parameters.length) = some As.length) (hst : st0 = As.reverse ++ .ref b :: rest) (hW : (rest.map fun v => v.category).sum ≤ 8) (hR : 12 + k + 1 ≤ κ.R.frames ∧ 8 + (maxL + 11) + (300 + 40 * k) ≤ κ.R.locals) (hf : cells ≤ κ.R.cells ∧ slots ≤ κ.R.slots)
    (kk : G κ M cells slots L (pc + 3) (v.toList ++ rest)) : G κ M cells slots L pc st0 :=
  g_callVr X d hC h1 h2 h3 h4 h5 hrecv hd hst hW hR hf (fun v' M' h => by obtain ⟨h1, rfl⟩ := h; cases h1; exact kk) (fun E M' h => by cases h.1)
theorem g_tabIn (X : Cx κ own cc rt tab nm) {dflt lo hi : Int} {offs : Array Int} {len : Nat} {x : Int32} {off : Int} {tgt : Nat} (d : decode cc pc = .ok (.tableswitch dflt lo hi offs, len)) (h1 : ¬ x.toInt < lo) (h2 : ¬ hi < x.toInt) (ho : offs[(x.toInt - lo).toNat]? = some off) (ht : (pc : Int) + off = (tgt : Int)) (k9 : G κ M cells slots L tgt rest) : G κ M cells slots L pc (.int x :: rest) := fun H locs ls hI hl => lv_tableIn X.1 X.2.1 d h1 h2 ho ht (k9 H locs ls hI hl)
theorem g_tabOut (X : Cx κ own cc rt tab nm) {dflt lo hi : Int} {offs : Array Int} {len : Nat} {x : Int32} {tgt : Nat} (d : decode cc pc = .ok (.tableswitch dflt lo hi offs, len)) (h : x.toInt < lo ∨ hi < x.toInt) (ht : (pc : Int) + dflt = (tgt : Int)) (k9 : G κ M cells slots L tgt rest) : G κ M cells slots L pc (.int x :: rest) := fun H locs ls hI hl => lv_tableOut X.1 X.2.1 d h ht (k9 H locs ls hI hl)
theorem nk0 {x : Int32} : ∀ k ∈ ([] : List Int32), ¬ x = k := fun _ h => absurd h List.not_mem_nil
theorem nk {x k : Int32} {ks : List Int32} (h : ¬ x = k) (hs : ∀ k ∈ ks, ¬ x = k) : ∀ q ∈ k :: ks, ¬ x = q := fun q hq => by
  rcases List.mem_cons.mp hq with rfl | hq
  · exact h
  · exact hs q hq
theorem g_tabDef {keys : List Int32} (X : Cx κ own cc rt tab nm) {dflt lo hi : Int} {offs : Array Int} {len : Nat} {x : Int32} {tgt : Nat} (d : decode cc pc = .ok (.tableswitch dflt lo hi offs, len)) (hk : (List.range offs.size).all (fun i => decide (offs[i]? = some dflt) || keys.any (fun k => decide (k.toInt = lo + i))) = true) (hs : (hi - lo).toNat < offs.size) (hn : ∀ k ∈ keys, ¬ x = k) (ht : (pc : Int) + dflt = (tgt : Int)) (k9 : G κ M cells slots L tgt rest) : G κ M cells slots L pc (.int x :: rest) := by
  by_cases h1 : x.toInt < lo
  · exact g_tabOut X d (Or.inl h1) ht k9
  by_cases h2 : hi < x.toInt
  · exact g_tabOut X d (Or.inr h2) ht k9
  have hi2 : (x.toInt - lo).toNat < offs.size := by omega
  have := List.all_eq_true.mp hk _ (List.mem_range.mpr hi2)
  rcases Bool.or_eq_true_iff.mp this with h | h
  · exact g_tabIn X d h1 h2 (of_decide_eq_true h) ht k9
  · obtain ⟨k, hk1, hk2⟩ := List.any_eq_true.mp h
    have hk3 := of_decide_eq_true hk2
    exact absurd (Int32.toInt_inj.mp (by omega : x.toInt = k.toInt)) (hn k hk1)
end GST

set_option maxRecDepth 100000 in
set_option maxHeartbeats 4000000 in
theorem c_coder (l : Launch) (hl : l.stackTraces = false) (Γ : Gm) (M : Hp) (i : Nat) (hi : i < 44) : Ct l Γ yJ0_coder_7d493 cJ0_coder_7d493 1 (some .byte) 0 0 0 [.ref (sK Γ i)] M (Rd (some (.int 0)) M) := by
  refine Ct.of hl (by decide) (Nat.le_of_ble_eq_true rfl) rfl ?_
  intro κ e1 e2 hnL hRm X F hlt
  subst e1 e2
  refine g_compact X dJ0_coder_7d493_0 k907 ?_
  refine g_if_eq (tgt := 13) X dJ0_coder_7d493_3 (by decide) (fun h => absurd h (by decide)) (fun _ => ?_)
  refine g_aload_n X dJ0_coder_7d493_6 rfl 0 rfl ?_
  refine g_scod X dJ0_coder_7d493_7 hi k1584 ?_
  refine g_goto (tgt := 14) X dJ0_coder_7d493_10 (by decide) ?_
  exact g_zret X F dJ0_coder_7d493_14 (by omega) (by omega) rfl ⟨rfl, rfl⟩
set_option maxRecDepth 100000 in
set_option maxHeartbeats 4000000 in
theorem c_isLatin1 (l : Launch) (hl : l.stackTraces = false) (Γ : Gm) (M : Hp) (i : Nat) (hi : i < 44) : Ct l Γ yJ0_isLatin1_aae02 cJ0_isLatin1_aae02 1 (some .boolean) 0 0 0 [.ref (sK Γ i)] M (Rd (some (.int 1)) M) := by
  refine Ct.of hl (by decide) (Nat.le_of_ble_eq_true rfl) rfl ?_
  intro κ e1 e2 hnL hRm X F hlt
  subst e1 e2
  refine g_compact X dJ0_isLatin1_aae02_0 k907 ?_
  refine g_if_eq (tgt := 17) X dJ0_isLatin1_aae02_3 (by decide) (fun h => absurd h (by decide)) (fun _ => ?_)
  refine g_aload_n X dJ0_isLatin1_aae02_6 rfl 0 rfl ?_
  refine g_scod X dJ0_isLatin1_aae02_7 hi k1584 ?_
  refine g_if_ne (tgt := 17) X dJ0_isLatin1_aae02_10 (by decide) (fun h => absurd rfl h) (fun _ => ?_)
  refine g_iconst (v := 1) X dJ0_isLatin1_aae02_13 (by decide) ?_
  refine g_goto (tgt := 18) X dJ0_isLatin1_aae02_14 (by decide) ?_
  exact g_zret X F dJ0_isLatin1_aae02_18 (by omega) (by omega) rfl ⟨rfl, rfl⟩
set_option maxRecDepth 100000 in
set_option maxHeartbeats 4000000 in
theorem c_slength (l : Launch) (hl : l.stackTraces = false) (Γ : Gm) (M : Hp) (i : Nat) (hi : i < 44) : Ct l Γ yJ0_length_8abf5 cJ0_length_8abf5 1 (some .int) 1 0 0 [.ref (sK Γ i)] M (Rd (some (.int (nI (sN i)))) M) := by
  refine Ct.of hl (by decide) (Nat.le_of_ble_eq_true rfl) rfl ?_
  intro κ e1 e2 hnL hRm X F hlt
  subst e1 e2
  refine g_aload_n X dJ0_length_8abf5_0 rfl 0 rfl ?_
  refine g_sval X dJ0_length_8abf5_1 hi k1583 ?_
  refine g_slen X dJ0_length_8abf5_4 hi ?_
  refine g_aload_n X dJ0_length_8abf5_5 rfl 0 rfl ?_
  refine g_callVr_rd (As := []) (v := some (.int 0)) X dJ0_length_8abf5_6 (c_coder κ.l hl κ.Γ M i hi) k903 k904 k905 k11 k906 (s_recv X hi) ⟨rfl, by decide, by decide, (show (parseMethodDescriptor yJ0_coder_7d493.desc).map (fun d => d.parameters.length) = some 0 by decide +kernel)⟩ rfl (Nat.le_of_ble_eq_true rfl) (by rw [hRm]; decide) (by rw [hRm]; exact ⟨by omega, by omega⟩) ?_
  refine g_ishr X dJ0_length_8abf5_9 ?_
  exact g_iret X F dJ0_length_8abf5_10 (by omega) (by omega) ⟨by rw [show shr (nI (sN i)) 0 = nI (sN i) from sb_shr0 _], rfl⟩
set_option maxRecDepth 100000 in
set_option maxHeartbeats 4000000 in
theorem c_sisEmpty (l : Launch) (hl : l.stackTraces = false) (Γ : Gm) (M : Hp) (i : Nat) (hi : i < 44) : Ct l Γ yJ0_isEmpty_aae02 cJ0_isEmpty_aae02 1 (some .boolean) 0 0 0 [.ref (sK Γ i)] M (Rd (some (.int (bI (nI (sN i) = 0)))) M) := by
  refine Ct.of hl (by decide) (Nat.le_of_ble_eq_true rfl) rfl ?_
  intro κ e1 e2 hnL hRm X F hlt
  subst e1 e2
  refine g_aload_n X dJ0_isEmpty_aae02_0 rfl 0 rfl ?_
  refine g_sval X dJ0_isEmpty_aae02_1 hi k1583 ?_
  refine g_slen X dJ0_isEmpty_aae02_4 hi ?_
  refine g_if_ne (tgt := 12) X dJ0_isEmpty_aae02_5 (by decide) (fun h => ?_) (fun h => ?_)
  · refine g_iconst (v := 0) X dJ0_isEmpty_aae02_12 (by decide) ?_
    exact g_zret X F dJ0_isEmpty_aae02_13 (by omega) (by omega) rfl ⟨by rw [bI_f h], rfl⟩
  · refine g_iconst (v := 1) X dJ0_isEmpty_aae02_8 (by decide) ?_
    refine g_goto (tgt := 13) X dJ0_isEmpty_aae02_9 (by decide) ?_
    exact g_zret X F dJ0_isEmpty_aae02_13 (by omega) (by omega) rfl ⟨by rw [bI_t h], rfl⟩
set_option maxRecDepth 100000 in
set_option maxHeartbeats 4000000 in
theorem c_pre (l : Launch) (hl : l.stackTraces = false) (Γ : Gm) (M : Hp) (j n : Nat) (hj : j < n) (hn : n < 2 ^ 31) (v : Value) (hv : v = .null ∨ ∃ t, v = .ref t) : Ct l Γ yJ3_checkIndex_8e157 cJ3_checkIndex_8e157 3 (some .int) 0 0 0 [.int (nI j), .int (nI n), v] M (Rd (some (.int (nI j))) M) := by
  rcases hv with rfl | ⟨t, rfl⟩
  all_goals
  refine Ct.of hl (by decide) (Nat.le_of_ble_eq_true rfl) rfl ?_
  intro κ e1 e2 hnL hRm X F hlt
  subst e1 e2
  refine g_iload_n X dJ3_checkIndex_8e157_0 rfl 0 rfl ?_
  refine g_if_lt (tgt := 9) X dJ3_checkIndex_8e157_1 (by decide) (fun h => absurd h (nI_pos (by omega))) (fun _ => ?_)
  refine g_iload_n X dJ3_checkIndex_8e157_4 rfl 0 rfl ?_
  refine g_iload_n X dJ3_checkIndex_8e157_5 rfl 1 rfl ?_
  refine g_icmp_lt (tgt := 16) X dJ3_checkIndex_8e157_6 (by decide) (fun _ => ?_) (fun h => absurd (nI_lt hj hn) h)
  refine g_iload_n X dJ3_checkIndex_8e157_16 rfl 0 rfl ?_
  exact g_iret X F dJ3_checkIndex_8e157_17 (by omega) (by omega) ⟨rfl, rfl⟩
set_option maxRecDepth 100000 in
set_option maxHeartbeats 4000000 in
theorem c_sck (l : Launch) (hl : l.stackTraces = false) (Γ : Gm) (M : Hp) (j n : Nat) (hj : j < n) (hn : n < 2 ^ 31) : Ct l Γ yJ0_checkIndex_df160 cJ0_checkIndex_df160 2 none 1 0 0 [.int (nI j), .int (nI n)] M (Rd none M) := by
  refine Ct.of hl (by decide) (Nat.le_of_ble_eq_true rfl) rfl ?_
  intro κ e1 e2 hnL hRm X F hlt
  subst e1 e2
  refine g_iload_n X dJ0_checkIndex_df160_0 rfl 0 rfl ?_
  refine g_iload_n X dJ0_checkIndex_df160_1 rfl 1 rfl ?_
  refine g_sioobe X dJ0_checkIndex_df160_2 k923 ?_ (fun t => ?_)
  · refine g_callS_rd (As := [.int (nI j), .int (nI n), .null]) (v := some (.int (nI j))) X dJ0_checkIndex_df160_5 (c_pre κ.l hl κ.Γ M j n hj hn (.null) (Or.inl rfl)) k925 k926 k22 k927 ⟨by decide, by decide, (show (parseMethodDescriptor yJ3_checkIndex_8e157.desc).map (fun d => d.parameters.length) = some 3 by decide +kernel)⟩ rfl (Nat.le_of_ble_eq_true rfl) (by rw [hRm]; decide) (by rw [hRm]; exact ⟨by omega, by omega⟩) ?_
    refine g_pop X dJ0_checkIndex_df160_8 rfl ?_
    exact g_vret X F dJ0_checkIndex_df160_9 (by omega) (by omega) ⟨rfl, rfl⟩
  · refine g_callS_rd (As := [.int (nI j), .int (nI n), .ref t]) (v := some (.int (nI j))) X dJ0_checkIndex_df160_5 (c_pre κ.l hl κ.Γ M j n hj hn (.ref t) (Or.inr ⟨t, rfl⟩)) k925 k926 k22 k927 ⟨by decide, by decide, (show (parseMethodDescriptor yJ3_checkIndex_8e157.desc).map (fun d => d.parameters.length) = some 3 by decide +kernel)⟩ rfl (Nat.le_of_ble_eq_true rfl) (by rw [hRm]; decide) (by rw [hRm]; exact ⟨by omega, by omega⟩) ?_
    refine g_pop X dJ0_checkIndex_df160_8 rfl ?_
    exact g_vret X F dJ0_checkIndex_df160_9 (by omega) (by omega) ⟨rfl, rfl⟩
theorem sB_ok : ∀ i, i < 44 → ∀ j, j < sN i → i2cc (sB i j &&& 255) = sB i j ∧ narrow .char (.int (sB i j)) = .int (sB i j) := by decide +kernel
theorem sN_lt : ∀ i, i < 44 → sN i < 48 := by decide +kernel
set_option maxRecDepth 100000 in
set_option maxHeartbeats 4000000 in
theorem c_l1 (l : Launch) (hl : l.stackTraces = false) (Γ : Gm) (M : Hp) (i j : Nat) (hi : i < 44) (hj : j < sN i) : Ct l Γ yJ1_charAt_3b067 cJ1_charAt_3b067 2 (some .char) 2 0 0 [.ref (sV Γ i), .int (nI j)] M (Rd (some (.int (sB i j))) M) := by
  refine Ct.of hl (by decide) (Nat.le_of_ble_eq_true rfl) rfl ?_
  intro κ e1 e2 hnL hRm X F hlt
  subst e1 e2
  have hn : sN i < 2 ^ 31 := Nat.lt_trans (sN_lt i hi) (by decide)
  refine g_iload_n X dJ1_charAt_3b067_0 rfl 1 rfl ?_
  refine g_aload_n X dJ1_charAt_3b067_1 rfl 0 rfl ?_
  refine g_slen X dJ1_charAt_3b067_2 hi ?_
  refine g_callS_rd (As := [.int (nI j), .int (nI (sN i))]) (v := none) X dJ1_charAt_3b067_3 (c_sck κ.l hl κ.Γ M j (sN i) hj hn) k920 k921 k11 k922 ⟨by decide, by decide, (show (parseMethodDescriptor yJ0_checkIndex_df160.desc).map (fun d => d.parameters.length) = some 2 by decide +kernel)⟩ rfl (Nat.le_of_ble_eq_true rfl) (by rw [hRm]; decide) (by rw [hRm]; exact ⟨by omega, by omega⟩) ?_
  refine g_aload_n X dJ1_charAt_3b067_6 rfl 0 rfl ?_
  refine g_iload_n X dJ1_charAt_3b067_7 rfl 1 rfl ?_
  refine g_sbyte X dJ1_charAt_3b067_8 hi hj hn ?_
  refine g_sipush (v := 255) X dJ1_charAt_3b067_9 (by decide) ?_
  refine g_iand X dJ1_charAt_3b067_12 ?_
  refine g_i2c X dJ1_charAt_3b067_13 ?_
  refine g_lit (sB i j) (sB_ok i hi j hj).1 ?_
  exact g_zret X F dJ1_charAt_3b067_14 (by omega) (by omega) (sB_ok i hi j hj).2 ⟨rfl, rfl⟩
set_option maxRecDepth 100000 in
set_option maxHeartbeats 4000000 in
theorem c_scharAt (l : Launch) (hl : l.stackTraces = false) (Γ : Gm) (M : Hp) (i j : Nat) (hi : i < 44) (hj : j < sN i) : Ct l Γ yJ0_charAt_5068e cJ0_charAt_5068e 2 (some .char) 3 0 0 [.ref (sK Γ i), .int (nI j)] M (Rd (some (.int (sB i j))) M) := by
  refine Ct.of hl (by decide) (Nat.le_of_ble_eq_true rfl) rfl ?_
  intro κ e1 e2 hnL hRm X F hlt
  subst e1 e2
  refine g_aload_n X dJ0_charAt_5068e_0 rfl 0 rfl ?_
  refine g_callVr_rd (As := []) (v := some (.int 1)) X dJ0_charAt_5068e_1 (c_isLatin1 κ.l hl κ.Γ M i hi) k913 k914 k915 k11 k916 (s_recv X hi) ⟨rfl, by decide, by decide, (show (parseMethodDescriptor yJ0_isLatin1_aae02.desc).map (fun d => d.parameters.length) = some 0 by decide +kernel)⟩ rfl (Nat.le_of_ble_eq_true rfl) (by rw [hRm]; decide) (by rw [hRm]; exact ⟨by omega, by omega⟩) ?_
  refine g_if_eq (tgt := 16) X dJ0_charAt_5068e_4 (by decide) (fun h => absurd h (by decide)) (fun _ => ?_)
  refine g_aload_n X dJ0_charAt_5068e_7 rfl 0 rfl ?_
  refine g_sval X dJ0_charAt_5068e_8 hi k1583 ?_
  refine g_iload_n X dJ0_charAt_5068e_11 rfl 1 rfl ?_
  refine g_callS_rd (As := [.ref (sV κ.Γ i), .int (nI j)]) (v := some (.int (sB i j))) X dJ0_charAt_5068e_12 (c_l1 κ.l hl κ.Γ M i j hi hj) k917 k918 k21 k919 ⟨by decide, by decide, (show (parseMethodDescriptor yJ1_charAt_3b067.desc).map (fun d => d.parameters.length) = some 2 by decide +kernel)⟩ rfl (Nat.le_of_ble_eq_true rfl) (by rw [hRm]; decide) (by rw [hRm]; exact ⟨by omega, by omega⟩) ?_
  exact g_zret X F dJ0_charAt_5068e_15 (by omega) (by omega) (sB_ok i hi j hj).2 ⟨rfl, rfl⟩
