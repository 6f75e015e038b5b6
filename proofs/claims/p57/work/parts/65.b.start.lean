set_option maxHeartbeats 4000000 in
set_option maxRecDepth 100000 in
theorem whole_start_of {p : Program} {e : Env} {s : State} {m : MethodId} {below : List Frame} {meth : Method} {c : Code} (l : Launch) (hflags : l.flags = flags0) {b L : Nat} {xs : Nat → Int32} (hL : L ≤ 260) (C0 : lw_At p s m meth c b L xs) : W p l e room_1 s m #[Value.ref b] below meth c s.heap [] 0 0 (lw_Z below #[Value.ref b] s) (entryFrame m ([Value.ref b] : List Value).toArray 9) := by
  obtain ⟨hx, hb, hr, hml, hown, hts, hX, hbl, hlocks, hgv⟩ := id C0
  obtain ⟨Γ, hE, eA, eN⟩ := en_entry hts hgv hX hL
  have hst : l.stackTraces = false := by
    have h9 := congrArg (fun f => f) hflags
    unfold Launch.stackTraces
    rw [hflags]
    rfl
  have hl := lv_entry ([.ref b]) (n := 9) (Nat.le_of_ble_eq_true rfl)
  rw [lg_entry_eq]
  generalize (lg_sl ([.ref b]) ++ List.replicate (9 - (lg_sl ([.ref b])).length) Slot.unset).toArray = ls at hl ⊢
  have hl : lv_has ls 9 [(0, .ref (scA Γ))] := by rw [eA]; exact hl
  have X : Cx (p, l, e, room_1, s, m, #[Value.ref b], below, meth, c, Γ, (fun q => s.heap.size ≤ q), 9, lw_Z below #[Value.ref b] s) RL cL_law (some .boolean) c.exceptionTable.toList meth.name := ⟨hx, hb, hml, hr, hlocks, hown, fun w hw => hts w (tg_tbl hw), hE, fun q h => h, hst, rfl, rfl⟩
  refine law_pro X hst rfl rfl (fun M cells slots L9 hc hs => ?_) s.heap [] ls ⟨(fun q e h => by cases h), (fun q e h => by cases h), va_S.rf⟩ hl
  intro H locs ls hI hl9
  refine va_forget (fun q hq => hI.2.2.2.2 q hq) ?_
  refine W.widen hc hs ?_
  exact lw_ret (Drawn.sameBut.refl s.drawn lw_cs) hx hb hr hlocks dL_law_437
