/-! ===== what holds at the law's entry ===== -/
theorem arr_prim {args : Array Value} {s : State} {ty : FieldType} (hne : ∀ C, ty ≠ .object C) (h : (Cond.arrayClass ty).before args s = true) : ∃ c : ClassId, ArrOfT s c ty ∧ va_RA s c ty := by
  obtain ⟨c, k, comp, h1, h2, h3⟩ := Cond.arrayClass_spec h
  refine ⟨c, fun n z => ⟨fun k9 e => by simp [arrV] at e, k, h2, comp, h3⟩, ?_⟩
  cases ty with
  | object C => exact absurd rfl (hne C)
  | _ => exact h1
theorem arr_obj {args : Array Value} {s : State} {C : String} (h : (Cond.arrayOver (.object C)).before args s = true) : ∃ c : ClassId, ArrOfT s c (.object C) ∧ va_RA s c (.object C) := by
  obtain ⟨comp, c, k, h1, -, h2, h3, h4⟩ := Cond.arrayOver_spec h
  exact ⟨c, fun n z => ⟨fun k9 e => by simp [arrV] at e, k, h2, comp, h3⟩, k, comp, h2, h3, h1, h4⟩
theorem arr_arr {args : Array Value} {s : State} {ty : FieldType} (h : (Cond.arrayOver (.array ty)).before args s = true) : ∃ c : ClassId, ArrOfT s c (.array ty) ∧ va_RA s c (.array ty) := by
  obtain ⟨comp, c, k, h1, -, h2, h3, h4⟩ := arrayOverA_spec h
  exact ⟨c, fun n z => ⟨fun k9 e => by simp [arrV] at e, k, h2, comp, h3⟩, h4⟩
theorem tg_tbl {w : Cond} (h : w ∈ TG) : w ∈ lw_tbl := (List.mem_filter.mp h).1
theorem ng_tbl {w : Cond} (h : w ∈ NG) : w ∈ lw_tbl := (List.mem_filter.mp h).1
theorem ng_onT {w : Cond} (h : w ∈ NG) : w.onTables = true := by
  have hk := (List.mem_filter.mp h).2
  cases w <;> first | (simp [ngk] at hk; done) | rfl
/-- the start's own words, one by one -/
abbrev FL : List Cond := flatC (Jvm.Cond.and given_1 narrow_1)
def sTm (i : Nat) : Term := .string (sOwn i) (sIdx i)
def sVl (i : Nat) : Term := .field (sTm i) "java/lang/String" "value" "[B"
set_option maxRecDepth 100000
theorem gv_exa : ∀ i, i < 25 → Cond.exactly (sTm i) "java/lang/String" ∈ FL := by decide +kernel
theorem gv_cod : ∀ i, i < 25 → Cond.eq (.field (sTm i) "java/lang/String" "coder" "B") (.int 0) ∈ FL := by decide +kernel
theorem gv_arr : ∀ i, i < 25 → Cond.arrayOf (sVl i) .byte ∈ FL := by decide +kernel
theorem gv_len : ∀ i, i < 25 → Cond.eq (.length (sVl i)) (.int (Int32.ofNat (sLen.getD i 0))) ∈ FL := by decide +kernel
theorem gv_ncl : ∀ q ∈ NCl, Cond.not (.castable q.1 q.2) ∈ FL := by decide +kernel
theorem gv_len31 : ∀ i, i < 25 → sLen.getD i 0 < 2 ^ 31 := by decide +kernel
theorem gv_str : ∀ i, i < 25 → Cond.stringRef (sOwn i) (sIdx i) (sTxt i) ∈ lw_tbl := by decide +kernel
theorem gv_el0 : ∀ j, j < 9 → FL[([80, 81, 82, 83, 84, 85, 86, 87, 88] : List Nat).getD j 0]? = some (Cond.eq (.elem (sVl 0) (.int (Int32.ofNat j))) (.int ((sByt.getD 0 []).getD j 0))) := by decide +kernel
theorem gv_el1 : ∀ j, j < 7 → FL[([93, 94, 95, 96, 97, 98, 99] : List Nat).getD j 0]? = some (Cond.eq (.elem (sVl 1) (.int (Int32.ofNat j))) (.int ((sByt.getD 1 []).getD j 0))) := by decide +kernel
theorem gv_el2 : ∀ j, j < 7 → FL[([105, 106, 107, 108, 109, 110, 111] : List Nat).getD j 0]? = some (Cond.eq (.elem (sVl 2) (.int (Int32.ofNat j))) (.int ((sByt.getD 2 []).getD j 0))) := by decide +kernel
theorem gv_el3 : ∀ j, j < 8 → FL[([118, 119, 120, 121, 122, 123, 124, 125] : List Nat).getD j 0]? = some (Cond.eq (.elem (sVl 3) (.int (Int32.ofNat j))) (.int ((sByt.getD 3 []).getD j 0))) := by decide +kernel
theorem gv_el4 : ∀ j, j < 10 → FL[([133, 134, 135, 136, 137, 138, 139, 140, 141, 142] : List Nat).getD j 0]? = some (Cond.eq (.elem (sVl 4) (.int (Int32.ofNat j))) (.int ((sByt.getD 4 []).getD j 0))) := by decide +kernel
theorem gv_el5 : ∀ j, j < 7 → FL[([151, 152, 153, 154, 155, 156, 157] : List Nat).getD j 0]? = some (Cond.eq (.elem (sVl 5) (.int (Int32.ofNat j))) (.int ((sByt.getD 5 []).getD j 0))) := by decide +kernel
theorem gv_el6 : ∀ j, j < 6 → FL[([167, 168, 169, 170, 171, 172] : List Nat).getD j 0]? = some (Cond.eq (.elem (sVl 6) (.int (Int32.ofNat j))) (.int ((sByt.getD 6 []).getD j 0))) := by decide +kernel
theorem gv_el7 : ∀ j, j < 7 → FL[([183, 184, 185, 186, 187, 188, 189] : List Nat).getD j 0]? = some (Cond.eq (.elem (sVl 7) (.int (Int32.ofNat j))) (.int ((sByt.getD 7 []).getD j 0))) := by decide +kernel
theorem gv_el8 : ∀ j, j < 11 → FL[([201, 202, 203, 204, 205, 206, 207, 208, 209, 210, 211] : List Nat).getD j 0]? = some (Cond.eq (.elem (sVl 8) (.int (Int32.ofNat j))) (.int ((sByt.getD 8 []).getD j 0))) := by decide +kernel
theorem gv_el9 : ∀ j, j < 12 → FL[([224, 225, 226, 227, 228, 229, 230, 231, 232, 233, 234, 235] : List Nat).getD j 0]? = some (Cond.eq (.elem (sVl 9) (.int (Int32.ofNat j))) (.int ((sByt.getD 9 []).getD j 0))) := by decide +kernel
theorem gv_el10 : ∀ j, j < 8 → FL[([249, 250, 251, 252, 253, 254, 255, 256] : List Nat).getD j 0]? = some (Cond.eq (.elem (sVl 10) (.int (Int32.ofNat j))) (.int ((sByt.getD 10 []).getD j 0))) := by decide +kernel
theorem gv_el11 : ∀ j, j < 10 → FL[([271, 272, 273, 274, 275, 276, 277, 278, 279, 280] : List Nat).getD j 0]? = some (Cond.eq (.elem (sVl 11) (.int (Int32.ofNat j))) (.int ((sByt.getD 11 []).getD j 0))) := by decide +kernel
theorem gv_el12 : ∀ j, j < 0 → FL[([] : List Nat).getD j 0]? = some (Cond.eq (.elem (sVl 12) (.int (Int32.ofNat j))) (.int ((sByt.getD 12 []).getD j 0))) := by decide +kernel
theorem gv_el13 : ∀ j, j < 5 → FL[([312, 313, 314, 315, 316] : List Nat).getD j 0]? = some (Cond.eq (.elem (sVl 13) (.int (Int32.ofNat j))) (.int ((sByt.getD 13 []).getD j 0))) := by decide +kernel
theorem gv_el14 : ∀ j, j < 5 → FL[([334, 335, 336, 337, 338] : List Nat).getD j 0]? = some (Cond.eq (.elem (sVl 14) (.int (Int32.ofNat j))) (.int ((sByt.getD 14 []).getD j 0))) := by decide +kernel
theorem gv_el15 : ∀ j, j < 6 → FL[([357, 358, 359, 360, 361, 362] : List Nat).getD j 0]? = some (Cond.eq (.elem (sVl 15) (.int (Int32.ofNat j))) (.int ((sByt.getD 15 []).getD j 0))) := by decide +kernel
theorem gv_el16 : ∀ j, j < 4 → FL[([382, 383, 384, 385] : List Nat).getD j 0]? = some (Cond.eq (.elem (sVl 16) (.int (Int32.ofNat j))) (.int ((sByt.getD 16 []).getD j 0))) := by decide +kernel
theorem gv_el17 : ∀ j, j < 3 → FL[([406, 407, 408] : List Nat).getD j 0]? = some (Cond.eq (.elem (sVl 17) (.int (Int32.ofNat j))) (.int ((sByt.getD 17 []).getD j 0))) := by decide +kernel
theorem gv_el18 : ∀ j, j < 2 → FL[([430, 431] : List Nat).getD j 0]? = some (Cond.eq (.elem (sVl 18) (.int (Int32.ofNat j))) (.int ((sByt.getD 18 []).getD j 0))) := by decide +kernel
theorem gv_el19 : ∀ j, j < 5 → FL[([454, 455, 456, 457, 458] : List Nat).getD j 0]? = some (Cond.eq (.elem (sVl 19) (.int (Int32.ofNat j))) (.int ((sByt.getD 19 []).getD j 0))) := by decide +kernel
theorem gv_el20 : ∀ j, j < 5 → FL[([482, 483, 484, 485, 486] : List Nat).getD j 0]? = some (Cond.eq (.elem (sVl 20) (.int (Int32.ofNat j))) (.int ((sByt.getD 20 []).getD j 0))) := by decide +kernel
theorem gv_el21 : ∀ j, j < 7 → FL[([511, 512, 513, 514, 515, 516, 517] : List Nat).getD j 0]? = some (Cond.eq (.elem (sVl 21) (.int (Int32.ofNat j))) (.int ((sByt.getD 21 []).getD j 0))) := by decide +kernel
theorem gv_el22 : ∀ j, j < 6 → FL[([543, 544, 545, 546, 547, 548] : List Nat).getD j 0]? = some (Cond.eq (.elem (sVl 22) (.int (Int32.ofNat j))) (.int ((sByt.getD 22 []).getD j 0))) := by decide +kernel
theorem gv_el23 : ∀ j, j < 4 → FL[([575, 576, 577, 578] : List Nat).getD j 0]? = some (Cond.eq (.elem (sVl 23) (.int (Int32.ofNat j))) (.int ((sByt.getD 23 []).getD j 0))) := by decide +kernel
theorem gv_el24 : ∀ j, j < 6 → FL[([606, 607, 608, 609, 610, 611] : List Nat).getD j 0]? = some (Cond.eq (.elem (sVl 24) (.int (Int32.ofNat j))) (.int ((sByt.getD 24 []).getD j 0))) := by decide +kernel
theorem gv_ne1 : ∀ i, i < 1 → FL[([100] : List Nat).getD i 0]? = some (Cond.not (Cond.eq (sTm i) (sTm 1))) := by decide +kernel
theorem gv_ne2 : ∀ i, i < 2 → FL[([112, 113] : List Nat).getD i 0]? = some (Cond.not (Cond.eq (sTm i) (sTm 2))) := by decide +kernel
theorem gv_ne3 : ∀ i, i < 3 → FL[([126, 127, 128] : List Nat).getD i 0]? = some (Cond.not (Cond.eq (sTm i) (sTm 3))) := by decide +kernel
theorem gv_ne4 : ∀ i, i < 4 → FL[([143, 144, 145, 146] : List Nat).getD i 0]? = some (Cond.not (Cond.eq (sTm i) (sTm 4))) := by decide +kernel
theorem gv_ne5 : ∀ i, i < 5 → FL[([158, 159, 160, 161, 162] : List Nat).getD i 0]? = some (Cond.not (Cond.eq (sTm i) (sTm 5))) := by decide +kernel
theorem gv_ne6 : ∀ i, i < 6 → FL[([173, 174, 175, 176, 177, 178] : List Nat).getD i 0]? = some (Cond.not (Cond.eq (sTm i) (sTm 6))) := by decide +kernel
theorem gv_ne7 : ∀ i, i < 7 → FL[([190, 191, 192, 193, 194, 195, 196] : List Nat).getD i 0]? = some (Cond.not (Cond.eq (sTm i) (sTm 7))) := by decide +kernel
theorem gv_ne8 : ∀ i, i < 8 → FL[([212, 213, 214, 215, 216, 217, 218, 219] : List Nat).getD i 0]? = some (Cond.not (Cond.eq (sTm i) (sTm 8))) := by decide +kernel
theorem gv_ne9 : ∀ i, i < 9 → FL[([236, 237, 238, 239, 240, 241, 242, 243, 244] : List Nat).getD i 0]? = some (Cond.not (Cond.eq (sTm i) (sTm 9))) := by decide +kernel
theorem gv_ne10 : ∀ i, i < 10 → FL[([257, 258, 259, 260, 261, 262, 263, 264, 265, 266] : List Nat).getD i 0]? = some (Cond.not (Cond.eq (sTm i) (sTm 10))) := by decide +kernel
theorem gv_ne11 : ∀ i, i < 11 → FL[([281, 282, 283, 284, 285, 286, 287, 288, 289, 290, 291] : List Nat).getD i 0]? = some (Cond.not (Cond.eq (sTm i) (sTm 11))) := by decide +kernel
theorem gv_ne12 : ∀ i, i < 12 → FL[([296, 297, 298, 299, 300, 301, 302, 303, 304, 305, 306, 307] : List Nat).getD i 0]? = some (Cond.not (Cond.eq (sTm i) (sTm 12))) := by decide +kernel
theorem gv_ne13 : ∀ i, i < 13 → FL[([317, 318, 319, 320, 321, 322, 323, 324, 325, 326, 327, 328, 329] : List Nat).getD i 0]? = some (Cond.not (Cond.eq (sTm i) (sTm 13))) := by decide +kernel
theorem gv_ne14 : ∀ i, i < 14 → FL[([339, 340, 341, 342, 343, 344, 345, 346, 347, 348, 349, 350, 351, 352] : List Nat).getD i 0]? = some (Cond.not (Cond.eq (sTm i) (sTm 14))) := by decide +kernel
theorem gv_ne15 : ∀ i, i < 15 → FL[([363, 364, 365, 366, 367, 368, 369, 370, 371, 372, 373, 374, 375, 376, 377] : List Nat).getD i 0]? = some (Cond.not (Cond.eq (sTm i) (sTm 15))) := by decide +kernel
theorem gv_ne16 : ∀ i, i < 16 → FL[([386, 387, 388, 389, 390, 391, 392, 393, 394, 395, 396, 397, 398, 399, 400, 401] : List Nat).getD i 0]? = some (Cond.not (Cond.eq (sTm i) (sTm 16))) := by decide +kernel
theorem gv_ne17 : ∀ i, i < 17 → FL[([409, 410, 411, 412, 413, 414, 415, 416, 417, 418, 419, 420, 421, 422, 423, 424, 425] : List Nat).getD i 0]? = some (Cond.not (Cond.eq (sTm i) (sTm 17))) := by decide +kernel
theorem gv_ne18 : ∀ i, i < 18 → FL[([432, 433, 434, 435, 436, 437, 438, 439, 440, 441, 442, 443, 444, 445, 446, 447, 448, 449] : List Nat).getD i 0]? = some (Cond.not (Cond.eq (sTm i) (sTm 18))) := by decide +kernel
theorem gv_ne19 : ∀ i, i < 19 → FL[([459, 460, 461, 462, 463, 464, 465, 466, 467, 468, 469, 470, 471, 472, 473, 474, 475, 476, 477] : List Nat).getD i 0]? = some (Cond.not (Cond.eq (sTm i) (sTm 19))) := by decide +kernel
theorem gv_ne20 : ∀ i, i < 20 → FL[([487, 488, 489, 490, 491, 492, 493, 494, 495, 496, 497, 498, 499, 500, 501, 502, 503, 504, 505, 506] : List Nat).getD i 0]? = some (Cond.not (Cond.eq (sTm i) (sTm 20))) := by decide +kernel
theorem gv_ne21 : ∀ i, i < 21 → FL[([518, 519, 520, 521, 522, 523, 524, 525, 526, 527, 528, 529, 530, 531, 532, 533, 534, 535, 536, 537, 538] : List Nat).getD i 0]? = some (Cond.not (Cond.eq (sTm i) (sTm 21))) := by decide +kernel
theorem gv_ne22 : ∀ i, i < 22 → FL[([549, 550, 551, 552, 553, 554, 555, 556, 557, 558, 559, 560, 561, 562, 563, 564, 565, 566, 567, 568, 569, 570] : List Nat).getD i 0]? = some (Cond.not (Cond.eq (sTm i) (sTm 22))) := by decide +kernel
theorem gv_ne23 : ∀ i, i < 23 → FL[([579, 580, 581, 582, 583, 584, 585, 586, 587, 588, 589, 590, 591, 592, 593, 594, 595, 596, 597, 598, 599, 600, 601] : List Nat).getD i 0]? = some (Cond.not (Cond.eq (sTm i) (sTm 23))) := by decide +kernel
theorem gv_ne24 : ∀ i, i < 24 → FL[([612, 613, 614, 615, 616, 617, 618, 619, 620, 621, 622, 623, 624, 625, 626, 627, 628, 629, 630, 631, 632, 633, 634, 635] : List Nat).getD i 0]? = some (Cond.not (Cond.eq (sTm i) (sTm 24))) := by decide +kernel
theorem gv_elm (i : Nat) (hi : i < 25) (j : Nat) (hj : j < sLen.getD i 0) : Cond.eq (.elem (sVl i) (.int (Int32.ofNat j))) (.int ((sByt.getD i []).getD j 0)) ∈ FL := by
  match i, hi with
  | 0, _ => exact List.mem_of_getElem? (gv_el0 j hj)
  | 1, _ => exact List.mem_of_getElem? (gv_el1 j hj)
  | 2, _ => exact List.mem_of_getElem? (gv_el2 j hj)
  | 3, _ => exact List.mem_of_getElem? (gv_el3 j hj)
  | 4, _ => exact List.mem_of_getElem? (gv_el4 j hj)
  | 5, _ => exact List.mem_of_getElem? (gv_el5 j hj)
  | 6, _ => exact List.mem_of_getElem? (gv_el6 j hj)
  | 7, _ => exact List.mem_of_getElem? (gv_el7 j hj)
  | 8, _ => exact List.mem_of_getElem? (gv_el8 j hj)
  | 9, _ => exact List.mem_of_getElem? (gv_el9 j hj)
  | 10, _ => exact List.mem_of_getElem? (gv_el10 j hj)
  | 11, _ => exact List.mem_of_getElem? (gv_el11 j hj)
  | 12, _ => exact List.mem_of_getElem? (gv_el12 j hj)
  | 13, _ => exact List.mem_of_getElem? (gv_el13 j hj)
  | 14, _ => exact List.mem_of_getElem? (gv_el14 j hj)
  | 15, _ => exact List.mem_of_getElem? (gv_el15 j hj)
  | 16, _ => exact List.mem_of_getElem? (gv_el16 j hj)
  | 17, _ => exact List.mem_of_getElem? (gv_el17 j hj)
  | 18, _ => exact List.mem_of_getElem? (gv_el18 j hj)
  | 19, _ => exact List.mem_of_getElem? (gv_el19 j hj)
  | 20, _ => exact List.mem_of_getElem? (gv_el20 j hj)
  | 21, _ => exact List.mem_of_getElem? (gv_el21 j hj)
  | 22, _ => exact List.mem_of_getElem? (gv_el22 j hj)
  | 23, _ => exact List.mem_of_getElem? (gv_el23 j hj)
  | 24, _ => exact List.mem_of_getElem? (gv_el24 j hj)
  | i + 25, h => exact absurd h (by omega)
theorem gv_ne (j : Nat) (hj : j < 25) (i : Nat) (hi : i < j) : Cond.not (Cond.eq (sTm i) (sTm j)) ∈ FL := by
  match j, hj with
  | 0, _ => exact absurd hi (Nat.not_lt_zero _)
  | 1, _ => exact List.mem_of_getElem? (gv_ne1 i hi)
  | 2, _ => exact List.mem_of_getElem? (gv_ne2 i hi)
  | 3, _ => exact List.mem_of_getElem? (gv_ne3 i hi)
  | 4, _ => exact List.mem_of_getElem? (gv_ne4 i hi)
  | 5, _ => exact List.mem_of_getElem? (gv_ne5 i hi)
  | 6, _ => exact List.mem_of_getElem? (gv_ne6 i hi)
  | 7, _ => exact List.mem_of_getElem? (gv_ne7 i hi)
  | 8, _ => exact List.mem_of_getElem? (gv_ne8 i hi)
  | 9, _ => exact List.mem_of_getElem? (gv_ne9 i hi)
  | 10, _ => exact List.mem_of_getElem? (gv_ne10 i hi)
  | 11, _ => exact List.mem_of_getElem? (gv_ne11 i hi)
  | 12, _ => exact List.mem_of_getElem? (gv_ne12 i hi)
  | 13, _ => exact List.mem_of_getElem? (gv_ne13 i hi)
  | 14, _ => exact List.mem_of_getElem? (gv_ne14 i hi)
  | 15, _ => exact List.mem_of_getElem? (gv_ne15 i hi)
  | 16, _ => exact List.mem_of_getElem? (gv_ne16 i hi)
  | 17, _ => exact List.mem_of_getElem? (gv_ne17 i hi)
  | 18, _ => exact List.mem_of_getElem? (gv_ne18 i hi)
  | 19, _ => exact List.mem_of_getElem? (gv_ne19 i hi)
  | 20, _ => exact List.mem_of_getElem? (gv_ne20 i hi)
  | 21, _ => exact List.mem_of_getElem? (gv_ne21 i hi)
  | 22, _ => exact List.mem_of_getElem? (gv_ne22 i hi)
  | 23, _ => exact List.mem_of_getElem? (gv_ne23 i hi)
  | 24, _ => exact List.mem_of_getElem? (gv_ne24 i hi)
  | j + 25, h => exact absurd h (by omega)

