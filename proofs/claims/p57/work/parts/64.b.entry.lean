/-! ===== what holds at the law's entry ===== -/
theorem arr_prim {args : Array Value} {s : State} {ty : FieldType} (hne : ∀ C, ty ≠ .object C) (h : (Cond.arrayClass ty).before args s = true) : ∃ c : ClassId, ArrOfT s c ty ∧ va_RA s c ty := by
  obtain ⟨c, k, comp, h1, h2, h3⟩ := Cond.arrayClass_spec h
  refine ⟨c, fun n z => ⟨fun k9 e => by simp [arrV] at e, k, h2, comp, h3⟩, ?_⟩
  cases ty with
  | object C => exact absurd rfl (hne C)
  | _ => exact h1
theorem arr_obj {args : Array Value} {s : State} {C : String} (h : (Cond.arrayOver (.object C)).before args s = true) : ∃ c : ClassId, ArrOfT s c (.object C) ∧ va_RA s c (.object C) := by
  obtain ⟨comp, c, k, h1, -, h2, h3, h4⟩ := Cond.arrayOver_spec h
  exact ⟨c, fun n z => ⟨fun k9 e => by simp [arrV] at e, k, h2, comp, h3⟩, k, comp, h2, h3, h1, h4⟩
theorem arr_arr {args : Array Value} {s : State} {ty : FieldType} (h : (Cond.arrayOver (.array ty)).before args s = true) : ∃ c : ClassId, ArrOfT s c (.array ty) ∧ va_RA s c (.array ty) := by
  obtain ⟨comp, c, k, h1, -, h2, h3, h4⟩ := arrayOverA_spec h
  exact ⟨c, fun n z => ⟨fun k9 e => by simp [arrV] at e, k, h2, comp, h3⟩, h4⟩
theorem tg_tbl {w : Cond} (h : w ∈ TG) : w ∈ lw_tbl := (List.mem_filter.mp h).1
theorem ng_tbl {w : Cond} (h : w ∈ NG) : w ∈ lw_tbl := (List.mem_filter.mp h).1
theorem ng_onT {w : Cond} (h : w ∈ NG) : w.onTables = true := by
  have hk := (List.mem_filter.mp h).2
  cases w <;> first | (simp [ngk] at hk; done) | rfl
/-- the start's own words, one by one -/
abbrev FL : List Cond := flatC (Jvm.Cond.and given_1 narrow_1)
def sTm (i : Nat) : Term := .string (sOwn i) (sIdx i)
def sVl (i : Nat) : Term := .field (sTm i) "java/lang/String" "value" "[B"
set_option maxRecDepth 100000
theorem gv_exa : ∀ i, i < 44 → Cond.exactly (sTm i) "java/lang/String" ∈ FL := by decide +kernel
theorem gv_cod : ∀ i, i < 44 → Cond.eq (.field (sTm i) "java/lang/String" "coder" "B") (.int 0) ∈ FL := by decide +kernel
theorem gv_arr : ∀ i, i < 44 → Cond.arrayOf (sVl i) .byte ∈ FL := by decide +kernel
theorem gv_len : ∀ i, i < 44 → Cond.eq (.length (sVl i)) (.int (Int32.ofNat (sLen.getD i 0))) ∈ FL := by decide +kernel
theorem gv_ncl : ∀ q ∈ NCl, Cond.not (.castable q.1 q.2) ∈ FL := by decide +kernel
theorem gv_len31 : ∀ i, i < 44 → sLen.getD i 0 < 2 ^ 31 := by decide +kernel
theorem gv_str : ∀ i, i < 44 → Cond.stringRef (sOwn i) (sIdx i) (sTxt i) ∈ lw_tbl := by decide +kernel
theorem gv_el0 : ∀ j, j < 9 → FL[([108, 109, 110, 111, 112, 113, 114, 115, 116] : List Nat).getD j 0]? = some (Cond.eq (.elem (sVl 0) (.int (Int32.ofNat j))) (.int ((sByt.getD 0 []).getD j 0))) := by decide +kernel
theorem gv_el1 : ∀ j, j < 7 → FL[([121, 122, 123, 124, 125, 126, 127] : List Nat).getD j 0]? = some (Cond.eq (.elem (sVl 1) (.int (Int32.ofNat j))) (.int ((sByt.getD 1 []).getD j 0))) := by decide +kernel
theorem gv_el2 : ∀ j, j < 7 → FL[([132, 133, 134, 135, 136, 137, 138] : List Nat).getD j 0]? = some (Cond.eq (.elem (sVl 2) (.int (Int32.ofNat j))) (.int ((sByt.getD 2 []).getD j 0))) := by decide +kernel
theorem gv_el3 : ∀ j, j < 8 → FL[([143, 144, 145, 146, 147, 148, 149, 150] : List Nat).getD j 0]? = some (Cond.eq (.elem (sVl 3) (.int (Int32.ofNat j))) (.int ((sByt.getD 3 []).getD j 0))) := by decide +kernel
theorem gv_el4 : ∀ j, j < 10 → FL[([155, 156, 157, 158, 159, 160, 161, 162, 163, 164] : List Nat).getD j 0]? = some (Cond.eq (.elem (sVl 4) (.int (Int32.ofNat j))) (.int ((sByt.getD 4 []).getD j 0))) := by decide +kernel
theorem gv_el5 : ∀ j, j < 7 → FL[([169, 170, 171, 172, 173, 174, 175] : List Nat).getD j 0]? = some (Cond.eq (.elem (sVl 5) (.int (Int32.ofNat j))) (.int ((sByt.getD 5 []).getD j 0))) := by decide +kernel
theorem gv_el6 : ∀ j, j < 6 → FL[([180, 181, 182, 183, 184, 185] : List Nat).getD j 0]? = some (Cond.eq (.elem (sVl 6) (.int (Int32.ofNat j))) (.int ((sByt.getD 6 []).getD j 0))) := by decide +kernel
theorem gv_el7 : ∀ j, j < 7 → FL[([190, 191, 192, 193, 194, 195, 196] : List Nat).getD j 0]? = some (Cond.eq (.elem (sVl 7) (.int (Int32.ofNat j))) (.int ((sByt.getD 7 []).getD j 0))) := by decide +kernel
theorem gv_el8 : ∀ j, j < 11 → FL[([201, 202, 203, 204, 205, 206, 207, 208, 209, 210, 211] : List Nat).getD j 0]? = some (Cond.eq (.elem (sVl 8) (.int (Int32.ofNat j))) (.int ((sByt.getD 8 []).getD j 0))) := by decide +kernel
theorem gv_el9 : ∀ j, j < 12 → FL[([216, 217, 218, 219, 220, 221, 222, 223, 224, 225, 226, 227] : List Nat).getD j 0]? = some (Cond.eq (.elem (sVl 9) (.int (Int32.ofNat j))) (.int ((sByt.getD 9 []).getD j 0))) := by decide +kernel
theorem gv_el10 : ∀ j, j < 8 → FL[([232, 233, 234, 235, 236, 237, 238, 239] : List Nat).getD j 0]? = some (Cond.eq (.elem (sVl 10) (.int (Int32.ofNat j))) (.int ((sByt.getD 10 []).getD j 0))) := by decide +kernel
theorem gv_el11 : ∀ j, j < 10 → FL[([244, 245, 246, 247, 248, 249, 250, 251, 252, 253] : List Nat).getD j 0]? = some (Cond.eq (.elem (sVl 11) (.int (Int32.ofNat j))) (.int ((sByt.getD 11 []).getD j 0))) := by decide +kernel
theorem gv_el12 : ∀ j, j < 0 → FL[([] : List Nat).getD j 0]? = some (Cond.eq (.elem (sVl 12) (.int (Int32.ofNat j))) (.int ((sByt.getD 12 []).getD j 0))) := by decide +kernel
theorem gv_el13 : ∀ j, j < 9 → FL[([262, 263, 264, 265, 266, 267, 268, 269, 270] : List Nat).getD j 0]? = some (Cond.eq (.elem (sVl 13) (.int (Int32.ofNat j))) (.int ((sByt.getD 13 []).getD j 0))) := by decide +kernel
theorem gv_el14 : ∀ j, j < 19 → FL[([275, 276, 277, 278, 279, 280, 281, 282, 283, 284, 285, 286, 287, 288, 289, 290, 291, 292, 293] : List Nat).getD j 0]? = some (Cond.eq (.elem (sVl 14) (.int (Int32.ofNat j))) (.int ((sByt.getD 14 []).getD j 0))) := by decide +kernel
theorem gv_el15 : ∀ j, j < 7 → FL[([298, 299, 300, 301, 302, 303, 304] : List Nat).getD j 0]? = some (Cond.eq (.elem (sVl 15) (.int (Int32.ofNat j))) (.int ((sByt.getD 15 []).getD j 0))) := by decide +kernel
theorem gv_el16 : ∀ j, j < 15 → FL[([309, 310, 311, 312, 313, 314, 315, 316, 317, 318, 319, 320, 321, 322, 323] : List Nat).getD j 0]? = some (Cond.eq (.elem (sVl 16) (.int (Int32.ofNat j))) (.int ((sByt.getD 16 []).getD j 0))) := by decide +kernel
theorem gv_el17 : ∀ j, j < 7 → FL[([328, 329, 330, 331, 332, 333, 334] : List Nat).getD j 0]? = some (Cond.eq (.elem (sVl 17) (.int (Int32.ofNat j))) (.int ((sByt.getD 17 []).getD j 0))) := by decide +kernel
theorem gv_el18 : ∀ j, j < 15 → FL[([339, 340, 341, 342, 343, 344, 345, 346, 347, 348, 349, 350, 351, 352, 353] : List Nat).getD j 0]? = some (Cond.eq (.elem (sVl 18) (.int (Int32.ofNat j))) (.int ((sByt.getD 18 []).getD j 0))) := by decide +kernel
theorem gv_el19 : ∀ j, j < 8 → FL[([358, 359, 360, 361, 362, 363, 364, 365] : List Nat).getD j 0]? = some (Cond.eq (.elem (sVl 19) (.int (Int32.ofNat j))) (.int ((sByt.getD 19 []).getD j 0))) := by decide +kernel
theorem gv_el20 : ∀ j, j < 19 → FL[([370, 371, 372, 373, 374, 375, 376, 377, 378, 379, 380, 381, 382, 383, 384, 385, 386, 387, 388] : List Nat).getD j 0]? = some (Cond.eq (.elem (sVl 20) (.int (Int32.ofNat j))) (.int ((sByt.getD 20 []).getD j 0))) := by decide +kernel
theorem gv_el21 : ∀ j, j < 11 → FL[([393, 394, 395, 396, 397, 398, 399, 400, 401, 402, 403] : List Nat).getD j 0]? = some (Cond.eq (.elem (sVl 21) (.int (Int32.ofNat j))) (.int ((sByt.getD 21 []).getD j 0))) := by decide +kernel
theorem gv_el22 : ∀ j, j < 23 → FL[([408, 409, 410, 411, 412, 413, 414, 415, 416, 417, 418, 419, 420, 421, 422, 423, 424, 425, 426, 427, 428, 429, 430] : List Nat).getD j 0]? = some (Cond.eq (.elem (sVl 22) (.int (Int32.ofNat j))) (.int ((sByt.getD 22 []).getD j 0))) := by decide +kernel
theorem gv_el23 : ∀ j, j < 7 → FL[([435, 436, 437, 438, 439, 440, 441] : List Nat).getD j 0]? = some (Cond.eq (.elem (sVl 23) (.int (Int32.ofNat j))) (.int ((sByt.getD 23 []).getD j 0))) := by decide +kernel
theorem gv_el24 : ∀ j, j < 14 → FL[([446, 447, 448, 449, 450, 451, 452, 453, 454, 455, 456, 457, 458, 459] : List Nat).getD j 0]? = some (Cond.eq (.elem (sVl 24) (.int (Int32.ofNat j))) (.int ((sByt.getD 24 []).getD j 0))) := by decide +kernel
theorem gv_el25 : ∀ j, j < 7 → FL[([464, 465, 466, 467, 468, 469, 470] : List Nat).getD j 0]? = some (Cond.eq (.elem (sVl 25) (.int (Int32.ofNat j))) (.int ((sByt.getD 25 []).getD j 0))) := by decide +kernel
theorem gv_el26 : ∀ j, j < 7 → FL[([475, 476, 477, 478, 479, 480, 481] : List Nat).getD j 0]? = some (Cond.eq (.elem (sVl 26) (.int (Int32.ofNat j))) (.int ((sByt.getD 26 []).getD j 0))) := by decide +kernel
theorem gv_el27 : ∀ j, j < 15 → FL[([486, 487, 488, 489, 490, 491, 492, 493, 494, 495, 496, 497, 498, 499, 500] : List Nat).getD j 0]? = some (Cond.eq (.elem (sVl 27) (.int (Int32.ofNat j))) (.int ((sByt.getD 27 []).getD j 0))) := by decide +kernel
theorem gv_el28 : ∀ j, j < 12 → FL[([505, 506, 507, 508, 509, 510, 511, 512, 513, 514, 515, 516] : List Nat).getD j 0]? = some (Cond.eq (.elem (sVl 28) (.int (Int32.ofNat j))) (.int ((sByt.getD 28 []).getD j 0))) := by decide +kernel
theorem gv_el29 : ∀ j, j < 20 → FL[([521, 522, 523, 524, 525, 526, 527, 528, 529, 530, 531, 532, 533, 534, 535, 536, 537, 538, 539, 540] : List Nat).getD j 0]? = some (Cond.eq (.elem (sVl 29) (.int (Int32.ofNat j))) (.int ((sByt.getD 29 []).getD j 0))) := by decide +kernel
theorem gv_el30 : ∀ j, j < 12 → FL[([545, 546, 547, 548, 549, 550, 551, 552, 553, 554, 555, 556] : List Nat).getD j 0]? = some (Cond.eq (.elem (sVl 30) (.int (Int32.ofNat j))) (.int ((sByt.getD 30 []).getD j 0))) := by decide +kernel
theorem gv_el31 : ∀ j, j < 12 → FL[([561, 562, 563, 564, 565, 566, 567, 568, 569, 570, 571, 572] : List Nat).getD j 0]? = some (Cond.eq (.elem (sVl 31) (.int (Int32.ofNat j))) (.int ((sByt.getD 31 []).getD j 0))) := by decide +kernel
theorem gv_el32 : ∀ j, j < 8 → FL[([577, 578, 579, 580, 581, 582, 583, 584] : List Nat).getD j 0]? = some (Cond.eq (.elem (sVl 32) (.int (Int32.ofNat j))) (.int ((sByt.getD 32 []).getD j 0))) := by decide +kernel
theorem gv_el33 : ∀ j, j < 17 → FL[([589, 590, 591, 592, 593, 594, 595, 596, 597, 598, 599, 600, 601, 602, 603, 604, 605] : List Nat).getD j 0]? = some (Cond.eq (.elem (sVl 33) (.int (Int32.ofNat j))) (.int ((sByt.getD 33 []).getD j 0))) := by decide +kernel
theorem gv_el34 : ∀ j, j < 11 → FL[([610, 611, 612, 613, 614, 615, 616, 617, 618, 619, 620] : List Nat).getD j 0]? = some (Cond.eq (.elem (sVl 34) (.int (Int32.ofNat j))) (.int ((sByt.getD 34 []).getD j 0))) := by decide +kernel
theorem gv_el35 : ∀ j, j < 47 → FL[([625, 626, 627, 628, 629, 630, 631, 632, 633, 634, 635, 636, 637, 638, 639, 640, 641, 642, 643, 644, 645, 646, 647, 648, 649, 650, 651, 652, 653, 654, 655, 656, 657, 658, 659, 660, 661, 662, 663, 664, 665, 666, 667, 668, 669, 670, 671] : List Nat).getD j 0]? = some (Cond.eq (.elem (sVl 35) (.int (Int32.ofNat j))) (.int ((sByt.getD 35 []).getD j 0))) := by decide +kernel
theorem gv_el36 : ∀ j, j < 9 → FL[([676, 677, 678, 679, 680, 681, 682, 683, 684] : List Nat).getD j 0]? = some (Cond.eq (.elem (sVl 36) (.int (Int32.ofNat j))) (.int ((sByt.getD 36 []).getD j 0))) := by decide +kernel
theorem gv_el37 : ∀ j, j < 9 → FL[([689, 690, 691, 692, 693, 694, 695, 696, 697] : List Nat).getD j 0]? = some (Cond.eq (.elem (sVl 37) (.int (Int32.ofNat j))) (.int ((sByt.getD 37 []).getD j 0))) := by decide +kernel
theorem gv_el38 : ∀ j, j < 8 → FL[([702, 703, 704, 705, 706, 707, 708, 709] : List Nat).getD j 0]? = some (Cond.eq (.elem (sVl 38) (.int (Int32.ofNat j))) (.int ((sByt.getD 38 []).getD j 0))) := by decide +kernel
theorem gv_el39 : ∀ j, j < 9 → FL[([714, 715, 716, 717, 718, 719, 720, 721, 722] : List Nat).getD j 0]? = some (Cond.eq (.elem (sVl 39) (.int (Int32.ofNat j))) (.int ((sByt.getD 39 []).getD j 0))) := by decide +kernel
theorem gv_el40 : ∀ j, j < 10 → FL[([727, 728, 729, 730, 731, 732, 733, 734, 735, 736] : List Nat).getD j 0]? = some (Cond.eq (.elem (sVl 40) (.int (Int32.ofNat j))) (.int ((sByt.getD 40 []).getD j 0))) := by decide +kernel
theorem gv_el41 : ∀ j, j < 11 → FL[([741, 742, 743, 744, 745, 746, 747, 748, 749, 750, 751] : List Nat).getD j 0]? = some (Cond.eq (.elem (sVl 41) (.int (Int32.ofNat j))) (.int ((sByt.getD 41 []).getD j 0))) := by decide +kernel
theorem gv_el42 : ∀ j, j < 10 → FL[([756, 757, 758, 759, 760, 761, 762, 763, 764, 765] : List Nat).getD j 0]? = some (Cond.eq (.elem (sVl 42) (.int (Int32.ofNat j))) (.int ((sByt.getD 42 []).getD j 0))) := by decide +kernel
theorem gv_el43 : ∀ j, j < 7 → FL[([770, 771, 772, 773, 774, 775, 776] : List Nat).getD j 0]? = some (Cond.eq (.elem (sVl 43) (.int (Int32.ofNat j))) (.int ((sByt.getD 43 []).getD j 0))) := by decide +kernel
theorem gv_elm (i : Nat) (hi : i < 44) (j : Nat) (hj : j < sLen.getD i 0) : Cond.eq (.elem (sVl i) (.int (Int32.ofNat j))) (.int ((sByt.getD i []).getD j 0)) ∈ FL := by
  match i, hi with
  | 0, _ => exact List.mem_of_getElem? (gv_el0 j hj)
  | 1, _ => exact List.mem_of_getElem? (gv_el1 j hj)
  | 2, _ => exact List.mem_of_getElem? (gv_el2 j hj)
  | 3, _ => exact List.mem_of_getElem? (gv_el3 j hj)
  | 4, _ => exact List.mem_of_getElem? (gv_el4 j hj)
  | 5, _ => exact List.mem_of_getElem? (gv_el5 j hj)
  | 6, _ => exact List.mem_of_getElem? (gv_el6 j hj)
  | 7, _ => exact List.mem_of_getElem? (gv_el7 j hj)
  | 8, _ => exact List.mem_of_getElem? (gv_el8 j hj)
  | 9, _ => exact List.mem_of_getElem? (gv_el9 j hj)
  | 10, _ => exact List.mem_of_getElem? (gv_el10 j hj)
  | 11, _ => exact List.mem_of_getElem? (gv_el11 j hj)
  | 12, _ => exact List.mem_of_getElem? (gv_el12 j hj)
  | 13, _ => exact List.mem_of_getElem? (gv_el13 j hj)
  | 14, _ => exact List.mem_of_getElem? (gv_el14 j hj)
  | 15, _ => exact List.mem_of_getElem? (gv_el15 j hj)
  | 16, _ => exact List.mem_of_getElem? (gv_el16 j hj)
  | 17, _ => exact List.mem_of_getElem? (gv_el17 j hj)
  | 18, _ => exact List.mem_of_getElem? (gv_el18 j hj)
  | 19, _ => exact List.mem_of_getElem? (gv_el19 j hj)
  | 20, _ => exact List.mem_of_getElem? (gv_el20 j hj)
  | 21, _ => exact List.mem_of_getElem? (gv_el21 j hj)
  | 22, _ => exact List.mem_of_getElem? (gv_el22 j hj)
  | 23, _ => exact List.mem_of_getElem? (gv_el23 j hj)
  | 24, _ => exact List.mem_of_getElem? (gv_el24 j hj)
  | 25, _ => exact List.mem_of_getElem? (gv_el25 j hj)
  | 26, _ => exact List.mem_of_getElem? (gv_el26 j hj)
  | 27, _ => exact List.mem_of_getElem? (gv_el27 j hj)
  | 28, _ => exact List.mem_of_getElem? (gv_el28 j hj)
  | 29, _ => exact List.mem_of_getElem? (gv_el29 j hj)
  | 30, _ => exact List.mem_of_getElem? (gv_el30 j hj)
  | 31, _ => exact List.mem_of_getElem? (gv_el31 j hj)
  | 32, _ => exact List.mem_of_getElem? (gv_el32 j hj)
  | 33, _ => exact List.mem_of_getElem? (gv_el33 j hj)
  | 34, _ => exact List.mem_of_getElem? (gv_el34 j hj)
  | 35, _ => exact List.mem_of_getElem? (gv_el35 j hj)
  | 36, _ => exact List.mem_of_getElem? (gv_el36 j hj)
  | 37, _ => exact List.mem_of_getElem? (gv_el37 j hj)
  | 38, _ => exact List.mem_of_getElem? (gv_el38 j hj)
  | 39, _ => exact List.mem_of_getElem? (gv_el39 j hj)
  | 40, _ => exact List.mem_of_getElem? (gv_el40 j hj)
  | 41, _ => exact List.mem_of_getElem? (gv_el41 j hj)
  | 42, _ => exact List.mem_of_getElem? (gv_el42 j hj)
  | 43, _ => exact List.mem_of_getElem? (gv_el43 j hj)
  | i + 44, h => exact absurd h (by omega)
def tTx : Term := .static "BellParliamentLaw" "TEXTS" "[Ljava/lang/String;"
theorem gv_tx : ∀ j, j < 31 → FL[([14, 15, 16, 17, 18, 19, 20, 21, 22, 23, 24, 25, 26, 27, 28, 29, 30, 31, 32, 33, 34, 35, 36, 37, 38, 39, 40, 41, 42, 43, 44] : List Nat).getD j 0]? = some (Cond.eq (.elem tTx (.int (Int32.ofNat j))) (sTm (13 + j))) := by decide +kernel
theorem vk_one {args : Array Value} {s : State} (g : ∀ c ∈ FL, c.before args s = true) {i : Nat} (hi : i < 44) : ∃ p : Nat × Nat, vk_S 1 [sLen.getD i 0] [sByt.getD i []] (fun _ => p.1) (fun _ => p.2) (fun q => s.heap.size ≤ q) s s.heap ∧ (sTm i).eval args s none [] s = some (.ref p.1) := by
  have hA : ∀ a : Nat, a < s.heap.size → ¬ (fun q : Nat => s.heap.size ≤ q) a := fun a h => Nat.not_le.mpr h
  have z : ∀ {P : Nat → Prop}, P 0 → ∀ j : Nat, j < 1 → P j := fun h j hj => by
    obtain rfl : j = 0 := by omega
    exact h
  obtain ⟨adK, adV, hS, hE⟩ := vk_Sof (args := args) (s := s) (N := 1) (tm := fun _ => sTm i) (len := [sLen.getD i 0]) (byt := [sByt.getD i []]) (A := fun q => s.heap.size ≤ q) (z (gv_len31 i hi)) (fun _ _ => g _ (gv_exa i hi)) (fun _ _ => g _ (gv_cod i hi)) (fun _ _ => g _ (gv_arr i hi)) (z (g _ (gv_len i hi))) (z (fun j hj => g _ (gv_elm i hi j hj))) (fun a b ha hb hab => absurd (by omega) hab) hA
  refine ⟨(adK 0, adV 0), ⟨z (hS.1 0 (by decide)), fun a b ha hb _ => by omega⟩, hE 0 (by decide)⟩
