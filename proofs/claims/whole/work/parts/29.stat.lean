/-! what the Statement gives of the start: words, their array, the switch's table, texts -/
def mx_sk : List Nat := [163, 169, 172, 175, 178, 181, 184, 187, 190, 193, 196, 199, 202, 205, 208, 211, 214, 217, 220, 223, 226, 229, 232, 235, 238, 241, 244, 247, 250, 253, 256, 259, 262, 265, 268, 271, 274, 277, 280, 283, 286, 289]
abbrev mx_flat : List Cond := flatC (Jvm.Cond.and given_1 narrow_1)
abbrev mx_wd : String := "LTermSolver$Word;"
abbrev mx_ts (i : Nat) : Term := .static RX9 (mx_wn.getD i "") mx_wd
abbrev mx_tk (i : Nat) : Term := .string RX9 (mx_sk.getD i 0)
def ps_fl_ex : List Nat := [71, 86, 76, 81, 66, 91, 56, 61, 96, 101, 116, 226, 231, 236, 241, 246, 181, 251, 256, 261, 266, 271, 276, 281, 286, 291, 166, 171, 176, 191, 296, 186, 301, 206, 196, 201, 211, 106, 306, 216, 221, 111]
theorem fl_ex : ∀ i, i < 42 → Cond.exactly (mx_ts i) RX9 ∈ mx_flat := fun i h9 => List.mem_of_getElem? (i := ps_fl_ex.getD i 0) ((by decide +kernel : ∀ i, i < 42 → mx_flat[ps_fl_ex.getD i 0]? = some (Cond.exactly (mx_ts i) RX9)) i h9)
def ps_fl_ord : List Nat := [72, 87, 77, 82, 67, 92, 57, 62, 97, 102, 117, 227, 232, 237, 242, 247, 182, 252, 257, 262, 267, 272, 277, 282, 287, 292, 167, 172, 177, 192, 297, 187, 302, 207, 197, 202, 212, 107, 307, 217, 222, 112]
theorem fl_ord : ∀ i, i < 42 → Cond.eq (.field (mx_ts i) "java/lang/Enum" "ordinal" "I") (.int (Int32.ofNat i)) ∈ mx_flat := fun i h9 => List.mem_of_getElem? (i := ps_fl_ord.getD i 0) ((by decide +kernel : ∀ i, i < 42 → mx_flat[ps_fl_ord.getD i 0]? = some (Cond.eq (.field (mx_ts i) "java/lang/Enum" "ordinal" "I") (.int (Int32.ofNat i)))) i h9)
def ps_fl_sp : List Nat := [73, 88, 78, 83, 68, 93, 58, 63, 98, 103, 118, 228, 233, 238, 243, 248, 183, 253, 258, 263, 268, 273, 278, 283, 288, 293, 168, 173, 178, 193, 298, 188, 303, 208, 198, 203, 213, 108, 308, 218, 223, 113]
theorem fl_sp : ∀ i, i < 42 → Cond.eq (.field (mx_ts i) RX9 "spelling" "Ljava/lang/String;") (mx_tk i) ∈ mx_flat := fun i h9 => List.mem_of_getElem? (i := ps_fl_sp.getD i 0) ((by decide +kernel : ∀ i, i < 42 → mx_flat[ps_fl_sp.getD i 0]? = some (Cond.eq (.field (mx_ts i) RX9 "spelling" "Ljava/lang/String;") (mx_tk i))) i h9)
def ps_fl_sh : List Nat := [74, 89, 79, 84, 69, 94, 59, 64, 99, 104, 119, 229, 234, 239, 244, 249, 184, 254, 259, 264, 269, 274, 279, 284, 289, 294, 169, 174, 179, 194, 299, 189, 304, 209, 199, 204, 214, 109, 309, 219, 224, 114]
theorem fl_sh : ∀ i, i < 42 → Cond.eq (.field (mx_ts i) RX9 "shape" "I") (.int (mx_wsh.getD i (0, 0)).1) ∈ mx_flat := fun i h9 => List.mem_of_getElem? (i := ps_fl_sh.getD i 0) ((by decide +kernel : ∀ i, i < 42 → mx_flat[ps_fl_sh.getD i 0]? = some (Cond.eq (.field (mx_ts i) RX9 "shape" "I") (.int (mx_wsh.getD i (0, 0)).1))) i h9)
def ps_fl_pa : List Nat := [75, 90, 80, 85, 70, 95, 60, 65, 100, 105, 120, 230, 235, 240, 245, 250, 185, 255, 260, 265, 270, 275, 280, 285, 290, 295, 170, 175, 180, 195, 300, 190, 305, 210, 200, 205, 215, 110, 310, 220, 225, 115]
theorem fl_pa : ∀ i, i < 42 → Cond.eq (.field (mx_ts i) RX9 "parts" "I") (.int (mx_wsh.getD i (0, 0)).2) ∈ mx_flat := fun i h9 => List.mem_of_getElem? (i := ps_fl_pa.getD i 0) ((by decide +kernel : ∀ i, i < 42 → mx_flat[ps_fl_pa.getD i 0]? = some (Cond.eq (.field (mx_ts i) RX9 "parts" "I") (.int (mx_wsh.getD i (0, 0)).2))) i h9)
abbrev mx_ta : Term := .static RX10 "ALL_WORDS" "[LTermSolver$Word;"
theorem fl_aa : Cond.arrayOf mx_ta (.object RX9) ∈ mx_flat := List.mem_of_getElem? (i := 6) (by decide +kernel)
theorem fl_al : Cond.eq (.length mx_ta) (.int 42) ∈ mx_flat := List.mem_of_getElem? (i := 7) (by decide +kernel)
def ps_fl_ae : List Nat := [9, 10, 11, 12, 13, 14, 15, 16, 17, 18, 19, 20, 21, 22, 23, 24, 25, 26, 27, 28, 29, 30, 31, 32, 33, 34, 35, 36, 37, 38, 39, 40, 41, 42, 43, 44, 45, 46, 47, 48, 49, 50]
theorem fl_ae : ∀ j, j < 42 → Cond.eq (.elem mx_ta (.int (Int32.ofNat j))) (mx_ts j) ∈ mx_flat := fun j h9 => List.mem_of_getElem? (i := ps_fl_ae.getD j 0) ((by decide +kernel : ∀ j, j < 42 → mx_flat[ps_fl_ae.getD j 0]? = some (Cond.eq (.elem mx_ta (.int (Int32.ofNat j))) (mx_ts j))) j h9)
abbrev mx_tw : Term := .static RX0 "$SwitchMap$TermSolver$Word" "[I"
theorem fl_wa : Cond.arrayOf mx_tw .int ∈ mx_flat := List.mem_of_getElem? (i := 122) (by decide +kernel)
theorem fl_wl : Cond.eq (.length mx_tw) (.int 42) ∈ mx_flat := List.mem_of_getElem? (i := 123) (by decide +kernel)
def ps_fl_we : List Nat := [124, 125, 126, 127, 128, 129, 130, 131, 132, 133, 134, 135, 136, 137, 138, 139, 140, 141, 142, 143, 144, 145, 146, 147, 148, 149, 150, 151, 152, 153, 154, 155, 156, 157, 158, 159, 160, 161, 162, 163, 164, 165]
theorem fl_we : ∀ j, j < 42 → Cond.eq (.elem mx_tw (.int (Int32.ofNat j))) (.int (mx_swm j)) ∈ mx_flat := fun j h9 => List.mem_of_getElem? (i := ps_fl_we.getD j 0) ((by decide +kernel : ∀ j, j < 42 → mx_flat[ps_fl_we.getD j 0]? = some (Cond.eq (.elem mx_tw (.int (Int32.ofNat j))) (.int (mx_swm j)))) j h9)
def ps_fl_kx : List Nat := [343, 365, 351, 360, 326, 375, 311, 319, 385, 393, 422, 544, 551, 558, 564, 571, 458, 577, 589, 596, 605, 614, 623, 631, 640, 649, 429, 438, 448, 473, 658, 463, 668, 500, 482, 491, 509, 402, 677, 519, 534, 413]
theorem fl_kx : ∀ i, i < 42 → Cond.exactly (mx_tk i) "java/lang/String" ∈ mx_flat := fun i h9 => List.mem_of_getElem? (i := ps_fl_kx.getD i 0) ((by decide +kernel : ∀ i, i < 42 → mx_flat[ps_fl_kx.getD i 0]? = some (Cond.exactly (mx_tk i) "java/lang/String")) i h9)
def ps_fl_kc : List Nat := [344, 366, 352, 361, 327, 376, 312, 320, 386, 394, 423, 545, 552, 559, 565, 572, 459, 578, 590, 597, 606, 615, 624, 632, 641, 650, 430, 439, 449, 474, 659, 464, 669, 501, 483, 492, 510, 403, 678, 520, 535, 414]
theorem fl_kc : ∀ i, i < 42 → Cond.eq (.field (mx_tk i) "java/lang/String" "coder" "B") (.int 0) ∈ mx_flat := fun i h9 => List.mem_of_getElem? (i := ps_fl_kc.getD i 0) ((by decide +kernel : ∀ i, i < 42 → mx_flat[ps_fl_kc.getD i 0]? = some (Cond.eq (.field (mx_tk i) "java/lang/String" "coder" "B") (.int 0))) i h9)
def ps_fl_ka : List Nat := [345, 367, 353, 362, 328, 377, 313, 321, 387, 395, 424, 546, 553, 560, 566, 573, 460, 579, 591, 598, 607, 616, 625, 633, 642, 651, 431, 440, 450, 475, 660, 465, 670, 502, 484, 493, 511, 404, 679, 521, 536, 415]
theorem fl_ka : ∀ i, i < 42 → Cond.arrayOf (.field (mx_tk i) "java/lang/String" "value" "[B") .byte ∈ mx_flat := fun i h9 => List.mem_of_getElem? (i := ps_fl_ka.getD i 0) ((by decide +kernel : ∀ i, i < 42 → mx_flat[ps_fl_ka.getD i 0]? = some (Cond.arrayOf (.field (mx_tk i) "java/lang/String" "value" "[B") .byte)) i h9)
def ps_fl_kl : List Nat := [346, 368, 354, 363, 329, 378, 314, 322, 388, 396, 425, 547, 554, 561, 567, 574, 461, 580, 592, 599, 608, 617, 626, 634, 643, 652, 432, 441, 451, 476, 661, 466, 671, 503, 485, 494, 512, 405, 680, 522, 537, 416]
theorem fl_kl : ∀ i, i < 42 → Cond.eq (.length (.field (mx_tk i) "java/lang/String" "value" "[B")) (.int (Int32.ofNat ((mx_txtL.map List.length).getD i 0))) ∈ mx_flat := fun i h9 => List.mem_of_getElem? (i := ps_fl_kl.getD i 0) ((by decide +kernel : ∀ i, i < 42 → mx_flat[ps_fl_kl.getD i 0]? = some (Cond.eq (.length (.field (mx_tk i) "java/lang/String" "value" "[B")) (.int (Int32.ofNat ((mx_txtL.map List.length).getD i 0))))) i h9)
def ps_fl_ke : List (List Nat) := [[347, 348, 349, 350], [369, 370, 371, 372, 373, 374], [355, 356, 357, 358, 359], [364], [330, 331, 332, 333, 334, 335, 336, 337, 338, 339, 340, 341, 342], [379, 380, 381, 382, 383, 384], [315, 316, 317, 318], [323, 324, 325], [389, 390, 391, 392], [397, 398, 399, 400, 401], [426, 427, 428], [548, 549, 550], [555, 556, 557], [562, 563], [568, 569, 570], [575, 576], [462], [581, 582, 583, 584, 585, 586, 587, 588], [593, 594, 595], [600, 601, 602, 603, 604], [609, 610, 611, 612, 613], [618, 619, 620, 621, 622], [627, 628, 629, 630], [635, 636, 637, 638, 639], [644, 645, 646, 647, 648], [653, 654, 655, 656, 657], [433, 434, 435, 436, 437], [442, 443, 444, 445, 446, 447], [452, 453, 454, 455, 456, 457], [477, 478, 479, 480, 481], [662, 663, 664, 665, 666, 667], [467, 468, 469, 470, 471, 472], [672, 673, 674, 675, 676], [504, 505, 506, 507, 508], [486, 487, 488, 489, 490], [495, 496, 497, 498, 499], [513, 514, 515, 516, 517, 518], [406, 407, 408, 409, 410, 411, 412], [681, 682, 683, 684, 685, 686, 687, 688, 689, 690, 691], [523, 524, 525, 526, 527, 528, 529, 530, 531, 532, 533], [538, 539, 540, 541, 542, 543], [417, 418, 419, 420, 421]]
theorem fl_ke_0 : ∀ i, i < 7 → ∀ j, j < (mx_txtL.map List.length).getD (0 + i) 0 → mx_flat[(ps_fl_ke.getD (0 + i) []).getD j 0]? = some (Cond.eq (.elem (.field (mx_tk (0 + i)) "java/lang/String" "value" "[B") (.int (Int32.ofNat j))) (.int ((mx_bytL.getD (0 + i) []).getD j 0))) := by decide +kernel
theorem fl_ke_7 : ∀ i, i < 7 → ∀ j, j < (mx_txtL.map List.length).getD (7 + i) 0 → mx_flat[(ps_fl_ke.getD (7 + i) []).getD j 0]? = some (Cond.eq (.elem (.field (mx_tk (7 + i)) "java/lang/String" "value" "[B") (.int (Int32.ofNat j))) (.int ((mx_bytL.getD (7 + i) []).getD j 0))) := by decide +kernel
theorem fl_ke_14 : ∀ i, i < 7 → ∀ j, j < (mx_txtL.map List.length).getD (14 + i) 0 → mx_flat[(ps_fl_ke.getD (14 + i) []).getD j 0]? = some (Cond.eq (.elem (.field (mx_tk (14 + i)) "java/lang/String" "value" "[B") (.int (Int32.ofNat j))) (.int ((mx_bytL.getD (14 + i) []).getD j 0))) := by decide +kernel
theorem fl_ke_21 : ∀ i, i < 7 → ∀ j, j < (mx_txtL.map List.length).getD (21 + i) 0 → mx_flat[(ps_fl_ke.getD (21 + i) []).getD j 0]? = some (Cond.eq (.elem (.field (mx_tk (21 + i)) "java/lang/String" "value" "[B") (.int (Int32.ofNat j))) (.int ((mx_bytL.getD (21 + i) []).getD j 0))) := by decide +kernel
theorem fl_ke_28 : ∀ i, i < 7 → ∀ j, j < (mx_txtL.map List.length).getD (28 + i) 0 → mx_flat[(ps_fl_ke.getD (28 + i) []).getD j 0]? = some (Cond.eq (.elem (.field (mx_tk (28 + i)) "java/lang/String" "value" "[B") (.int (Int32.ofNat j))) (.int ((mx_bytL.getD (28 + i) []).getD j 0))) := by decide +kernel
theorem fl_ke_35 : ∀ i, i < 7 → ∀ j, j < (mx_txtL.map List.length).getD (35 + i) 0 → mx_flat[(ps_fl_ke.getD (35 + i) []).getD j 0]? = some (Cond.eq (.elem (.field (mx_tk (35 + i)) "java/lang/String" "value" "[B") (.int (Int32.ofNat j))) (.int ((mx_bytL.getD (35 + i) []).getD j 0))) := by decide +kernel
theorem fl_ke : ∀ i, i < 42 → ∀ j, j < (mx_txtL.map List.length).getD i 0 → Cond.eq (.elem (.field (mx_tk i) "java/lang/String" "value" "[B") (.int (Int32.ofNat j))) (.int ((mx_bytL.getD i []).getD j 0)) ∈ mx_flat := by
  intro i hi j hj
  by_cases h0 : i < 7
  · have := fl_ke_0 (i - 0) (by omega) j (by rw [show 0 + (i - 0) = i by omega]; exact hj)
    rw [show 0 + (i - 0) = i by omega] at this
    exact List.mem_of_getElem? this
  by_cases h7 : i < 14
  · have := fl_ke_7 (i - 7) (by omega) j (by rw [show 7 + (i - 7) = i by omega]; exact hj)
    rw [show 7 + (i - 7) = i by omega] at this
    exact List.mem_of_getElem? this
  by_cases h14 : i < 21
  · have := fl_ke_14 (i - 14) (by omega) j (by rw [show 14 + (i - 14) = i by omega]; exact hj)
    rw [show 14 + (i - 14) = i by omega] at this
    exact List.mem_of_getElem? this
  by_cases h21 : i < 28
  · have := fl_ke_21 (i - 21) (by omega) j (by rw [show 21 + (i - 21) = i by omega]; exact hj)
    rw [show 21 + (i - 21) = i by omega] at this
    exact List.mem_of_getElem? this
  by_cases h28 : i < 35
  · have := fl_ke_28 (i - 28) (by omega) j (by rw [show 28 + (i - 28) = i by omega]; exact hj)
    rw [show 28 + (i - 28) = i by omega] at this
    exact List.mem_of_getElem? this
  by_cases h35 : i < 42
  · have := fl_ke_35 (i - 35) (by omega) j (by rw [show 35 + (i - 35) = i by omega]; exact hj)
    rw [show 35 + (i - 35) = i by omega] at this
    exact List.mem_of_getElem? this
  exact absurd hi (by omega)
theorem fl_cs : Cond.eq (.static "java/lang/String" "COMPACT_STRINGS" "Z") (.int 1) ∈ mx_flat := List.mem_of_getElem? (i := 51) (by decide +kernel)
theorem fl_sf : Cond.isRef (.static "jdk/internal/util/Preconditions" "SIOOBE_FORMATTER" "Ljava/util/function/BiFunction;") ∈ mx_flat := List.mem_of_getElem? (i := 52) (by decide +kernel)
def ps_ls_w : List Nat := [576, 590, 578, 584, 554, 596, 550, 552, 610, 612, 680, 1426, 1427, 1428, 1429, 1430, 805, 1431, 1432, 1433, 1434, 1435, 1436, 1437, 1438, 1439, 726, 728, 730, 860, 1440, 858, 1441, 874, 870, 872, 880, 650, 1442, 887, 893, 674]
theorem ls_w : ∀ i, i < 42 → Cond.laysStatic RX9 (mx_wn.getD i "") mx_wd ∈ lw_tbl := fun i h9 => List.mem_of_getElem? (i := ps_ls_w.getD i 0) ((by decide +kernel : ∀ i, i < 42 → lw_tbl[ps_ls_w.getD i 0]? = some (Cond.laysStatic RX9 (mx_wn.getD i "") mx_wd)) i h9)
theorem ls_a : Cond.laysStatic RX10 "ALL_WORDS" "[LTermSolver$Word;" ∈ lw_tbl := by decide +kernel
theorem ls_s : Cond.laysStatic RX0 "$SwitchMap$TermSolver$Word" "[I" ∈ lw_tbl := by decide +kernel
theorem ls_c : Cond.laysStatic "java/lang/String" "COMPACT_STRINGS" "Z" ∈ lw_tbl := by decide +kernel
theorem ls_f : Cond.laysStatic "jdk/internal/util/Preconditions" "SIOOBE_FORMATTER" "Ljava/util/function/BiFunction;" ∈ lw_tbl := by decide +kernel
theorem in_w : Cond.initialized RX9 ∈ lw_tbl ∧ Cond.initialized RX10 ∈ lw_tbl ∧ Cond.initialized RX0 ∈ lw_tbl ∧ Cond.initialized "java/lang/String" ∈ lw_tbl ∧ Cond.initialized "jdk/internal/util/Preconditions" ∈ lw_tbl := by decide +kernel

