def mi_X1 : mx_M := (1, false, 1, yX1_init, cX1_init, 3, none)
def mi_X2 : mx_M := (1, false, 2, yX2_init, cX2_init, 1, none)
def mi_X3 : mx_M := (1, false, 3, yX3_init, cX3_init, 1, none)
def mi_X4 : mx_M := (1, false, 4, yX4_init, cX4_init, 4, none)
def mi_X5 : mx_M := (1, false, 5, yX5_init, cX5_init, 1, none)
def mi_X7 : mx_M := (1, false, 7, yX7_init, cX7_init, 1, none)
def mi_X8 : mx_M := (1, false, 8, yX8_init, cX8_init, 1, none)
def mi_X11 : mx_M := (1, false, 11, yX11_init, cX11_init, 1, none)
def mi_X6 : mx_M := (2, false, 6, yX6_init, cX6_init, 2, none)
def mi_X10 : mx_M := (3, false, 10, yX10_init, cX10_init, 1, none)
def mk_fld (o ix : Nat) : Option (Nat × Nat) := match o with
  | 1 => ([(11, (0, 2)), (15, (0, 4)), (18, (0, 5)), (21, (0, 6)), (24, (0, 0)), (28, (0, 1))] : List (Nat × Nat × Nat)).lookup ix
  | 2 => ([(11, (1, 0)), (15, (1, 1)), (18, (1, 3)), (21, (1, 4))] : List (Nat × Nat × Nat)).lookup ix
  | 3 => ([(9, (2, 0)), (15, (2, 1)), (18, (2, 2)), (21, (2, 3)), (24, (2, 4)), (27, (2, 5))] : List (Nat × Nat × Nat)).lookup ix
  | 4 => ([(9, (3, 8)), (15, (3, 9)), (18, (3, 10)), (21, (3, 0)), (25, (3, 1)), (29, (3, 2))] : List (Nat × Nat × Nat)).lookup ix
  | 5 => ([(9, (4, 0)), (15, (4, 1)), (18, (4, 4)), (21, (4, 6)), (24, (4, 7)), (27, (4, 8))] : List (Nat × Nat × Nat)).lookup ix
  | 6 => ([(12, (5, 1)), (18, (5, 2)), (22, (5, 4)), (26, (5, 5)), (29, (5, 6)), (32, (5, 7)), (35, (5, 8)), (38, (5, 12)), (41, (5, 0))] : List (Nat × Nat × Nat)).lookup ix
  | 7 => ([(13, (6, 0)), (17, (6, 1)), (21, (6, 2)), (24, (6, 3))] : List (Nat × Nat × Nat)).lookup ix
  | 8 => ([(9, (7, 0)), (15, (7, 2)), (19, (7, 3)), (24, (7, 4))] : List (Nat × Nat × Nat)).lookup ix
  | 10 => ([(12, (8, 0)), (19, (8, 1)), (26, (8, 2)), (35, (8, 3)), (42, (8, 4)), (51, (8, 5)), (60, (8, 6)), (64, (8, 7)), (68, (8, 8))] : List (Nat × Nat × Nat)).lookup ix
  | 11 => ([(7, (9, 0)), (13, (9, 10)), (16, (9, 11)), (19, (9, 12)), (22, (9, 13)), (25, (9, 14)), (28, (9, 15)), (31, (9, 16)), (34, (9, 19)), (37, (9, 20)), (40, (9, 21)), (43, (9, 22)), (46, (9, 23)), (49, (9, 24)), (52, (9, 25)), (56, (9, 29)), (59, (9, 30)), (62, (9, 32)), (65, (9, 34)), (68, (9, 35)), (71, (9, 36)), (74, (9, 37)), (78, (9, 39)), (81, (9, 40))] : List (Nat × Nat × Nat)).lookup ix
  | _ => none
def mk_new (o ix : Nat) : Option (Nat) := match o with
  | 6 => ([(9, 1)] : List (Nat × Nat)).lookup ix
  | 10 => ([(9, 7), (16, 6), (23, 4), (30, 3), (39, 2), (46, 0), (55, 5)] : List (Nat × Nat)).lookup ix
  | 12 => ([(7, 8), (10, 9)] : List (Nat × Nat)).lookup ix
  | _ => none
def mk_inv (o ix : Nat) : Option (Option (mx_M × Nat)) := match o with
  | 1 => ([(3, none)] : List (Nat × Option (mx_M × Nat))).lookup ix
  | 2 => ([(5, none)] : List (Nat × Option (mx_M × Nat))).lookup ix
  | 3 => ([(3, none)] : List (Nat × Option (mx_M × Nat))).lookup ix
  | 4 => ([(3, none)] : List (Nat × Option (mx_M × Nat))).lookup ix
  | 5 => ([(3, none)] : List (Nat × Option (mx_M × Nat))).lookup ix
  | 6 => ([(3, none), (11, some (mi_X2, 0))] : List (Nat × Option (mx_M × Nat))).lookup ix
  | 7 => ([(3, none)] : List (Nat × Option (mx_M × Nat))).lookup ix
  | 8 => ([(3, none)] : List (Nat × Option (mx_M × Nat))).lookup ix
  | 10 => ([(3, none), (11, some (mi_X8, 0)), (18, some (mi_X7, 0)), (25, some (mi_X5, 0)), (32, some (mi_X4, 3)), (41, some (mi_X3, 0)), (48, some (mi_X1, 2)), (57, some (mi_X6, 1))] : List (Nat × Option (mx_M × Nat))).lookup ix
  | 11 => ([(1, none)] : List (Nat × Option (mx_M × Nat))).lookup ix
  | 12 => ([(9, some (mi_X10, 0)), (12, some (mi_X11, 0))] : List (Nat × Option (mx_M × Nat))).lookup ix
  | _ => none
def mk_anw (o ix : Nat) : Bool := (o == 7 && ix == 11) || (o == 8 && ix == 22)
def mk_def (ci : Nat) : List (Option Nat ⊕ Int32 ⊕ Int64) := match ci with
  | 0 => [.inl none, .inl none, .inl none, .inr (.inl 0), .inl none, .inl none, .inl none]
  | 1 => [.inl none, .inl none, .inr (.inl 0), .inl none, .inl none]
  | 2 => [.inl none, .inl none, .inl none, .inl none, .inl none, .inr (.inl 0)]
  | 3 => [.inl none, .inl none, .inl none, .inr (.inl 0), .inr (.inl 0), .inr (.inl 0), .inr (.inl 0), .inr (.inl 0), .inl none, .inl none, .inl none, .inr (.inl 0)]
  | 4 => [.inl none, .inl none, .inr (.inl 0), .inr (.inl 0), .inl none, .inr (.inl 0), .inl none, .inl none, .inl none, .inr (.inl 0)]
  | 5 => [.inl none, .inl none, .inl none, .inr (.inl 0), .inl none, .inl none, .inl none, .inl none, .inl none, .inr (.inl 0), .inr (.inl 0), .inr (.inl 0), .inl none, .inr (.inl 0)]
  | 6 => [.inl none, .inl none, .inl none, .inl none, .inr (.inl 0)]
  | 7 => [.inl none, .inr (.inl 0), .inl none, .inl none, .inl none, .inr (.inl 0)]
  | 8 => [.inl none, .inl none, .inl none, .inl none, .inl none, .inl none, .inl none, .inl none, .inr (.inl 0), .inr (.inl 0), .inr (.inl 0)]
  | 9 => [.inl none, .inr (.inl 0), .inr (.inl 0), .inr (.inl 0), .inr (.inl 0), .inr (.inr 0), .inr (.inr 0), .inr (.inl 0), .inr (.inl 0), .inr (.inl 0), .inl none, .inl none, .inl none, .inl none, .inl none, .inl none, .inl none, .inr (.inl 0), .inr (.inl 0), .inl none, .inl none, .inl none, .inl none, .inl none, .inl none, .inl none, .inr (.inl 0), .inr (.inl 0), .inr (.inl 0), .inl none, .inl none, .inr (.inl 0), .inl none, .inr (.inl 0), .inl none, .inl none, .inl none, .inl none, .inr (.inl 0), .inl none, .inl none]
  | _ => []
def mk_fit (ci k : Nat) (v : Option Nat ⊕ Int32 ⊕ Int64) : Bool := match vwCl[ci]? with
  | some (_, T, _) => (match v with
    | .inl (some _) => (match parseFieldDescriptor (T k).2.2.1 with | some (.object _) => true | some (.array _) => true | _ => false)
    | .inr (.inl _) => (T k).2.2.1 == "I"
    | _ => false)
  | none => false
theorem mkf_1_11 : Cond.fieldLink (mx_cn 1) 11 (mx_fnm 0 2).1 (mx_fnm 0 2).2.1 (mx_fnm 0 2).2.2 ∈ lw_tbl := List.mem_of_getElem? (i := 301) (by decide +kernel)
theorem mkf_1_15 : Cond.fieldLink (mx_cn 1) 15 (mx_fnm 0 4).1 (mx_fnm 0 4).2.1 (mx_fnm 0 4).2.2 ∈ lw_tbl := List.mem_of_getElem? (i := 303) (by decide +kernel)
theorem mkf_1_18 : Cond.fieldLink (mx_cn 1) 18 (mx_fnm 0 5).1 (mx_fnm 0 5).2.1 (mx_fnm 0 5).2.2 ∈ lw_tbl := List.mem_of_getElem? (i := 304) (by decide +kernel)
theorem mkf_1_21 : Cond.fieldLink (mx_cn 1) 21 (mx_fnm 0 6).1 (mx_fnm 0 6).2.1 (mx_fnm 0 6).2.2 ∈ lw_tbl := List.mem_of_getElem? (i := 305) (by decide +kernel)
theorem mkf_1_24 : Cond.fieldLink (mx_cn 1) 24 (mx_fnm 0 0).1 (mx_fnm 0 0).2.1 (mx_fnm 0 0).2.2 ∈ lw_tbl := List.mem_of_getElem? (i := 299) (by decide +kernel)
theorem mkf_1_28 : Cond.fieldLink (mx_cn 1) 28 (mx_fnm 0 1).1 (mx_fnm 0 1).2.1 (mx_fnm 0 1).2.2 ∈ lw_tbl := List.mem_of_getElem? (i := 300) (by decide +kernel)
theorem mkf_2_11 : Cond.fieldLink (mx_cn 2) 11 (mx_fnm 1 0).1 (mx_fnm 1 0).2.1 (mx_fnm 1 0).2.2 ∈ lw_tbl := List.mem_of_getElem? (i := 333) (by decide +kernel)
theorem mkf_2_15 : Cond.fieldLink (mx_cn 2) 15 (mx_fnm 1 1).1 (mx_fnm 1 1).2.1 (mx_fnm 1 1).2.2 ∈ lw_tbl := List.mem_of_getElem? (i := 335) (by decide +kernel)
theorem mkf_2_18 : Cond.fieldLink (mx_cn 2) 18 (mx_fnm 1 3).1 (mx_fnm 1 3).2.1 (mx_fnm 1 3).2.2 ∈ lw_tbl := List.mem_of_getElem? (i := 338) (by decide +kernel)
theorem mkf_2_21 : Cond.fieldLink (mx_cn 2) 21 (mx_fnm 1 4).1 (mx_fnm 1 4).2.1 (mx_fnm 1 4).2.2 ∈ lw_tbl := List.mem_of_getElem? (i := 340) (by decide +kernel)
theorem mkf_3_9 : Cond.fieldLink (mx_cn 3) 9 (mx_fnm 2 0).1 (mx_fnm 2 0).2.1 (mx_fnm 2 0).2.2 ∈ lw_tbl := List.mem_of_getElem? (i := 269) (by decide +kernel)
theorem mkf_3_15 : Cond.fieldLink (mx_cn 3) 15 (mx_fnm 2 1).1 (mx_fnm 2 1).2.1 (mx_fnm 2 1).2.2 ∈ lw_tbl := List.mem_of_getElem? (i := 271) (by decide +kernel)
theorem mkf_3_18 : Cond.fieldLink (mx_cn 3) 18 (mx_fnm 2 2).1 (mx_fnm 2 2).2.1 (mx_fnm 2 2).2.2 ∈ lw_tbl := List.mem_of_getElem? (i := 273) (by decide +kernel)
theorem mkf_3_21 : Cond.fieldLink (mx_cn 3) 21 (mx_fnm 2 3).1 (mx_fnm 2 3).2.1 (mx_fnm 2 3).2.2 ∈ lw_tbl := List.mem_of_getElem? (i := 275) (by decide +kernel)
theorem mkf_3_24 : Cond.fieldLink (mx_cn 3) 24 (mx_fnm 2 4).1 (mx_fnm 2 4).2.1 (mx_fnm 2 4).2.2 ∈ lw_tbl := List.mem_of_getElem? (i := 277) (by decide +kernel)
theorem mkf_3_27 : Cond.fieldLink (mx_cn 3) 27 (mx_fnm 2 5).1 (mx_fnm 2 5).2.1 (mx_fnm 2 5).2.2 ∈ lw_tbl := List.mem_of_getElem? (i := 278) (by decide +kernel)
theorem mkf_4_9 : Cond.fieldLink (mx_cn 4) 9 (mx_fnm 3 8).1 (mx_fnm 3 8).2.1 (mx_fnm 3 8).2.2 ∈ lw_tbl := List.mem_of_getElem? (i := 234) (by decide +kernel)
theorem mkf_4_15 : Cond.fieldLink (mx_cn 4) 15 (mx_fnm 3 9).1 (mx_fnm 3 9).2.1 (mx_fnm 3 9).2.2 ∈ lw_tbl := List.mem_of_getElem? (i := 235) (by decide +kernel)
theorem mkf_4_18 : Cond.fieldLink (mx_cn 4) 18 (mx_fnm 3 10).1 (mx_fnm 3 10).2.1 (mx_fnm 3 10).2.2 ∈ lw_tbl := List.mem_of_getElem? (i := 236) (by decide +kernel)
theorem mkf_4_21 : Cond.fieldLink (mx_cn 4) 21 (mx_fnm 3 0).1 (mx_fnm 3 0).2.1 (mx_fnm 3 0).2.2 ∈ lw_tbl := List.mem_of_getElem? (i := 222) (by decide +kernel)
theorem mkf_4_25 : Cond.fieldLink (mx_cn 4) 25 (mx_fnm 3 1).1 (mx_fnm 3 1).2.1 (mx_fnm 3 1).2.2 ∈ lw_tbl := List.mem_of_getElem? (i := 223) (by decide +kernel)
theorem mkf_4_29 : Cond.fieldLink (mx_cn 4) 29 (mx_fnm 3 2).1 (mx_fnm 3 2).2.1 (mx_fnm 3 2).2.2 ∈ lw_tbl := List.mem_of_getElem? (i := 224) (by decide +kernel)
theorem mkf_5_9 : Cond.fieldLink (mx_cn 5) 9 (mx_fnm 4 0).1 (mx_fnm 4 0).2.1 (mx_fnm 4 0).2.2 ∈ lw_tbl := List.mem_of_getElem? (i := 179) (by decide +kernel)
theorem mkf_5_15 : Cond.fieldLink (mx_cn 5) 15 (mx_fnm 4 1).1 (mx_fnm 4 1).2.1 (mx_fnm 4 1).2.2 ∈ lw_tbl := List.mem_of_getElem? (i := 180) (by decide +kernel)
theorem mkf_5_18 : Cond.fieldLink (mx_cn 5) 18 (mx_fnm 4 4).1 (mx_fnm 4 4).2.1 (mx_fnm 4 4).2.2 ∈ lw_tbl := List.mem_of_getElem? (i := 186) (by decide +kernel)
theorem mkf_5_21 : Cond.fieldLink (mx_cn 5) 21 (mx_fnm 4 6).1 (mx_fnm 4 6).2.1 (mx_fnm 4 6).2.2 ∈ lw_tbl := List.mem_of_getElem? (i := 190) (by decide +kernel)
theorem mkf_5_24 : Cond.fieldLink (mx_cn 5) 24 (mx_fnm 4 7).1 (mx_fnm 4 7).2.1 (mx_fnm 4 7).2.2 ∈ lw_tbl := List.mem_of_getElem? (i := 191) (by decide +kernel)
theorem mkf_5_27 : Cond.fieldLink (mx_cn 5) 27 (mx_fnm 4 8).1 (mx_fnm 4 8).2.1 (mx_fnm 4 8).2.2 ∈ lw_tbl := List.mem_of_getElem? (i := 192) (by decide +kernel)
theorem mkf_6_12 : Cond.fieldLink (mx_cn 6) 12 (mx_fnm 5 1).1 (mx_fnm 5 1).2.1 (mx_fnm 5 1).2.2 ∈ lw_tbl := List.mem_of_getElem? (i := 354) (by decide +kernel)
theorem mkf_6_18 : Cond.fieldLink (mx_cn 6) 18 (mx_fnm 5 2).1 (mx_fnm 5 2).2.1 (mx_fnm 5 2).2.2 ∈ lw_tbl := List.mem_of_getElem? (i := 355) (by decide +kernel)
theorem mkf_6_22 : Cond.fieldLink (mx_cn 6) 22 (mx_fnm 5 4).1 (mx_fnm 5 4).2.1 (mx_fnm 5 4).2.2 ∈ lw_tbl := List.mem_of_getElem? (i := 357) (by decide +kernel)
theorem mkf_6_26 : Cond.fieldLink (mx_cn 6) 26 (mx_fnm 5 5).1 (mx_fnm 5 5).2.1 (mx_fnm 5 5).2.2 ∈ lw_tbl := List.mem_of_getElem? (i := 358) (by decide +kernel)
theorem mkf_6_29 : Cond.fieldLink (mx_cn 6) 29 (mx_fnm 5 6).1 (mx_fnm 5 6).2.1 (mx_fnm 5 6).2.2 ∈ lw_tbl := List.mem_of_getElem? (i := 359) (by decide +kernel)
theorem mkf_6_32 : Cond.fieldLink (mx_cn 6) 32 (mx_fnm 5 7).1 (mx_fnm 5 7).2.1 (mx_fnm 5 7).2.2 ∈ lw_tbl := List.mem_of_getElem? (i := 360) (by decide +kernel)
theorem mkf_6_35 : Cond.fieldLink (mx_cn 6) 35 (mx_fnm 5 8).1 (mx_fnm 5 8).2.1 (mx_fnm 5 8).2.2 ∈ lw_tbl := List.mem_of_getElem? (i := 361) (by decide +kernel)
theorem mkf_6_38 : Cond.fieldLink (mx_cn 6) 38 (mx_fnm 5 12).1 (mx_fnm 5 12).2.1 (mx_fnm 5 12).2.2 ∈ lw_tbl := List.mem_of_getElem? (i := 365) (by decide +kernel)
theorem mkf_6_41 : Cond.fieldLink (mx_cn 6) 41 (mx_fnm 5 0).1 (mx_fnm 5 0).2.1 (mx_fnm 5 0).2.2 ∈ lw_tbl := List.mem_of_getElem? (i := 353) (by decide +kernel)
theorem mkf_7_13 : Cond.fieldLink (mx_cn 7) 13 (mx_fnm 6 0).1 (mx_fnm 6 0).2.1 (mx_fnm 6 0).2.2 ∈ lw_tbl := List.mem_of_getElem? (i := 155) (by decide +kernel)
theorem mkf_7_17 : Cond.fieldLink (mx_cn 7) 17 (mx_fnm 6 1).1 (mx_fnm 6 1).2.1 (mx_fnm 6 1).2.2 ∈ lw_tbl := List.mem_of_getElem? (i := 156) (by decide +kernel)
theorem mkf_7_21 : Cond.fieldLink (mx_cn 7) 21 (mx_fnm 6 2).1 (mx_fnm 6 2).2.1 (mx_fnm 6 2).2.2 ∈ lw_tbl := List.mem_of_getElem? (i := 157) (by decide +kernel)
theorem mkf_7_24 : Cond.fieldLink (mx_cn 7) 24 (mx_fnm 6 3).1 (mx_fnm 6 3).2.1 (mx_fnm 6 3).2.2 ∈ lw_tbl := List.mem_of_getElem? (i := 158) (by decide +kernel)
theorem mkf_8_9 : Cond.fieldLink (mx_cn 8) 9 (mx_fnm 7 0).1 (mx_fnm 7 0).2.1 (mx_fnm 7 0).2.2 ∈ lw_tbl := List.mem_of_getElem? (i := 127) (by decide +kernel)
theorem mkf_8_15 : Cond.fieldLink (mx_cn 8) 15 (mx_fnm 7 2).1 (mx_fnm 7 2).2.1 (mx_fnm 7 2).2.2 ∈ lw_tbl := List.mem_of_getElem? (i := 129) (by decide +kernel)
theorem mkf_8_19 : Cond.fieldLink (mx_cn 8) 19 (mx_fnm 7 3).1 (mx_fnm 7 3).2.1 (mx_fnm 7 3).2.2 ∈ lw_tbl := List.mem_of_getElem? (i := 130) (by decide +kernel)
theorem mkf_8_24 : Cond.fieldLink (mx_cn 8) 24 (mx_fnm 7 4).1 (mx_fnm 7 4).2.1 (mx_fnm 7 4).2.2 ∈ lw_tbl := List.mem_of_getElem? (i := 131) (by decide +kernel)
theorem mkf_10_12 : Cond.fieldLink (mx_cn 10) 12 (mx_fnm 8 0).1 (mx_fnm 8 0).2.1 (mx_fnm 8 0).2.2 ∈ lw_tbl := List.mem_of_getElem? (i := 397) (by decide +kernel)
theorem mkf_10_19 : Cond.fieldLink (mx_cn 10) 19 (mx_fnm 8 1).1 (mx_fnm 8 1).2.1 (mx_fnm 8 1).2.2 ∈ lw_tbl := List.mem_of_getElem? (i := 398) (by decide +kernel)
theorem mkf_10_26 : Cond.fieldLink (mx_cn 10) 26 (mx_fnm 8 2).1 (mx_fnm 8 2).2.1 (mx_fnm 8 2).2.2 ∈ lw_tbl := List.mem_of_getElem? (i := 399) (by decide +kernel)
theorem mkf_10_35 : Cond.fieldLink (mx_cn 10) 35 (mx_fnm 8 3).1 (mx_fnm 8 3).2.1 (mx_fnm 8 3).2.2 ∈ lw_tbl := List.mem_of_getElem? (i := 400) (by decide +kernel)
theorem mkf_10_42 : Cond.fieldLink (mx_cn 10) 42 (mx_fnm 8 4).1 (mx_fnm 8 4).2.1 (mx_fnm 8 4).2.2 ∈ lw_tbl := List.mem_of_getElem? (i := 401) (by decide +kernel)
theorem mkf_10_51 : Cond.fieldLink (mx_cn 10) 51 (mx_fnm 8 5).1 (mx_fnm 8 5).2.1 (mx_fnm 8 5).2.2 ∈ lw_tbl := List.mem_of_getElem? (i := 402) (by decide +kernel)
theorem mkf_10_60 : Cond.fieldLink (mx_cn 10) 60 (mx_fnm 8 6).1 (mx_fnm 8 6).2.1 (mx_fnm 8 6).2.2 ∈ lw_tbl := List.mem_of_getElem? (i := 403) (by decide +kernel)
theorem mkf_10_64 : Cond.fieldLink (mx_cn 10) 64 (mx_fnm 8 7).1 (mx_fnm 8 7).2.1 (mx_fnm 8 7).2.2 ∈ lw_tbl := List.mem_of_getElem? (i := 404) (by decide +kernel)
theorem mkf_10_68 : Cond.fieldLink (mx_cn 10) 68 (mx_fnm 8 8).1 (mx_fnm 8 8).2.1 (mx_fnm 8 8).2.2 ∈ lw_tbl := List.mem_of_getElem? (i := 405) (by decide +kernel)
theorem mkf_11_7 : Cond.fieldLink (mx_cn 11) 7 (mx_fnm 9 0).1 (mx_fnm 9 0).2.1 (mx_fnm 9 0).2.2 ∈ lw_tbl := List.mem_of_getElem? (i := 1067) (by decide +kernel)
theorem mkf_11_13 : Cond.fieldLink (mx_cn 11) 13 (mx_fnm 9 10).1 (mx_fnm 9 10).2.1 (mx_fnm 9 10).2.2 ∈ lw_tbl := List.mem_of_getElem? (i := 1077) (by decide +kernel)
theorem mkf_11_16 : Cond.fieldLink (mx_cn 11) 16 (mx_fnm 9 11).1 (mx_fnm 9 11).2.1 (mx_fnm 9 11).2.2 ∈ lw_tbl := List.mem_of_getElem? (i := 1078) (by decide +kernel)
theorem mkf_11_19 : Cond.fieldLink (mx_cn 11) 19 (mx_fnm 9 12).1 (mx_fnm 9 12).2.1 (mx_fnm 9 12).2.2 ∈ lw_tbl := List.mem_of_getElem? (i := 1079) (by decide +kernel)
theorem mkf_11_22 : Cond.fieldLink (mx_cn 11) 22 (mx_fnm 9 13).1 (mx_fnm 9 13).2.1 (mx_fnm 9 13).2.2 ∈ lw_tbl := List.mem_of_getElem? (i := 1080) (by decide +kernel)
theorem mkf_11_25 : Cond.fieldLink (mx_cn 11) 25 (mx_fnm 9 14).1 (mx_fnm 9 14).2.1 (mx_fnm 9 14).2.2 ∈ lw_tbl := List.mem_of_getElem? (i := 1081) (by decide +kernel)
theorem mkf_11_28 : Cond.fieldLink (mx_cn 11) 28 (mx_fnm 9 15).1 (mx_fnm 9 15).2.1 (mx_fnm 9 15).2.2 ∈ lw_tbl := List.mem_of_getElem? (i := 1082) (by decide +kernel)
theorem mkf_11_31 : Cond.fieldLink (mx_cn 11) 31 (mx_fnm 9 16).1 (mx_fnm 9 16).2.1 (mx_fnm 9 16).2.2 ∈ lw_tbl := List.mem_of_getElem? (i := 1083) (by decide +kernel)
theorem mkf_11_34 : Cond.fieldLink (mx_cn 11) 34 (mx_fnm 9 19).1 (mx_fnm 9 19).2.1 (mx_fnm 9 19).2.2 ∈ lw_tbl := List.mem_of_getElem? (i := 1086) (by decide +kernel)
theorem mkf_11_37 : Cond.fieldLink (mx_cn 11) 37 (mx_fnm 9 20).1 (mx_fnm 9 20).2.1 (mx_fnm 9 20).2.2 ∈ lw_tbl := List.mem_of_getElem? (i := 1087) (by decide +kernel)
theorem mkf_11_40 : Cond.fieldLink (mx_cn 11) 40 (mx_fnm 9 21).1 (mx_fnm 9 21).2.1 (mx_fnm 9 21).2.2 ∈ lw_tbl := List.mem_of_getElem? (i := 1088) (by decide +kernel)
theorem mkf_11_43 : Cond.fieldLink (mx_cn 11) 43 (mx_fnm 9 22).1 (mx_fnm 9 22).2.1 (mx_fnm 9 22).2.2 ∈ lw_tbl := List.mem_of_getElem? (i := 1089) (by decide +kernel)
theorem mkf_11_46 : Cond.fieldLink (mx_cn 11) 46 (mx_fnm 9 23).1 (mx_fnm 9 23).2.1 (mx_fnm 9 23).2.2 ∈ lw_tbl := List.mem_of_getElem? (i := 1090) (by decide +kernel)
theorem mkf_11_49 : Cond.fieldLink (mx_cn 11) 49 (mx_fnm 9 24).1 (mx_fnm 9 24).2.1 (mx_fnm 9 24).2.2 ∈ lw_tbl := List.mem_of_getElem? (i := 1091) (by decide +kernel)
theorem mkf_11_52 : Cond.fieldLink (mx_cn 11) 52 (mx_fnm 9 25).1 (mx_fnm 9 25).2.1 (mx_fnm 9 25).2.2 ∈ lw_tbl := List.mem_of_getElem? (i := 1092) (by decide +kernel)
theorem mkf_11_56 : Cond.fieldLink (mx_cn 11) 56 (mx_fnm 9 29).1 (mx_fnm 9 29).2.1 (mx_fnm 9 29).2.2 ∈ lw_tbl := List.mem_of_getElem? (i := 1096) (by decide +kernel)
theorem mkf_11_59 : Cond.fieldLink (mx_cn 11) 59 (mx_fnm 9 30).1 (mx_fnm 9 30).2.1 (mx_fnm 9 30).2.2 ∈ lw_tbl := List.mem_of_getElem? (i := 1097) (by decide +kernel)
theorem mkf_11_62 : Cond.fieldLink (mx_cn 11) 62 (mx_fnm 9 32).1 (mx_fnm 9 32).2.1 (mx_fnm 9 32).2.2 ∈ lw_tbl := List.mem_of_getElem? (i := 1099) (by decide +kernel)
theorem mkf_11_65 : Cond.fieldLink (mx_cn 11) 65 (mx_fnm 9 34).1 (mx_fnm 9 34).2.1 (mx_fnm 9 34).2.2 ∈ lw_tbl := List.mem_of_getElem? (i := 1101) (by decide +kernel)
theorem mkf_11_68 : Cond.fieldLink (mx_cn 11) 68 (mx_fnm 9 35).1 (mx_fnm 9 35).2.1 (mx_fnm 9 35).2.2 ∈ lw_tbl := List.mem_of_getElem? (i := 1102) (by decide +kernel)
theorem mkf_11_71 : Cond.fieldLink (mx_cn 11) 71 (mx_fnm 9 36).1 (mx_fnm 9 36).2.1 (mx_fnm 9 36).2.2 ∈ lw_tbl := List.mem_of_getElem? (i := 1103) (by decide +kernel)
theorem mkf_11_74 : Cond.fieldLink (mx_cn 11) 74 (mx_fnm 9 37).1 (mx_fnm 9 37).2.1 (mx_fnm 9 37).2.2 ∈ lw_tbl := List.mem_of_getElem? (i := 1104) (by decide +kernel)
theorem mkf_11_78 : Cond.fieldLink (mx_cn 11) 78 (mx_fnm 9 39).1 (mx_fnm 9 39).2.1 (mx_fnm 9 39).2.2 ∈ lw_tbl := List.mem_of_getElem? (i := 1106) (by decide +kernel)
theorem mkf_11_81 : Cond.fieldLink (mx_cn 11) 81 (mx_fnm 9 40).1 (mx_fnm 9 40).2.1 (mx_fnm 9 40).2.2 ∈ lw_tbl := List.mem_of_getElem? (i := 1107) (by decide +kernel)
theorem mkn_6_9 : Cond.classLink (mx_cn 6) 9 RX2 ∈ lw_tbl := List.mem_of_getElem? (i := 327) (by decide +kernel)
theorem mkn_10_9 : Cond.classLink (mx_cn 10) 9 RX8 ∈ lw_tbl := List.mem_of_getElem? (i := 119) (by decide +kernel)
theorem mkn_10_16 : Cond.classLink (mx_cn 10) 16 RX7 ∈ lw_tbl := List.mem_of_getElem? (i := 148) (by decide +kernel)
theorem mkn_10_23 : Cond.classLink (mx_cn 10) 23 RX5 ∈ lw_tbl := List.mem_of_getElem? (i := 173) (by decide +kernel)
theorem mkn_10_30 : Cond.classLink (mx_cn 10) 30 RX4 ∈ lw_tbl := List.mem_of_getElem? (i := 216) (by decide +kernel)
theorem mkn_10_39 : Cond.classLink (mx_cn 10) 39 RX3 ∈ lw_tbl := List.mem_of_getElem? (i := 263) (by decide +kernel)
theorem mkn_10_46 : Cond.classLink (mx_cn 10) 46 RX1 ∈ lw_tbl := List.mem_of_getElem? (i := 293) (by decide +kernel)
theorem mkn_10_55 : Cond.classLink (mx_cn 10) 55 RX6 ∈ lw_tbl := List.mem_of_getElem? (i := 321) (by decide +kernel)
theorem mkn_12_7 : Cond.classLink (mx_cn 12) 7 RX10 ∈ lw_tbl := List.mem_of_getElem? (i := 111) (by decide +kernel)
theorem mkn_12_10 : Cond.classLink (mx_cn 12) 10 RX11 ∈ lw_tbl := List.mem_of_getElem? (i := 1061) (by decide +kernel)
theorem mkc_0 : Cond.instantiable RX1 7 ∈ lw_tbl ∧ Cond.initialized RX1 ∈ lw_tbl := ⟨List.mem_of_getElem? (i := 294) (by decide +kernel), List.mem_of_getElem? (i := 99) (by decide +kernel)⟩
theorem mkc_1 : Cond.instantiable RX2 5 ∈ lw_tbl ∧ Cond.initialized RX2 ∈ lw_tbl := ⟨List.mem_of_getElem? (i := 328) (by decide +kernel), List.mem_of_getElem? (i := 101) (by decide +kernel)⟩
theorem mkc_2 : Cond.instantiable RX3 6 ∈ lw_tbl ∧ Cond.initialized RX3 ∈ lw_tbl := ⟨List.mem_of_getElem? (i := 264) (by decide +kernel), List.mem_of_getElem? (i := 98) (by decide +kernel)⟩
theorem mkc_3 : Cond.instantiable RX4 12 ∈ lw_tbl ∧ Cond.initialized RX4 ∈ lw_tbl := ⟨List.mem_of_getElem? (i := 217) (by decide +kernel), List.mem_of_getElem? (i := 97) (by decide +kernel)⟩
theorem mkc_4 : Cond.instantiable RX5 10 ∈ lw_tbl ∧ Cond.initialized RX5 ∈ lw_tbl := ⟨List.mem_of_getElem? (i := 174) (by decide +kernel), List.mem_of_getElem? (i := 96) (by decide +kernel)⟩
theorem mkc_5 : Cond.instantiable RX6 14 ∈ lw_tbl ∧ Cond.initialized RX6 ∈ lw_tbl := ⟨List.mem_of_getElem? (i := 322) (by decide +kernel), List.mem_of_getElem? (i := 100) (by decide +kernel)⟩
theorem mkc_6 : Cond.instantiable RX7 5 ∈ lw_tbl ∧ Cond.initialized RX7 ∈ lw_tbl := ⟨List.mem_of_getElem? (i := 149) (by decide +kernel), List.mem_of_getElem? (i := 95) (by decide +kernel)⟩
theorem mkc_7 : Cond.instantiable RX8 6 ∈ lw_tbl ∧ Cond.initialized RX8 ∈ lw_tbl := ⟨List.mem_of_getElem? (i := 120) (by decide +kernel), List.mem_of_getElem? (i := 94) (by decide +kernel)⟩
theorem mkc_8 : Cond.instantiable RX10 11 ∈ lw_tbl ∧ Cond.initialized RX10 ∈ lw_tbl := ⟨List.mem_of_getElem? (i := 112) (by decide +kernel), List.mem_of_getElem? (i := 93) (by decide +kernel)⟩
theorem mkc_9 : Cond.instantiable RX11 41 ∈ lw_tbl ∧ Cond.initialized RX11 ∈ lw_tbl := ⟨List.mem_of_getElem? (i := 1062) (by decide +kernel), List.mem_of_getElem? (i := 102) (by decide +kernel)⟩
theorem mko_1_3 : Cond.methodLink (mx_cn 1) 3 objectInit ∈ lw_tbl := List.mem_of_getElem? (i := 298) (by decide +kernel)
theorem mko_2_5 : Cond.methodLink (mx_cn 2) 5 objectInit ∈ lw_tbl := List.mem_of_getElem? (i := 332) (by decide +kernel)
theorem mko_3_3 : Cond.methodLink (mx_cn 3) 3 objectInit ∈ lw_tbl := List.mem_of_getElem? (i := 268) (by decide +kernel)
theorem mko_4_3 : Cond.methodLink (mx_cn 4) 3 objectInit ∈ lw_tbl := List.mem_of_getElem? (i := 221) (by decide +kernel)
theorem mko_5_3 : Cond.methodLink (mx_cn 5) 3 objectInit ∈ lw_tbl := List.mem_of_getElem? (i := 178) (by decide +kernel)
theorem mko_6_3 : Cond.methodLink (mx_cn 6) 3 objectInit ∈ lw_tbl := List.mem_of_getElem? (i := 326) (by decide +kernel)
theorem mkl_6_11 : mx_LM 6 11 mi_X2.2.2.2.1 := Or.inr ⟨"TermSolver", List.mem_of_getElem? (i := 329) (by decide +kernel)⟩
theorem mko_7_3 : Cond.methodLink (mx_cn 7) 3 objectInit ∈ lw_tbl := List.mem_of_getElem? (i := 153) (by decide +kernel)
theorem mko_8_3 : Cond.methodLink (mx_cn 8) 3 objectInit ∈ lw_tbl := List.mem_of_getElem? (i := 124) (by decide +kernel)
theorem mko_10_3 : Cond.methodLink (mx_cn 10) 3 objectInit ∈ lw_tbl := List.mem_of_getElem? (i := 116) (by decide +kernel)
theorem mkl_10_11 : mx_LM 10 11 mi_X8.2.2.2.1 := Or.inr ⟨"TermSolver", List.mem_of_getElem? (i := 121) (by decide +kernel)⟩
theorem mkl_10_18 : mx_LM 10 18 mi_X7.2.2.2.1 := Or.inr ⟨"TermSolver", List.mem_of_getElem? (i := 150) (by decide +kernel)⟩
theorem mkl_10_25 : mx_LM 10 25 mi_X5.2.2.2.1 := Or.inr ⟨"TermSolver", List.mem_of_getElem? (i := 175) (by decide +kernel)⟩
theorem mkl_10_32 : mx_LM 10 32 mi_X4.2.2.2.1 := Or.inl (List.mem_of_getElem? (i := 218) (by decide +kernel))
theorem mkl_10_41 : mx_LM 10 41 mi_X3.2.2.2.1 := Or.inr ⟨"TermSolver", List.mem_of_getElem? (i := 265) (by decide +kernel)⟩
theorem mkl_10_48 : mx_LM 10 48 mi_X1.2.2.2.1 := Or.inl (List.mem_of_getElem? (i := 295) (by decide +kernel))
theorem mkl_10_57 : mx_LM 10 57 mi_X6.2.2.2.1 := Or.inl (List.mem_of_getElem? (i := 323) (by decide +kernel))
theorem mko_11_1 : Cond.methodLink (mx_cn 11) 1 objectInit ∈ lw_tbl := List.mem_of_getElem? (i := 1066) (by decide +kernel)
theorem mkl_12_9 : mx_LM 12 9 mi_X10.2.2.2.1 := Or.inl (List.mem_of_getElem? (i := 113) (by decide +kernel))
theorem mkl_12_12 : mx_LM 12 12 mi_X11.2.2.2.1 := Or.inl (List.mem_of_getElem? (i := 1063) (by decide +kernel))
set_option maxRecDepth 20000 in
theorem mkm_X1 : (plainName yX1_init.cls = true ∧ yX1_init.cls ≠ "java/lang/invoke/MethodHandle" ∧ yX1_init.cls ≠ "java/lang/invoke/VarHandle" ∧ yX1_init.cls = mx_cn 1) ∧ Cond.code yX1_init cX1_init 3 none ∈ lw_tbl ∧ Cond.initialized yX1_init.cls ∈ lw_tbl ∧ Cond.instanceMethod yX1_init ∈ lw_tbl := ⟨⟨by decide +kernel, by decide +kernel, by decide +kernel, rfl⟩, List.mem_of_getElem? (i := 297) rfl, List.mem_of_getElem? (i := 99) (by decide +kernel), List.mem_of_getElem? (i := 296) (by decide +kernel)⟩
set_option maxRecDepth 20000 in
theorem mkm_X2 : (plainName yX2_init.cls = true ∧ yX2_init.cls ≠ "java/lang/invoke/MethodHandle" ∧ yX2_init.cls ≠ "java/lang/invoke/VarHandle" ∧ yX2_init.cls = mx_cn 2) ∧ Cond.code yX2_init cX2_init 1 none ∈ lw_tbl ∧ Cond.initialized yX2_init.cls ∈ lw_tbl ∧ Cond.instanceMethod yX2_init ∈ lw_tbl := ⟨⟨by decide +kernel, by decide +kernel, by decide +kernel, rfl⟩, List.mem_of_getElem? (i := 331) rfl, List.mem_of_getElem? (i := 101) (by decide +kernel), List.mem_of_getElem? (i := 330) (by decide +kernel)⟩
set_option maxRecDepth 20000 in
theorem mkm_X3 : (plainName yX3_init.cls = true ∧ yX3_init.cls ≠ "java/lang/invoke/MethodHandle" ∧ yX3_init.cls ≠ "java/lang/invoke/VarHandle" ∧ yX3_init.cls = mx_cn 3) ∧ Cond.code yX3_init cX3_init 1 none ∈ lw_tbl ∧ Cond.initialized yX3_init.cls ∈ lw_tbl ∧ Cond.instanceMethod yX3_init ∈ lw_tbl := ⟨⟨by decide +kernel, by decide +kernel, by decide +kernel, rfl⟩, List.mem_of_getElem? (i := 267) rfl, List.mem_of_getElem? (i := 98) (by decide +kernel), List.mem_of_getElem? (i := 266) (by decide +kernel)⟩
set_option maxRecDepth 20000 in
theorem mkm_X4 : (plainName yX4_init.cls = true ∧ yX4_init.cls ≠ "java/lang/invoke/MethodHandle" ∧ yX4_init.cls ≠ "java/lang/invoke/VarHandle" ∧ yX4_init.cls = mx_cn 4) ∧ Cond.code yX4_init cX4_init 4 none ∈ lw_tbl ∧ Cond.initialized yX4_init.cls ∈ lw_tbl ∧ Cond.instanceMethod yX4_init ∈ lw_tbl := ⟨⟨by decide +kernel, by decide +kernel, by decide +kernel, rfl⟩, List.mem_of_getElem? (i := 220) rfl, List.mem_of_getElem? (i := 97) (by decide +kernel), List.mem_of_getElem? (i := 219) (by decide +kernel)⟩
set_option maxRecDepth 20000 in
theorem mkm_X5 : (plainName yX5_init.cls = true ∧ yX5_init.cls ≠ "java/lang/invoke/MethodHandle" ∧ yX5_init.cls ≠ "java/lang/invoke/VarHandle" ∧ yX5_init.cls = mx_cn 5) ∧ Cond.code yX5_init cX5_init 1 none ∈ lw_tbl ∧ Cond.initialized yX5_init.cls ∈ lw_tbl ∧ Cond.instanceMethod yX5_init ∈ lw_tbl := ⟨⟨by decide +kernel, by decide +kernel, by decide +kernel, rfl⟩, List.mem_of_getElem? (i := 177) rfl, List.mem_of_getElem? (i := 96) (by decide +kernel), List.mem_of_getElem? (i := 176) (by decide +kernel)⟩
set_option maxRecDepth 20000 in
theorem mkm_X6 : (plainName yX6_init.cls = true ∧ yX6_init.cls ≠ "java/lang/invoke/MethodHandle" ∧ yX6_init.cls ≠ "java/lang/invoke/VarHandle" ∧ yX6_init.cls = mx_cn 6) ∧ Cond.code yX6_init cX6_init 2 none ∈ lw_tbl ∧ Cond.initialized yX6_init.cls ∈ lw_tbl ∧ Cond.instanceMethod yX6_init ∈ lw_tbl := ⟨⟨by decide +kernel, by decide +kernel, by decide +kernel, rfl⟩, List.mem_of_getElem? (i := 325) rfl, List.mem_of_getElem? (i := 100) (by decide +kernel), List.mem_of_getElem? (i := 324) (by decide +kernel)⟩
set_option maxRecDepth 20000 in
theorem mkm_X7 : (plainName yX7_init.cls = true ∧ yX7_init.cls ≠ "java/lang/invoke/MethodHandle" ∧ yX7_init.cls ≠ "java/lang/invoke/VarHandle" ∧ yX7_init.cls = mx_cn 7) ∧ Cond.code yX7_init cX7_init 1 none ∈ lw_tbl ∧ Cond.initialized yX7_init.cls ∈ lw_tbl ∧ Cond.instanceMethod yX7_init ∈ lw_tbl := ⟨⟨by decide +kernel, by decide +kernel, by decide +kernel, rfl⟩, List.mem_of_getElem? (i := 152) rfl, List.mem_of_getElem? (i := 95) (by decide +kernel), List.mem_of_getElem? (i := 151) (by decide +kernel)⟩
set_option maxRecDepth 20000 in
theorem mkm_X8 : (plainName yX8_init.cls = true ∧ yX8_init.cls ≠ "java/lang/invoke/MethodHandle" ∧ yX8_init.cls ≠ "java/lang/invoke/VarHandle" ∧ yX8_init.cls = mx_cn 8) ∧ Cond.code yX8_init cX8_init 1 none ∈ lw_tbl ∧ Cond.initialized yX8_init.cls ∈ lw_tbl ∧ Cond.instanceMethod yX8_init ∈ lw_tbl := ⟨⟨by decide +kernel, by decide +kernel, by decide +kernel, rfl⟩, List.mem_of_getElem? (i := 123) rfl, List.mem_of_getElem? (i := 94) (by decide +kernel), List.mem_of_getElem? (i := 122) (by decide +kernel)⟩
set_option maxRecDepth 20000 in
theorem mkm_X10 : (plainName yX10_init.cls = true ∧ yX10_init.cls ≠ "java/lang/invoke/MethodHandle" ∧ yX10_init.cls ≠ "java/lang/invoke/VarHandle" ∧ yX10_init.cls = mx_cn 10) ∧ Cond.code yX10_init cX10_init 1 none ∈ lw_tbl ∧ Cond.initialized yX10_init.cls ∈ lw_tbl ∧ Cond.instanceMethod yX10_init ∈ lw_tbl := ⟨⟨by decide +kernel, by decide +kernel, by decide +kernel, rfl⟩, List.mem_of_getElem? (i := 115) rfl, List.mem_of_getElem? (i := 93) (by decide +kernel), List.mem_of_getElem? (i := 114) (by decide +kernel)⟩
set_option maxRecDepth 20000 in
theorem mkm_X11 : (plainName yX11_init.cls = true ∧ yX11_init.cls ≠ "java/lang/invoke/MethodHandle" ∧ yX11_init.cls ≠ "java/lang/invoke/VarHandle" ∧ yX11_init.cls = mx_cn 11) ∧ Cond.code yX11_init cX11_init 1 none ∈ lw_tbl ∧ Cond.initialized yX11_init.cls ∈ lw_tbl ∧ Cond.instanceMethod yX11_init ∈ lw_tbl := ⟨⟨by decide +kernel, by decide +kernel, by decide +kernel, rfl⟩, List.mem_of_getElem? (i := 1065) rfl, List.mem_of_getElem? (i := 102) (by decide +kernel), List.mem_of_getElem? (i := 1064) (by decide +kernel)⟩
theorem mk_objI : Cond.instanceMethod objectInit ∈ lw_tbl := List.mem_of_getElem? (i := 117) (by decide +kernel)
set_option maxRecDepth 20000 in
theorem mk_objC : Cond.code objectInit ⟨#[0xb1]⟩ 1 none ∈ lw_tbl := List.mem_of_getElem? (i := 118) (by decide +kernel)
theorem mk_ac_int : Cond.arrayClass .int ∈ lw_tbl := List.mem_of_getElem? (i := 147) (by decide +kernel)
theorem mk_ac_char : Cond.arrayClass .char ∈ lw_tbl := List.mem_of_getElem? (i := 146) (by decide +kernel)
theorem mk_ac_boolean : Cond.arrayClass .boolean ∈ lw_tbl := List.mem_of_getElem? (i := 396) (by decide +kernel)
theorem mk_ac_long : Cond.arrayClass .long ∈ lw_tbl := List.mem_of_getElem? (i := 1191) (by decide +kernel)
theorem mk_ao : Cond.arrayOver (.object RX9) ∈ lw_tbl := List.mem_of_getElem? (i := 126) (by decide +kernel)
theorem mka_7_11 : Cond.classLink (mx_cn 7) 11 RX9 ∈ lw_tbl := List.mem_of_getElem? (i := 154) (by decide +kernel)
theorem mka_8_22 : Cond.classLink (mx_cn 8) 22 RX9 ∈ lw_tbl := List.mem_of_getElem? (i := 125) (by decide +kernel)
set_option maxRecDepth 20000 in
theorem mk_fld_ok {o ix : Nat} {v : _} (h : mk_fld o ix = some v) : Cond.fieldLink (mx_cn o) ix (mx_fnm v.1 v.2).1 (mx_fnm v.1 v.2).2.1 (mx_fnm v.1 v.2).2.2 ∈ lw_tbl := by
  unfold mk_fld at h
  split at h
  · have h := mx_lookup h
    simp only [List.mem_cons, List.not_mem_nil, or_false, Prod.mk.injEq] at h
    rcases h with ⟨rfl, rfl⟩ | ⟨rfl, rfl⟩ | ⟨rfl, rfl⟩ | ⟨rfl, rfl⟩ | ⟨rfl, rfl⟩ | ⟨rfl, rfl⟩
    · exact mkf_1_11
    · exact mkf_1_15
    · exact mkf_1_18
    · exact mkf_1_21
    · exact mkf_1_24
    · exact mkf_1_28
  · have h := mx_lookup h
    simp only [List.mem_cons, List.not_mem_nil, or_false, Prod.mk.injEq] at h
    rcases h with ⟨rfl, rfl⟩ | ⟨rfl, rfl⟩ | ⟨rfl, rfl⟩ | ⟨rfl, rfl⟩
    · exact mkf_2_11
    · exact mkf_2_15
    · exact mkf_2_18
    · exact mkf_2_21
  · have h := mx_lookup h
    simp only [List.mem_cons, List.not_mem_nil, or_false, Prod.mk.injEq] at h
    rcases h with ⟨rfl, rfl⟩ | ⟨rfl, rfl⟩ | ⟨rfl, rfl⟩ | ⟨rfl, rfl⟩ | ⟨rfl, rfl⟩ | ⟨rfl, rfl⟩
    · exact mkf_3_9
    · exact mkf_3_15
    · exact mkf_3_18
    · exact mkf_3_21
    · exact mkf_3_24
    · exact mkf_3_27
  · have h := mx_lookup h
    simp only [List.mem_cons, List.not_mem_nil, or_false, Prod.mk.injEq] at h
    rcases h with ⟨rfl, rfl⟩ | ⟨rfl, rfl⟩ | ⟨rfl, rfl⟩ | ⟨rfl, rfl⟩ | ⟨rfl, rfl⟩ | ⟨rfl, rfl⟩
    · exact mkf_4_9
    · exact mkf_4_15
    · exact mkf_4_18
    · exact mkf_4_21
    · exact mkf_4_25
    · exact mkf_4_29
  · have h := mx_lookup h
    simp only [List.mem_cons, List.not_mem_nil, or_false, Prod.mk.injEq] at h
    rcases h with ⟨rfl, rfl⟩ | ⟨rfl, rfl⟩ | ⟨rfl, rfl⟩ | ⟨rfl, rfl⟩ | ⟨rfl, rfl⟩ | ⟨rfl, rfl⟩
    · exact mkf_5_9
    · exact mkf_5_15
    · exact mkf_5_18
    · exact mkf_5_21
    · exact mkf_5_24
    · exact mkf_5_27
  · have h := mx_lookup h
    simp only [List.mem_cons, List.not_mem_nil, or_false, Prod.mk.injEq] at h
    rcases h with ⟨rfl, rfl⟩ | ⟨rfl, rfl⟩ | ⟨rfl, rfl⟩ | ⟨rfl, rfl⟩ | ⟨rfl, rfl⟩ | ⟨rfl, rfl⟩ | ⟨rfl, rfl⟩ | ⟨rfl, rfl⟩ | ⟨rfl, rfl⟩
    · exact mkf_6_12
    · exact mkf_6_18
    · exact mkf_6_22
    · exact mkf_6_26
    · exact mkf_6_29
    · exact mkf_6_32
    · exact mkf_6_35
    · exact mkf_6_38
    · exact mkf_6_41
  · have h := mx_lookup h
    simp only [List.mem_cons, List.not_mem_nil, or_false, Prod.mk.injEq] at h
    rcases h with ⟨rfl, rfl⟩ | ⟨rfl, rfl⟩ | ⟨rfl, rfl⟩ | ⟨rfl, rfl⟩
    · exact mkf_7_13
    · exact mkf_7_17
    · exact mkf_7_21
    · exact mkf_7_24
  · have h := mx_lookup h
    simp only [List.mem_cons, List.not_mem_nil, or_false, Prod.mk.injEq] at h
    rcases h with ⟨rfl, rfl⟩ | ⟨rfl, rfl⟩ | ⟨rfl, rfl⟩ | ⟨rfl, rfl⟩
    · exact mkf_8_9
    · exact mkf_8_15
    · exact mkf_8_19
    · exact mkf_8_24
  · have h := mx_lookup h
    simp only [List.mem_cons, List.not_mem_nil, or_false, Prod.mk.injEq] at h
    rcases h with ⟨rfl, rfl⟩ | ⟨rfl, rfl⟩ | ⟨rfl, rfl⟩ | ⟨rfl, rfl⟩ | ⟨rfl, rfl⟩ | ⟨rfl, rfl⟩ | ⟨rfl, rfl⟩ | ⟨rfl, rfl⟩ | ⟨rfl, rfl⟩
    · exact mkf_10_12
    · exact mkf_10_19
    · exact mkf_10_26
    · exact mkf_10_35
    · exact mkf_10_42
    · exact mkf_10_51
    · exact mkf_10_60
    · exact mkf_10_64
    · exact mkf_10_68
  · have h := mx_lookup h
    simp only [List.mem_cons, List.not_mem_nil, or_false, Prod.mk.injEq] at h
    rcases h with ⟨rfl, rfl⟩ | ⟨rfl, rfl⟩ | ⟨rfl, rfl⟩ | ⟨rfl, rfl⟩ | ⟨rfl, rfl⟩ | ⟨rfl, rfl⟩ | ⟨rfl, rfl⟩ | ⟨rfl, rfl⟩ | ⟨rfl, rfl⟩ | ⟨rfl, rfl⟩ | ⟨rfl, rfl⟩ | ⟨rfl, rfl⟩ | ⟨rfl, rfl⟩ | ⟨rfl, rfl⟩ | ⟨rfl, rfl⟩ | ⟨rfl, rfl⟩ | ⟨rfl, rfl⟩ | ⟨rfl, rfl⟩ | ⟨rfl, rfl⟩ | ⟨rfl, rfl⟩ | ⟨rfl, rfl⟩ | ⟨rfl, rfl⟩ | ⟨rfl, rfl⟩ | ⟨rfl, rfl⟩
    · exact mkf_11_7
    · exact mkf_11_13
    · exact mkf_11_16
    · exact mkf_11_19
    · exact mkf_11_22
    · exact mkf_11_25
    · exact mkf_11_28
    · exact mkf_11_31
    · exact mkf_11_34
    · exact mkf_11_37
    · exact mkf_11_40
    · exact mkf_11_43
    · exact mkf_11_46
    · exact mkf_11_49
    · exact mkf_11_52
    · exact mkf_11_56
    · exact mkf_11_59
    · exact mkf_11_62
    · exact mkf_11_65
    · exact mkf_11_68
    · exact mkf_11_71
    · exact mkf_11_74
    · exact mkf_11_78
    · exact mkf_11_81
  · cases h
set_option maxRecDepth 20000 in
theorem mk_fld_ok2 {o ix : Nat} {v : _} (h : mk_fld o ix = some v) : v.1 < 10 ∧ ∀ (C : String) (T : u_T) (N : Nat), vwCl[v.1]? = some (C, T, N) → v.2 < N ∧ (T v.2).1 = C := by
  unfold mk_fld at h
  split at h
  · have h := mx_lookup h
    simp only [List.mem_cons, List.not_mem_nil, or_false, Prod.mk.injEq] at h
    rcases h with ⟨rfl, rfl⟩ | ⟨rfl, rfl⟩ | ⟨rfl, rfl⟩ | ⟨rfl, rfl⟩ | ⟨rfl, rfl⟩ | ⟨rfl, rfl⟩
    · exact ⟨by decide, fun C T N h => by cases h; exact ⟨by decide, rfl⟩⟩
    · exact ⟨by decide, fun C T N h => by cases h; exact ⟨by decide, rfl⟩⟩
    · exact ⟨by decide, fun C T N h => by cases h; exact ⟨by decide, rfl⟩⟩
    · exact ⟨by decide, fun C T N h => by cases h; exact ⟨by decide, rfl⟩⟩
    · exact ⟨by decide, fun C T N h => by cases h; exact ⟨by decide, rfl⟩⟩
    · exact ⟨by decide, fun C T N h => by cases h; exact ⟨by decide, rfl⟩⟩
  · have h := mx_lookup h
    simp only [List.mem_cons, List.not_mem_nil, or_false, Prod.mk.injEq] at h
    rcases h with ⟨rfl, rfl⟩ | ⟨rfl, rfl⟩ | ⟨rfl, rfl⟩ | ⟨rfl, rfl⟩
    · exact ⟨by decide, fun C T N h => by cases h; exact ⟨by decide, rfl⟩⟩
    · exact ⟨by decide, fun C T N h => by cases h; exact ⟨by decide, rfl⟩⟩
    · exact ⟨by decide, fun C T N h => by cases h; exact ⟨by decide, rfl⟩⟩
    · exact ⟨by decide, fun C T N h => by cases h; exact ⟨by decide, rfl⟩⟩
  · have h := mx_lookup h
    simp only [List.mem_cons, List.not_mem_nil, or_false, Prod.mk.injEq] at h
    rcases h with ⟨rfl, rfl⟩ | ⟨rfl, rfl⟩ | ⟨rfl, rfl⟩ | ⟨rfl, rfl⟩ | ⟨rfl, rfl⟩ | ⟨rfl, rfl⟩
    · exact ⟨by decide, fun C T N h => by cases h; exact ⟨by decide, rfl⟩⟩
    · exact ⟨by decide, fun C T N h => by cases h; exact ⟨by decide, rfl⟩⟩
    · exact ⟨by decide, fun C T N h => by cases h; exact ⟨by decide, rfl⟩⟩
    · exact ⟨by decide, fun C T N h => by cases h; exact ⟨by decide, rfl⟩⟩
    · exact ⟨by decide, fun C T N h => by cases h; exact ⟨by decide, rfl⟩⟩
    · exact ⟨by decide, fun C T N h => by cases h; exact ⟨by decide, rfl⟩⟩
  · have h := mx_lookup h
    simp only [List.mem_cons, List.not_mem_nil, or_false, Prod.mk.injEq] at h
    rcases h with ⟨rfl, rfl⟩ | ⟨rfl, rfl⟩ | ⟨rfl, rfl⟩ | ⟨rfl, rfl⟩ | ⟨rfl, rfl⟩ | ⟨rfl, rfl⟩
    · exact ⟨by decide, fun C T N h => by cases h; exact ⟨by decide, rfl⟩⟩
    · exact ⟨by decide, fun C T N h => by cases h; exact ⟨by decide, rfl⟩⟩
    · exact ⟨by decide, fun C T N h => by cases h; exact ⟨by decide, rfl⟩⟩
    · exact ⟨by decide, fun C T N h => by cases h; exact ⟨by decide, rfl⟩⟩
    · exact ⟨by decide, fun C T N h => by cases h; exact ⟨by decide, rfl⟩⟩
    · exact ⟨by decide, fun C T N h => by cases h; exact ⟨by decide, rfl⟩⟩
  · have h := mx_lookup h
    simp only [List.mem_cons, List.not_mem_nil, or_false, Prod.mk.injEq] at h
    rcases h with ⟨rfl, rfl⟩ | ⟨rfl, rfl⟩ | ⟨rfl, rfl⟩ | ⟨rfl, rfl⟩ | ⟨rfl, rfl⟩ | ⟨rfl, rfl⟩
    · exact ⟨by decide, fun C T N h => by cases h; exact ⟨by decide, rfl⟩⟩
    · exact ⟨by decide, fun C T N h => by cases h; exact ⟨by decide, rfl⟩⟩
    · exact ⟨by decide, fun C T N h => by cases h; exact ⟨by decide, rfl⟩⟩
    · exact ⟨by decide, fun C T N h => by cases h; exact ⟨by decide, rfl⟩⟩
    · exact ⟨by decide, fun C T N h => by cases h; exact ⟨by decide, rfl⟩⟩
    · exact ⟨by decide, fun C T N h => by cases h; exact ⟨by decide, rfl⟩⟩
  · have h := mx_lookup h
    simp only [List.mem_cons, List.not_mem_nil, or_false, Prod.mk.injEq] at h
    rcases h with ⟨rfl, rfl⟩ | ⟨rfl, rfl⟩ | ⟨rfl, rfl⟩ | ⟨rfl, rfl⟩ | ⟨rfl, rfl⟩ | ⟨rfl, rfl⟩ | ⟨rfl, rfl⟩ | ⟨rfl, rfl⟩ | ⟨rfl, rfl⟩
    · exact ⟨by decide, fun C T N h => by cases h; exact ⟨by decide, rfl⟩⟩
    · exact ⟨by decide, fun C T N h => by cases h; exact ⟨by decide, rfl⟩⟩
    · exact ⟨by decide, fun C T N h => by cases h; exact ⟨by decide, rfl⟩⟩
    · exact ⟨by decide, fun C T N h => by cases h; exact ⟨by decide, rfl⟩⟩
    · exact ⟨by decide, fun C T N h => by cases h; exact ⟨by decide, rfl⟩⟩
    · exact ⟨by decide, fun C T N h => by cases h; exact ⟨by decide, rfl⟩⟩
    · exact ⟨by decide, fun C T N h => by cases h; exact ⟨by decide, rfl⟩⟩
    · exact ⟨by decide, fun C T N h => by cases h; exact ⟨by decide, rfl⟩⟩
    · exact ⟨by decide, fun C T N h => by cases h; exact ⟨by decide, rfl⟩⟩
  · have h := mx_lookup h
    simp only [List.mem_cons, List.not_mem_nil, or_false, Prod.mk.injEq] at h
    rcases h with ⟨rfl, rfl⟩ | ⟨rfl, rfl⟩ | ⟨rfl, rfl⟩ | ⟨rfl, rfl⟩
    · exact ⟨by decide, fun C T N h => by cases h; exact ⟨by decide, rfl⟩⟩
    · exact ⟨by decide, fun C T N h => by cases h; exact ⟨by decide, rfl⟩⟩
    · exact ⟨by decide, fun C T N h => by cases h; exact ⟨by decide, rfl⟩⟩
    · exact ⟨by decide, fun C T N h => by cases h; exact ⟨by decide, rfl⟩⟩
  · have h := mx_lookup h
    simp only [List.mem_cons, List.not_mem_nil, or_false, Prod.mk.injEq] at h
    rcases h with ⟨rfl, rfl⟩ | ⟨rfl, rfl⟩ | ⟨rfl, rfl⟩ | ⟨rfl, rfl⟩
    · exact ⟨by decide, fun C T N h => by cases h; exact ⟨by decide, rfl⟩⟩
    · exact ⟨by decide, fun C T N h => by cases h; exact ⟨by decide, rfl⟩⟩
    · exact ⟨by decide, fun C T N h => by cases h; exact ⟨by decide, rfl⟩⟩
    · exact ⟨by decide, fun C T N h => by cases h; exact ⟨by decide, rfl⟩⟩
  · have h := mx_lookup h
    simp only [List.mem_cons, List.not_mem_nil, or_false, Prod.mk.injEq] at h
    rcases h with ⟨rfl, rfl⟩ | ⟨rfl, rfl⟩ | ⟨rfl, rfl⟩ | ⟨rfl, rfl⟩ | ⟨rfl, rfl⟩ | ⟨rfl, rfl⟩ | ⟨rfl, rfl⟩ | ⟨rfl, rfl⟩ | ⟨rfl, rfl⟩
    · exact ⟨by decide, fun C T N h => by cases h; exact ⟨by decide, rfl⟩⟩
    · exact ⟨by decide, fun C T N h => by cases h; exact ⟨by decide, rfl⟩⟩
    · exact ⟨by decide, fun C T N h => by cases h; exact ⟨by decide, rfl⟩⟩
    · exact ⟨by decide, fun C T N h => by cases h; exact ⟨by decide, rfl⟩⟩
    · exact ⟨by decide, fun C T N h => by cases h; exact ⟨by decide, rfl⟩⟩
    · exact ⟨by decide, fun C T N h => by cases h; exact ⟨by decide, rfl⟩⟩
    · exact ⟨by decide, fun C T N h => by cases h; exact ⟨by decide, rfl⟩⟩
    · exact ⟨by decide, fun C T N h => by cases h; exact ⟨by decide, rfl⟩⟩
    · exact ⟨by decide, fun C T N h => by cases h; exact ⟨by decide, rfl⟩⟩
  · have h := mx_lookup h
    simp only [List.mem_cons, List.not_mem_nil, or_false, Prod.mk.injEq] at h
    rcases h with ⟨rfl, rfl⟩ | ⟨rfl, rfl⟩ | ⟨rfl, rfl⟩ | ⟨rfl, rfl⟩ | ⟨rfl, rfl⟩ | ⟨rfl, rfl⟩ | ⟨rfl, rfl⟩ | ⟨rfl, rfl⟩ | ⟨rfl, rfl⟩ | ⟨rfl, rfl⟩ | ⟨rfl, rfl⟩ | ⟨rfl, rfl⟩ | ⟨rfl, rfl⟩ | ⟨rfl, rfl⟩ | ⟨rfl, rfl⟩ | ⟨rfl, rfl⟩ | ⟨rfl, rfl⟩ | ⟨rfl, rfl⟩ | ⟨rfl, rfl⟩ | ⟨rfl, rfl⟩ | ⟨rfl, rfl⟩ | ⟨rfl, rfl⟩ | ⟨rfl, rfl⟩ | ⟨rfl, rfl⟩
    · exact ⟨by decide, fun C T N h => by cases h; exact ⟨by decide, rfl⟩⟩
    · exact ⟨by decide, fun C T N h => by cases h; exact ⟨by decide, rfl⟩⟩
    · exact ⟨by decide, fun C T N h => by cases h; exact ⟨by decide, rfl⟩⟩
    · exact ⟨by decide, fun C T N h => by cases h; exact ⟨by decide, rfl⟩⟩
    · exact ⟨by decide, fun C T N h => by cases h; exact ⟨by decide, rfl⟩⟩
    · exact ⟨by decide, fun C T N h => by cases h; exact ⟨by decide, rfl⟩⟩
    · exact ⟨by decide, fun C T N h => by cases h; exact ⟨by decide, rfl⟩⟩
    · exact ⟨by decide, fun C T N h => by cases h; exact ⟨by decide, rfl⟩⟩
    · exact ⟨by decide, fun C T N h => by cases h; exact ⟨by decide, rfl⟩⟩
    · exact ⟨by decide, fun C T N h => by cases h; exact ⟨by decide, rfl⟩⟩
    · exact ⟨by decide, fun C T N h => by cases h; exact ⟨by decide, rfl⟩⟩
    · exact ⟨by decide, fun C T N h => by cases h; exact ⟨by decide, rfl⟩⟩
    · exact ⟨by decide, fun C T N h => by cases h; exact ⟨by decide, rfl⟩⟩
    · exact ⟨by decide, fun C T N h => by cases h; exact ⟨by decide, rfl⟩⟩
    · exact ⟨by decide, fun C T N h => by cases h; exact ⟨by decide, rfl⟩⟩
    · exact ⟨by decide, fun C T N h => by cases h; exact ⟨by decide, rfl⟩⟩
    · exact ⟨by decide, fun C T N h => by cases h; exact ⟨by decide, rfl⟩⟩
    · exact ⟨by decide, fun C T N h => by cases h; exact ⟨by decide, rfl⟩⟩
    · exact ⟨by decide, fun C T N h => by cases h; exact ⟨by decide, rfl⟩⟩
    · exact ⟨by decide, fun C T N h => by cases h; exact ⟨by decide, rfl⟩⟩
    · exact ⟨by decide, fun C T N h => by cases h; exact ⟨by decide, rfl⟩⟩
    · exact ⟨by decide, fun C T N h => by cases h; exact ⟨by decide, rfl⟩⟩
    · exact ⟨by decide, fun C T N h => by cases h; exact ⟨by decide, rfl⟩⟩
    · exact ⟨by decide, fun C T N h => by cases h; exact ⟨by decide, rfl⟩⟩
  · cases h
set_option maxRecDepth 20000 in
theorem mk_new_ok {o ix : Nat} {v : _} (h : mk_new o ix = some v) : ∃ (C : String) (T : u_T) (N : Nat), vwCl[v]? = some (C, T, N) ∧ Cond.classLink (mx_cn o) ix C ∈ lw_tbl ∧ Cond.instantiable C N ∈ lw_tbl ∧ Cond.initialized C ∈ lw_tbl ∧ (mk_def v).length = N := by
  unfold mk_new at h
  split at h
  · have h := mx_lookup h
    simp only [List.mem_cons, List.not_mem_nil, or_false, Prod.mk.injEq] at h
    rcases h with ⟨rfl, rfl⟩
    · exact ⟨_, _, _, rfl, mkn_6_9, mkc_1.1, mkc_1.2, rfl⟩
  · have h := mx_lookup h
    simp only [List.mem_cons, List.not_mem_nil, or_false, Prod.mk.injEq] at h
    rcases h with ⟨rfl, rfl⟩ | ⟨rfl, rfl⟩ | ⟨rfl, rfl⟩ | ⟨rfl, rfl⟩ | ⟨rfl, rfl⟩ | ⟨rfl, rfl⟩ | ⟨rfl, rfl⟩
    · exact ⟨_, _, _, rfl, mkn_10_9, mkc_7.1, mkc_7.2, rfl⟩
    · exact ⟨_, _, _, rfl, mkn_10_16, mkc_6.1, mkc_6.2, rfl⟩
    · exact ⟨_, _, _, rfl, mkn_10_23, mkc_4.1, mkc_4.2, rfl⟩
    · exact ⟨_, _, _, rfl, mkn_10_30, mkc_3.1, mkc_3.2, rfl⟩
    · exact ⟨_, _, _, rfl, mkn_10_39, mkc_2.1, mkc_2.2, rfl⟩
    · exact ⟨_, _, _, rfl, mkn_10_46, mkc_0.1, mkc_0.2, rfl⟩
    · exact ⟨_, _, _, rfl, mkn_10_55, mkc_5.1, mkc_5.2, rfl⟩
  · have h := mx_lookup h
    simp only [List.mem_cons, List.not_mem_nil, or_false, Prod.mk.injEq] at h
    rcases h with ⟨rfl, rfl⟩ | ⟨rfl, rfl⟩
    · exact ⟨_, _, _, rfl, mkn_12_7, mkc_8.1, mkc_8.2, rfl⟩
    · exact ⟨_, _, _, rfl, mkn_12_10, mkc_9.1, mkc_9.2, rfl⟩
  · cases h
set_option maxRecDepth 20000 in
theorem mk_inv_ok {o ix : Nat} {v : _} (h : mk_inv o ix = some v) : match v with | none => Cond.methodLink (mx_cn o) ix objectInit ∈ lw_tbl | some (y, np) => mx_LM o ix y.2.2.2.1 ∧ ((plainName y.2.2.2.1.cls = true ∧ y.2.2.2.1.cls ≠ "java/lang/invoke/MethodHandle" ∧ y.2.2.2.1.cls ≠ "java/lang/invoke/VarHandle" ∧ y.2.2.2.1.cls = mx_cn y.2.2.1) ∧ Cond.code y.2.2.2.1 y.2.2.2.2.1 y.2.2.2.2.2.1 none ∈ lw_tbl ∧ Cond.initialized y.2.2.2.1.cls ∈ lw_tbl ∧ Cond.instanceMethod y.2.2.2.1 ∈ lw_tbl) ∧ y.2.2.2.1.name = "<init>" ∧ (parseMethodDescriptor y.2.2.2.1.desc).map (fun d => d.parameters.length) = some np ∧ y.2.2.2.2.2.1 ≤ 40 ∧ y.2.2.2.2.2.2 = none ∧ y.2.1 = false := by
  unfold mk_inv at h
  split at h
  · have h := mx_lookup h
    simp only [List.mem_cons, List.not_mem_nil, or_false, Prod.mk.injEq] at h
    rcases h with ⟨rfl, rfl⟩
    · exact mko_1_3
  · have h := mx_lookup h
    simp only [List.mem_cons, List.not_mem_nil, or_false, Prod.mk.injEq] at h
    rcases h with ⟨rfl, rfl⟩
    · exact mko_2_5
  · have h := mx_lookup h
    simp only [List.mem_cons, List.not_mem_nil, or_false, Prod.mk.injEq] at h
    rcases h with ⟨rfl, rfl⟩
    · exact mko_3_3
  · have h := mx_lookup h
    simp only [List.mem_cons, List.not_mem_nil, or_false, Prod.mk.injEq] at h
    rcases h with ⟨rfl, rfl⟩
    · exact mko_4_3
  · have h := mx_lookup h
    simp only [List.mem_cons, List.not_mem_nil, or_false, Prod.mk.injEq] at h
    rcases h with ⟨rfl, rfl⟩
    · exact mko_5_3
  · have h := mx_lookup h
    simp only [List.mem_cons, List.not_mem_nil, or_false, Prod.mk.injEq] at h
    rcases h with ⟨rfl, rfl⟩ | ⟨rfl, rfl⟩
    · exact mko_6_3
    · exact ⟨mkl_6_11, mkm_X2, rfl, by decide +kernel, by decide, rfl, rfl⟩
  · have h := mx_lookup h
    simp only [List.mem_cons, List.not_mem_nil, or_false, Prod.mk.injEq] at h
    rcases h with ⟨rfl, rfl⟩
    · exact mko_7_3
  · have h := mx_lookup h
    simp only [List.mem_cons, List.not_mem_nil, or_false, Prod.mk.injEq] at h
    rcases h with ⟨rfl, rfl⟩
    · exact mko_8_3
  · have h := mx_lookup h
    simp only [List.mem_cons, List.not_mem_nil, or_false, Prod.mk.injEq] at h
    rcases h with ⟨rfl, rfl⟩ | ⟨rfl, rfl⟩ | ⟨rfl, rfl⟩ | ⟨rfl, rfl⟩ | ⟨rfl, rfl⟩ | ⟨rfl, rfl⟩ | ⟨rfl, rfl⟩ | ⟨rfl, rfl⟩
    · exact mko_10_3
    · exact ⟨mkl_10_11, mkm_X8, rfl, by decide +kernel, by decide, rfl, rfl⟩
    · exact ⟨mkl_10_18, mkm_X7, rfl, by decide +kernel, by decide, rfl, rfl⟩
    · exact ⟨mkl_10_25, mkm_X5, rfl, by decide +kernel, by decide, rfl, rfl⟩
    · exact ⟨mkl_10_32, mkm_X4, rfl, by decide +kernel, by decide, rfl, rfl⟩
    · exact ⟨mkl_10_41, mkm_X3, rfl, by decide +kernel, by decide, rfl, rfl⟩
    · exact ⟨mkl_10_48, mkm_X1, rfl, by decide +kernel, by decide, rfl, rfl⟩
    · exact ⟨mkl_10_57, mkm_X6, rfl, by decide +kernel, by decide, rfl, rfl⟩
  · have h := mx_lookup h
    simp only [List.mem_cons, List.not_mem_nil, or_false, Prod.mk.injEq] at h
    rcases h with ⟨rfl, rfl⟩
    · exact mko_11_1
  · have h := mx_lookup h
    simp only [List.mem_cons, List.not_mem_nil, or_false, Prod.mk.injEq] at h
    rcases h with ⟨rfl, rfl⟩ | ⟨rfl, rfl⟩
    · exact ⟨mkl_12_9, mkm_X10, rfl, by decide +kernel, by decide, rfl, rfl⟩
    · exact ⟨mkl_12_12, mkm_X11, rfl, by decide +kernel, by decide, rfl, rfl⟩
  · cases h
set_option maxRecDepth 20000 in
theorem mk_rank_pos0 {o ix : Nat} {v : _} (h : mk_inv o ix = some v) : match v with | none => True | some (y, _) => 0 < y.1 := by
  unfold mk_inv at h
  split at h
  · have h := mx_lookup h
    simp only [List.mem_cons, List.not_mem_nil, or_false, Prod.mk.injEq] at h
    rcases h with ⟨rfl, rfl⟩
    · exact trivial
  · have h := mx_lookup h
    simp only [List.mem_cons, List.not_mem_nil, or_false, Prod.mk.injEq] at h
    rcases h with ⟨rfl, rfl⟩
    · exact trivial
  · have h := mx_lookup h
    simp only [List.mem_cons, List.not_mem_nil, or_false, Prod.mk.injEq] at h
    rcases h with ⟨rfl, rfl⟩
    · exact trivial
  · have h := mx_lookup h
    simp only [List.mem_cons, List.not_mem_nil, or_false, Prod.mk.injEq] at h
    rcases h with ⟨rfl, rfl⟩
    · exact trivial
  · have h := mx_lookup h
    simp only [List.mem_cons, List.not_mem_nil, or_false, Prod.mk.injEq] at h
    rcases h with ⟨rfl, rfl⟩
    · exact trivial
  · have h := mx_lookup h
    simp only [List.mem_cons, List.not_mem_nil, or_false, Prod.mk.injEq] at h
    rcases h with ⟨rfl, rfl⟩ | ⟨rfl, rfl⟩
    · exact trivial
    · exact (by decide : 0 < mi_X2.1)
  · have h := mx_lookup h
    simp only [List.mem_cons, List.not_mem_nil, or_false, Prod.mk.injEq] at h
    rcases h with ⟨rfl, rfl⟩
    · exact trivial
  · have h := mx_lookup h
    simp only [List.mem_cons, List.not_mem_nil, or_false, Prod.mk.injEq] at h
    rcases h with ⟨rfl, rfl⟩
    · exact trivial
  · have h := mx_lookup h
    simp only [List.mem_cons, List.not_mem_nil, or_false, Prod.mk.injEq] at h
    rcases h with ⟨rfl, rfl⟩ | ⟨rfl, rfl⟩ | ⟨rfl, rfl⟩ | ⟨rfl, rfl⟩ | ⟨rfl, rfl⟩ | ⟨rfl, rfl⟩ | ⟨rfl, rfl⟩ | ⟨rfl, rfl⟩
    · exact trivial
    · exact (by decide : 0 < mi_X8.1)
    · exact (by decide : 0 < mi_X7.1)
    · exact (by decide : 0 < mi_X5.1)
    · exact (by decide : 0 < mi_X4.1)
    · exact (by decide : 0 < mi_X3.1)
    · exact (by decide : 0 < mi_X1.1)
    · exact (by decide : 0 < mi_X6.1)
  · have h := mx_lookup h
    simp only [List.mem_cons, List.not_mem_nil, or_false, Prod.mk.injEq] at h
    rcases h with ⟨rfl, rfl⟩
    · exact trivial
  · have h := mx_lookup h
    simp only [List.mem_cons, List.not_mem_nil, or_false, Prod.mk.injEq] at h
    rcases h with ⟨rfl, rfl⟩ | ⟨rfl, rfl⟩
    · exact (by decide : 0 < mi_X10.1)
    · exact (by decide : 0 < mi_X11.1)
  · cases h
theorem mk_rank_pos {o ix np : Nat} {z : mx_M} (h : mk_inv o ix = some (some (z, np))) : 0 < z.1 := mk_rank_pos0 h
