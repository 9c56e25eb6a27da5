theorem mx_lookup {β : Type} {l : List (Nat × β)} {k : Nat} {v : β} (h : l.lookup k = some v) : (k, v) ∈ l := by
  induction l with
  | nil => cases h
  | cons a r ih =>
    obtain ⟨k', v'⟩ := a
    rw [List.lookup_cons] at h
    cases hk : k == k' with
    | true =>
      rw [hk] at h
      cases h
      rw [beq_iff_eq.mp hk]
      exact List.mem_cons_self
    | false =>
      rw [hk] at h
      exact List.mem_cons_of_mem _ (ih h)
theorem mx_fld_ok_1_11 : mx_LF 1 11 (mx_fnm 0 2) := Or.inl (List.mem_of_getElem? (i := 301) (by decide +kernel))
theorem mx_fld_ok_1_15 : mx_LF 1 15 (mx_fnm 0 4) := Or.inl (List.mem_of_getElem? (i := 303) (by decide +kernel))
theorem mx_fld_ok_1_18 : mx_LF 1 18 (mx_fnm 0 5) := Or.inl (List.mem_of_getElem? (i := 304) (by decide +kernel))
theorem mx_fld_ok_1_21 : mx_LF 1 21 (mx_fnm 0 6) := Or.inl (List.mem_of_getElem? (i := 305) (by decide +kernel))
theorem mx_fld_ok_1_24 : mx_LF 1 24 (mx_fnm 0 0) := Or.inl (List.mem_of_getElem? (i := 299) (by decide +kernel))
theorem mx_fld_ok_1_28 : mx_LF 1 28 (mx_fnm 0 1) := Or.inl (List.mem_of_getElem? (i := 300) (by decide +kernel))
theorem mx_fld_ok_1_32 : mx_LF 1 32 (mx_fnm 0 3) := Or.inl (List.mem_of_getElem? (i := 302) (by decide +kernel))
theorem mx_fld_ok_1_36 : mx_LF 1 36 (mx_fnm 6 4) := Or.inr ⟨"TermSolver", List.mem_of_getElem? (i := 161) (by decide +kernel)⟩
theorem mx_fld_ok_1_49 : mx_LF 1 49 (mx_fnm 99 1) := Or.inr ⟨"TermSolver", List.mem_of_getElem? (i := 1425) (by decide +kernel)⟩
set_option maxRecDepth 20000 in
theorem mx_fld_ok_1 : ∀ e ∈ mx_fld_1, mx_LF 1 e.1 (mx_fnm e.2.1 e.2.2) := List.forall_mem_cons.mpr ⟨mx_fld_ok_1_11, List.forall_mem_cons.mpr ⟨mx_fld_ok_1_15, List.forall_mem_cons.mpr ⟨mx_fld_ok_1_18, List.forall_mem_cons.mpr ⟨mx_fld_ok_1_21, List.forall_mem_cons.mpr ⟨mx_fld_ok_1_24, List.forall_mem_cons.mpr ⟨mx_fld_ok_1_28, List.forall_mem_cons.mpr ⟨mx_fld_ok_1_32, List.forall_mem_cons.mpr ⟨mx_fld_ok_1_36, List.forall_mem_cons.mpr ⟨mx_fld_ok_1_49, fun _ h => absurd h List.not_mem_nil⟩⟩⟩⟩⟩⟩⟩⟩⟩
theorem mx_fld_ok_2_11 : mx_LF 2 11 (mx_fnm 1 0) := Or.inl (List.mem_of_getElem? (i := 333) (by decide +kernel))
theorem mx_fld_ok_2_15 : mx_LF 2 15 (mx_fnm 1 1) := Or.inl (List.mem_of_getElem? (i := 335) (by decide +kernel))
theorem mx_fld_ok_2_18 : mx_LF 2 18 (mx_fnm 1 3) := Or.inl (List.mem_of_getElem? (i := 338) (by decide +kernel))
theorem mx_fld_ok_2_21 : mx_LF 2 21 (mx_fnm 1 4) := Or.inl (List.mem_of_getElem? (i := 340) (by decide +kernel))
theorem mx_fld_ok_2_24 : mx_LF 2 24 (mx_fnm 1 2) := Or.inl (List.mem_of_getElem? (i := 337) (by decide +kernel))
set_option maxRecDepth 20000 in
theorem mx_fld_ok_2 : ∀ e ∈ mx_fld_2, mx_LF 2 e.1 (mx_fnm e.2.1 e.2.2) := List.forall_mem_cons.mpr ⟨mx_fld_ok_2_11, List.forall_mem_cons.mpr ⟨mx_fld_ok_2_15, List.forall_mem_cons.mpr ⟨mx_fld_ok_2_18, List.forall_mem_cons.mpr ⟨mx_fld_ok_2_21, List.forall_mem_cons.mpr ⟨mx_fld_ok_2_24, fun _ h => absurd h List.not_mem_nil⟩⟩⟩⟩⟩
theorem mx_fld_ok_3_9 : mx_LF 3 9 (mx_fnm 2 0) := Or.inl (List.mem_of_getElem? (i := 269) (by decide +kernel))
theorem mx_fld_ok_3_15 : mx_LF 3 15 (mx_fnm 2 1) := Or.inl (List.mem_of_getElem? (i := 271) (by decide +kernel))
theorem mx_fld_ok_3_18 : mx_LF 3 18 (mx_fnm 2 2) := Or.inl (List.mem_of_getElem? (i := 273) (by decide +kernel))
theorem mx_fld_ok_3_21 : mx_LF 3 21 (mx_fnm 2 3) := Or.inl (List.mem_of_getElem? (i := 275) (by decide +kernel))
theorem mx_fld_ok_3_24 : mx_LF 3 24 (mx_fnm 2 4) := Or.inl (List.mem_of_getElem? (i := 277) (by decide +kernel))
theorem mx_fld_ok_3_27 : mx_LF 3 27 (mx_fnm 2 5) := Or.inl (List.mem_of_getElem? (i := 278) (by decide +kernel))
set_option maxRecDepth 20000 in
theorem mx_fld_ok_3 : ∀ e ∈ mx_fld_3, mx_LF 3 e.1 (mx_fnm e.2.1 e.2.2) := List.forall_mem_cons.mpr ⟨mx_fld_ok_3_9, List.forall_mem_cons.mpr ⟨mx_fld_ok_3_15, List.forall_mem_cons.mpr ⟨mx_fld_ok_3_18, List.forall_mem_cons.mpr ⟨mx_fld_ok_3_21, List.forall_mem_cons.mpr ⟨mx_fld_ok_3_24, List.forall_mem_cons.mpr ⟨mx_fld_ok_3_27, fun _ h => absurd h List.not_mem_nil⟩⟩⟩⟩⟩⟩
theorem mx_fld_ok_4_9 : mx_LF 4 9 (mx_fnm 3 8) := Or.inl (List.mem_of_getElem? (i := 234) (by decide +kernel))
theorem mx_fld_ok_4_15 : mx_LF 4 15 (mx_fnm 3 9) := Or.inl (List.mem_of_getElem? (i := 235) (by decide +kernel))
theorem mx_fld_ok_4_18 : mx_LF 4 18 (mx_fnm 3 10) := Or.inl (List.mem_of_getElem? (i := 236) (by decide +kernel))
theorem mx_fld_ok_4_21 : mx_LF 4 21 (mx_fnm 3 0) := Or.inl (List.mem_of_getElem? (i := 222) (by decide +kernel))
theorem mx_fld_ok_4_25 : mx_LF 4 25 (mx_fnm 3 1) := Or.inl (List.mem_of_getElem? (i := 223) (by decide +kernel))
theorem mx_fld_ok_4_29 : mx_LF 4 29 (mx_fnm 3 2) := Or.inl (List.mem_of_getElem? (i := 224) (by decide +kernel))
theorem mx_fld_ok_4_33 : mx_LF 4 33 (mx_fnm 3 3) := Or.inl (List.mem_of_getElem? (i := 225) (by decide +kernel))
theorem mx_fld_ok_4_37 : mx_LF 4 37 (mx_fnm 3 11) := Or.inl (List.mem_of_getElem? (i := 237) (by decide +kernel))
theorem mx_fld_ok_4_40 : mx_LF 4 40 (mx_fnm 3 4) := Or.inl (List.mem_of_getElem? (i := 226) (by decide +kernel))
theorem mx_fld_ok_4_90 : mx_LF 4 90 (mx_fnm 3 7) := Or.inl (List.mem_of_getElem? (i := 232) (by decide +kernel))
theorem mx_fld_ok_4_105 : mx_LF 4 105 (mx_fnm 3 5) := Or.inl (List.mem_of_getElem? (i := 228) (by decide +kernel))
theorem mx_fld_ok_4_116 : mx_LF 4 116 (mx_fnm 3 6) := Or.inl (List.mem_of_getElem? (i := 230) (by decide +kernel))
theorem mx_fld_ok_4_153 : mx_LF 4 153 (mx_fnm 99 2) := Or.inr ⟨"TermSolver", List.mem_of_getElem? (i := 1422) (by decide +kernel)⟩
theorem mx_fld_ok_4_199 : mx_LF 4 199 (mx_fnm 99 1) := Or.inr ⟨"TermSolver", List.mem_of_getElem? (i := 1423) (by decide +kernel)⟩
set_option maxRecDepth 20000 in
theorem mx_fld_ok_4 : ∀ e ∈ mx_fld_4, mx_LF 4 e.1 (mx_fnm e.2.1 e.2.2) := List.forall_mem_cons.mpr ⟨mx_fld_ok_4_9, List.forall_mem_cons.mpr ⟨mx_fld_ok_4_15, List.forall_mem_cons.mpr ⟨mx_fld_ok_4_18, List.forall_mem_cons.mpr ⟨mx_fld_ok_4_21, List.forall_mem_cons.mpr ⟨mx_fld_ok_4_25, List.forall_mem_cons.mpr ⟨mx_fld_ok_4_29, List.forall_mem_cons.mpr ⟨mx_fld_ok_4_33, List.forall_mem_cons.mpr ⟨mx_fld_ok_4_37, List.forall_mem_cons.mpr ⟨mx_fld_ok_4_40, List.forall_mem_cons.mpr ⟨mx_fld_ok_4_90, List.forall_mem_cons.mpr ⟨mx_fld_ok_4_105, List.forall_mem_cons.mpr ⟨mx_fld_ok_4_116, List.forall_mem_cons.mpr ⟨mx_fld_ok_4_153, List.forall_mem_cons.mpr ⟨mx_fld_ok_4_199, fun _ h => absurd h List.not_mem_nil⟩⟩⟩⟩⟩⟩⟩⟩⟩⟩⟩⟩⟩⟩
theorem mx_fld_ok_5_9 : mx_LF 5 9 (mx_fnm 4 0) := Or.inl (List.mem_of_getElem? (i := 179) (by decide +kernel))
theorem mx_fld_ok_5_15 : mx_LF 5 15 (mx_fnm 4 1) := Or.inl (List.mem_of_getElem? (i := 180) (by decide +kernel))
theorem mx_fld_ok_5_18 : mx_LF 5 18 (mx_fnm 4 4) := Or.inl (List.mem_of_getElem? (i := 186) (by decide +kernel))
theorem mx_fld_ok_5_21 : mx_LF 5 21 (mx_fnm 4 6) := Or.inl (List.mem_of_getElem? (i := 190) (by decide +kernel))
theorem mx_fld_ok_5_24 : mx_LF 5 24 (mx_fnm 4 7) := Or.inl (List.mem_of_getElem? (i := 191) (by decide +kernel))
theorem mx_fld_ok_5_27 : mx_LF 5 27 (mx_fnm 4 8) := Or.inl (List.mem_of_getElem? (i := 192) (by decide +kernel))
theorem mx_fld_ok_5_30 : mx_LF 5 30 (mx_fnm 4 2) := Or.inl (List.mem_of_getElem? (i := 182) (by decide +kernel))
theorem mx_fld_ok_5_34 : mx_LF 5 34 (mx_fnm 4 5) := Or.inl (List.mem_of_getElem? (i := 188) (by decide +kernel))
theorem mx_fld_ok_5_37 : mx_LF 5 37 (mx_fnm 4 3) := Or.inl (List.mem_of_getElem? (i := 184) (by decide +kernel))
theorem mx_fld_ok_5_40 : mx_LF 5 40 (mx_fnm 4 9) := Or.inl (List.mem_of_getElem? (i := 193) (by decide +kernel))
set_option maxRecDepth 20000 in
theorem mx_fld_ok_5 : ∀ e ∈ mx_fld_5, mx_LF 5 e.1 (mx_fnm e.2.1 e.2.2) := List.forall_mem_cons.mpr ⟨mx_fld_ok_5_9, List.forall_mem_cons.mpr ⟨mx_fld_ok_5_15, List.forall_mem_cons.mpr ⟨mx_fld_ok_5_18, List.forall_mem_cons.mpr ⟨mx_fld_ok_5_21, List.forall_mem_cons.mpr ⟨mx_fld_ok_5_24, List.forall_mem_cons.mpr ⟨mx_fld_ok_5_27, List.forall_mem_cons.mpr ⟨mx_fld_ok_5_30, List.forall_mem_cons.mpr ⟨mx_fld_ok_5_34, List.forall_mem_cons.mpr ⟨mx_fld_ok_5_37, List.forall_mem_cons.mpr ⟨mx_fld_ok_5_40, fun _ h => absurd h List.not_mem_nil⟩⟩⟩⟩⟩⟩⟩⟩⟩⟩
theorem mx_fld_ok_6_12 : mx_LF 6 12 (mx_fnm 5 1) := Or.inl (List.mem_of_getElem? (i := 354) (by decide +kernel))
theorem mx_fld_ok_6_18 : mx_LF 6 18 (mx_fnm 5 2) := Or.inl (List.mem_of_getElem? (i := 355) (by decide +kernel))
theorem mx_fld_ok_6_22 : mx_LF 6 22 (mx_fnm 5 4) := Or.inl (List.mem_of_getElem? (i := 357) (by decide +kernel))
theorem mx_fld_ok_6_26 : mx_LF 6 26 (mx_fnm 5 5) := Or.inl (List.mem_of_getElem? (i := 358) (by decide +kernel))
theorem mx_fld_ok_6_29 : mx_LF 6 29 (mx_fnm 5 6) := Or.inl (List.mem_of_getElem? (i := 359) (by decide +kernel))
theorem mx_fld_ok_6_32 : mx_LF 6 32 (mx_fnm 5 7) := Or.inl (List.mem_of_getElem? (i := 360) (by decide +kernel))
theorem mx_fld_ok_6_35 : mx_LF 6 35 (mx_fnm 5 8) := Or.inl (List.mem_of_getElem? (i := 361) (by decide +kernel))
theorem mx_fld_ok_6_38 : mx_LF 6 38 (mx_fnm 5 12) := Or.inl (List.mem_of_getElem? (i := 365) (by decide +kernel))
theorem mx_fld_ok_6_41 : mx_LF 6 41 (mx_fnm 5 0) := Or.inl (List.mem_of_getElem? (i := 353) (by decide +kernel))
theorem mx_fld_ok_6_45 : mx_LF 6 45 (mx_fnm 5 3) := Or.inl (List.mem_of_getElem? (i := 356) (by decide +kernel))
theorem mx_fld_ok_6_76 : mx_LF 6 76 (mx_fnm 2 5) := Or.inr ⟨"TermSolver", List.mem_of_getElem? (i := 279) (by decide +kernel)⟩
theorem mx_fld_ok_6_85 : mx_LF 6 85 (mx_fnm 5 9) := Or.inl (List.mem_of_getElem? (i := 362) (by decide +kernel))
theorem mx_fld_ok_6_88 : mx_LF 6 88 (mx_fnm 5 10) := Or.inl (List.mem_of_getElem? (i := 363) (by decide +kernel))
theorem mx_fld_ok_6_91 : mx_LF 6 91 (mx_fnm 5 11) := Or.inl (List.mem_of_getElem? (i := 364) (by decide +kernel))
theorem mx_fld_ok_6_94 : mx_LF 6 94 (mx_fnm 2 3) := Or.inr ⟨"TermSolver", List.mem_of_getElem? (i := 276) (by decide +kernel)⟩
theorem mx_fld_ok_6_97 : mx_LF 6 97 (mx_fnm 2 1) := Or.inr ⟨"TermSolver", List.mem_of_getElem? (i := 272) (by decide +kernel)⟩
theorem mx_fld_ok_6_100 : mx_LF 6 100 (mx_fnm 2 2) := Or.inr ⟨"TermSolver", List.mem_of_getElem? (i := 274) (by decide +kernel)⟩
theorem mx_fld_ok_6_103 : mx_LF 6 103 (mx_fnm 2 0) := Or.inr ⟨"TermSolver", List.mem_of_getElem? (i := 270) (by decide +kernel)⟩
theorem mx_fld_ok_6_113 : mx_LF 6 113 (mx_fnm 1 3) := Or.inr ⟨"TermSolver", List.mem_of_getElem? (i := 339) (by decide +kernel)⟩
theorem mx_fld_ok_6_116 : mx_LF 6 116 (mx_fnm 1 4) := Or.inr ⟨"TermSolver", List.mem_of_getElem? (i := 341) (by decide +kernel)⟩
theorem mx_fld_ok_6_131 : mx_LF 6 131 (mx_fnm 1 1) := Or.inr ⟨"TermSolver", List.mem_of_getElem? (i := 336) (by decide +kernel)⟩
theorem mx_fld_ok_6_134 : mx_LF 6 134 (mx_fnm 1 0) := Or.inr ⟨"TermSolver", List.mem_of_getElem? (i := 334) (by decide +kernel)⟩
theorem mx_fld_ok_6_140 : mx_LF 6 140 (mx_fnm 5 13) := Or.inl (List.mem_of_getElem? (i := 366) (by decide +kernel))
set_option maxRecDepth 20000 in
theorem mx_fld_ok_6 : ∀ e ∈ mx_fld_6, mx_LF 6 e.1 (mx_fnm e.2.1 e.2.2) := List.forall_mem_cons.mpr ⟨mx_fld_ok_6_12, List.forall_mem_cons.mpr ⟨mx_fld_ok_6_18, List.forall_mem_cons.mpr ⟨mx_fld_ok_6_22, List.forall_mem_cons.mpr ⟨mx_fld_ok_6_26, List.forall_mem_cons.mpr ⟨mx_fld_ok_6_29, List.forall_mem_cons.mpr ⟨mx_fld_ok_6_32, List.forall_mem_cons.mpr ⟨mx_fld_ok_6_35, List.forall_mem_cons.mpr ⟨mx_fld_ok_6_38, List.forall_mem_cons.mpr ⟨mx_fld_ok_6_41, List.forall_mem_cons.mpr ⟨mx_fld_ok_6_45, List.forall_mem_cons.mpr ⟨mx_fld_ok_6_76, List.forall_mem_cons.mpr ⟨mx_fld_ok_6_85, List.forall_mem_cons.mpr ⟨mx_fld_ok_6_88, List.forall_mem_cons.mpr ⟨mx_fld_ok_6_91, List.forall_mem_cons.mpr ⟨mx_fld_ok_6_94, List.forall_mem_cons.mpr ⟨mx_fld_ok_6_97, List.forall_mem_cons.mpr ⟨mx_fld_ok_6_100, List.forall_mem_cons.mpr ⟨mx_fld_ok_6_103, List.forall_mem_cons.mpr ⟨mx_fld_ok_6_113, List.forall_mem_cons.mpr ⟨mx_fld_ok_6_116, List.forall_mem_cons.mpr ⟨mx_fld_ok_6_131, List.forall_mem_cons.mpr ⟨mx_fld_ok_6_134, List.forall_mem_cons.mpr ⟨mx_fld_ok_6_140, fun _ h => absurd h List.not_mem_nil⟩⟩⟩⟩⟩⟩⟩⟩⟩⟩⟩⟩⟩⟩⟩⟩⟩⟩⟩⟩⟩⟩⟩
theorem mx_fld_ok_7_13 : mx_LF 7 13 (mx_fnm 6 0) := Or.inl (List.mem_of_getElem? (i := 155) (by decide +kernel))
theorem mx_fld_ok_7_17 : mx_LF 7 17 (mx_fnm 6 1) := Or.inl (List.mem_of_getElem? (i := 156) (by decide +kernel))
theorem mx_fld_ok_7_21 : mx_LF 7 21 (mx_fnm 6 2) := Or.inl (List.mem_of_getElem? (i := 157) (by decide +kernel))
theorem mx_fld_ok_7_24 : mx_LF 7 24 (mx_fnm 6 3) := Or.inl (List.mem_of_getElem? (i := 158) (by decide +kernel))
theorem mx_fld_ok_7_27 : mx_LF 7 27 (mx_fnm 6 4) := Or.inl (List.mem_of_getElem? (i := 159) (by decide +kernel))
set_option maxRecDepth 20000 in
theorem mx_fld_ok_7 : ∀ e ∈ mx_fld_7, mx_LF 7 e.1 (mx_fnm e.2.1 e.2.2) := List.forall_mem_cons.mpr ⟨mx_fld_ok_7_13, List.forall_mem_cons.mpr ⟨mx_fld_ok_7_17, List.forall_mem_cons.mpr ⟨mx_fld_ok_7_21, List.forall_mem_cons.mpr ⟨mx_fld_ok_7_24, List.forall_mem_cons.mpr ⟨mx_fld_ok_7_27, fun _ h => absurd h List.not_mem_nil⟩⟩⟩⟩⟩
theorem mx_fld_ok_8_9 : mx_LF 8 9 (mx_fnm 7 0) := Or.inl (List.mem_of_getElem? (i := 127) (by decide +kernel))
theorem mx_fld_ok_8_15 : mx_LF 8 15 (mx_fnm 7 2) := Or.inl (List.mem_of_getElem? (i := 129) (by decide +kernel))
theorem mx_fld_ok_8_19 : mx_LF 8 19 (mx_fnm 7 3) := Or.inl (List.mem_of_getElem? (i := 130) (by decide +kernel))
theorem mx_fld_ok_8_24 : mx_LF 8 24 (mx_fnm 7 4) := Or.inl (List.mem_of_getElem? (i := 131) (by decide +kernel))
theorem mx_fld_ok_8_28 : mx_LF 8 28 (mx_fnm 7 1) := Or.inl (List.mem_of_getElem? (i := 128) (by decide +kernel))
theorem mx_fld_ok_8_36 : mx_LF 8 36 (mx_fnm 7 5) := Or.inl (List.mem_of_getElem? (i := 132) (by decide +kernel))
theorem mx_fld_ok_8_54 : mx_LF 8 54 (mx_fnm 99 0) := Or.inr ⟨"TermSolver", List.mem_of_getElem? (i := 1418) (by decide +kernel)⟩
set_option maxRecDepth 20000 in
theorem mx_fld_ok_8 : ∀ e ∈ mx_fld_8, mx_LF 8 e.1 (mx_fnm e.2.1 e.2.2) := List.forall_mem_cons.mpr ⟨mx_fld_ok_8_9, List.forall_mem_cons.mpr ⟨mx_fld_ok_8_15, List.forall_mem_cons.mpr ⟨mx_fld_ok_8_19, List.forall_mem_cons.mpr ⟨mx_fld_ok_8_24, List.forall_mem_cons.mpr ⟨mx_fld_ok_8_28, List.forall_mem_cons.mpr ⟨mx_fld_ok_8_36, List.forall_mem_cons.mpr ⟨mx_fld_ok_8_54, fun _ h => absurd h List.not_mem_nil⟩⟩⟩⟩⟩⟩⟩
theorem mx_fld_ok_9_155 : mx_LF 9 155 (mx_fnm 99 1) := Or.inl (List.mem_of_getElem? (i := 1421) (by decide +kernel))
set_option maxRecDepth 20000 in
theorem mx_fld_ok_9 : ∀ e ∈ mx_fld_9, mx_LF 9 e.1 (mx_fnm e.2.1 e.2.2) := List.forall_mem_cons.mpr ⟨mx_fld_ok_9_155, fun _ h => absurd h List.not_mem_nil⟩
theorem mx_fld_ok_10_12 : mx_LF 10 12 (mx_fnm 8 0) := Or.inl (List.mem_of_getElem? (i := 397) (by decide +kernel))
theorem mx_fld_ok_10_19 : mx_LF 10 19 (mx_fnm 8 1) := Or.inl (List.mem_of_getElem? (i := 398) (by decide +kernel))
theorem mx_fld_ok_10_26 : mx_LF 10 26 (mx_fnm 8 2) := Or.inl (List.mem_of_getElem? (i := 399) (by decide +kernel))
theorem mx_fld_ok_10_35 : mx_LF 10 35 (mx_fnm 8 3) := Or.inl (List.mem_of_getElem? (i := 400) (by decide +kernel))
theorem mx_fld_ok_10_42 : mx_LF 10 42 (mx_fnm 8 4) := Or.inl (List.mem_of_getElem? (i := 401) (by decide +kernel))
theorem mx_fld_ok_10_51 : mx_LF 10 51 (mx_fnm 8 5) := Or.inl (List.mem_of_getElem? (i := 402) (by decide +kernel))
theorem mx_fld_ok_10_60 : mx_LF 10 60 (mx_fnm 8 6) := Or.inl (List.mem_of_getElem? (i := 403) (by decide +kernel))
theorem mx_fld_ok_10_64 : mx_LF 10 64 (mx_fnm 8 7) := Or.inl (List.mem_of_getElem? (i := 404) (by decide +kernel))
theorem mx_fld_ok_10_68 : mx_LF 10 68 (mx_fnm 8 8) := Or.inl (List.mem_of_getElem? (i := 405) (by decide +kernel))
theorem mx_fld_ok_10_76 : mx_LF 10 76 (mx_fnm 6 4) := Or.inr ⟨"TermSolver", List.mem_of_getElem? (i := 160) (by decide +kernel)⟩
theorem mx_fld_ok_10_86 : mx_LF 10 86 (mx_fnm 3 4) := Or.inr ⟨"TermSolver", List.mem_of_getElem? (i := 227) (by decide +kernel)⟩
theorem mx_fld_ok_10_110 : mx_LF 10 110 (mx_fnm 4 5) := Or.inr ⟨"TermSolver", List.mem_of_getElem? (i := 189) (by decide +kernel)⟩
theorem mx_fld_ok_10_127 : mx_LF 10 127 (mx_fnm 8 9) := Or.inl (List.mem_of_getElem? (i := 406) (by decide +kernel))
theorem mx_fld_ok_10_133 : mx_LF 10 133 (mx_fnm 8 10) := Or.inl (List.mem_of_getElem? (i := 407) (by decide +kernel))
theorem mx_fld_ok_10_140 : mx_LF 10 140 (mx_fnm 4 1) := Or.inr ⟨"TermSolver", List.mem_of_getElem? (i := 181) (by decide +kernel)⟩
theorem mx_fld_ok_10_156 : mx_LF 10 156 (mx_fnm 4 4) := Or.inr ⟨"TermSolver", List.mem_of_getElem? (i := 187) (by decide +kernel)⟩
theorem mx_fld_ok_10_165 : mx_LF 10 165 (mx_fnm 4 2) := Or.inr ⟨"TermSolver", List.mem_of_getElem? (i := 183) (by decide +kernel)⟩
theorem mx_fld_ok_10_168 : mx_LF 10 168 (mx_fnm 4 9) := Or.inr ⟨"TermSolver", List.mem_of_getElem? (i := 194) (by decide +kernel)⟩
theorem mx_fld_ok_10_180 : mx_LF 10 180 (mx_fnm 4 3) := Or.inr ⟨"TermSolver", List.mem_of_getElem? (i := 185) (by decide +kernel)⟩
theorem mx_fld_ok_10_183 : mx_LF 10 183 (mx_fnm 3 6) := Or.inr ⟨"TermSolver", List.mem_of_getElem? (i := 231) (by decide +kernel)⟩
theorem mx_fld_ok_10_189 : mx_LF 10 189 (mx_fnm 3 5) := Or.inr ⟨"TermSolver", List.mem_of_getElem? (i := 229) (by decide +kernel)⟩
theorem mx_fld_ok_10_199 : mx_LF 10 199 (mx_fnm 3 7) := Or.inr ⟨"TermSolver", List.mem_of_getElem? (i := 233) (by decide +kernel)⟩
set_option maxRecDepth 20000 in
theorem mx_fld_ok_10 : ∀ e ∈ mx_fld_10, mx_LF 10 e.1 (mx_fnm e.2.1 e.2.2) := List.forall_mem_cons.mpr ⟨mx_fld_ok_10_12, List.forall_mem_cons.mpr ⟨mx_fld_ok_10_19, List.forall_mem_cons.mpr ⟨mx_fld_ok_10_26, List.forall_mem_cons.mpr ⟨mx_fld_ok_10_35, List.forall_mem_cons.mpr ⟨mx_fld_ok_10_42, List.forall_mem_cons.mpr ⟨mx_fld_ok_10_51, List.forall_mem_cons.mpr ⟨mx_fld_ok_10_60, List.forall_mem_cons.mpr ⟨mx_fld_ok_10_64, List.forall_mem_cons.mpr ⟨mx_fld_ok_10_68, List.forall_mem_cons.mpr ⟨mx_fld_ok_10_76, List.forall_mem_cons.mpr ⟨mx_fld_ok_10_86, List.forall_mem_cons.mpr ⟨mx_fld_ok_10_110, List.forall_mem_cons.mpr ⟨mx_fld_ok_10_127, List.forall_mem_cons.mpr ⟨mx_fld_ok_10_133, List.forall_mem_cons.mpr ⟨mx_fld_ok_10_140, List.forall_mem_cons.mpr ⟨mx_fld_ok_10_156, List.forall_mem_cons.mpr ⟨mx_fld_ok_10_165, List.forall_mem_cons.mpr ⟨mx_fld_ok_10_168, List.forall_mem_cons.mpr ⟨mx_fld_ok_10_180, List.forall_mem_cons.mpr ⟨mx_fld_ok_10_183, List.forall_mem_cons.mpr ⟨mx_fld_ok_10_189, List.forall_mem_cons.mpr ⟨mx_fld_ok_10_199, fun _ h => absurd h List.not_mem_nil⟩⟩⟩⟩⟩⟩⟩⟩⟩⟩⟩⟩⟩⟩⟩⟩⟩⟩⟩⟩⟩⟩
theorem mx_fld_ok_11_7 : mx_LF 11 7 (mx_fnm 9 0) := Or.inl (List.mem_of_getElem? (i := 1067) (by decide +kernel))
theorem mx_fld_ok_11_13 : mx_LF 11 13 (mx_fnm 9 10) := Or.inl (List.mem_of_getElem? (i := 1077) (by decide +kernel))
theorem mx_fld_ok_11_16 : mx_LF 11 16 (mx_fnm 9 11) := Or.inl (List.mem_of_getElem? (i := 1078) (by decide +kernel))
theorem mx_fld_ok_11_19 : mx_LF 11 19 (mx_fnm 9 12) := Or.inl (List.mem_of_getElem? (i := 1079) (by decide +kernel))
theorem mx_fld_ok_11_22 : mx_LF 11 22 (mx_fnm 9 13) := Or.inl (List.mem_of_getElem? (i := 1080) (by decide +kernel))
theorem mx_fld_ok_11_25 : mx_LF 11 25 (mx_fnm 9 14) := Or.inl (List.mem_of_getElem? (i := 1081) (by decide +kernel))
theorem mx_fld_ok_11_28 : mx_LF 11 28 (mx_fnm 9 15) := Or.inl (List.mem_of_getElem? (i := 1082) (by decide +kernel))
theorem mx_fld_ok_11_31 : mx_LF 11 31 (mx_fnm 9 16) := Or.inl (List.mem_of_getElem? (i := 1083) (by decide +kernel))
theorem mx_fld_ok_11_34 : mx_LF 11 34 (mx_fnm 9 19) := Or.inl (List.mem_of_getElem? (i := 1086) (by decide +kernel))
theorem mx_fld_ok_11_37 : mx_LF 11 37 (mx_fnm 9 20) := Or.inl (List.mem_of_getElem? (i := 1087) (by decide +kernel))
theorem mx_fld_ok_11_40 : mx_LF 11 40 (mx_fnm 9 21) := Or.inl (List.mem_of_getElem? (i := 1088) (by decide +kernel))
theorem mx_fld_ok_11_43 : mx_LF 11 43 (mx_fnm 9 22) := Or.inl (List.mem_of_getElem? (i := 1089) (by decide +kernel))
theorem mx_fld_ok_11_46 : mx_LF 11 46 (mx_fnm 9 23) := Or.inl (List.mem_of_getElem? (i := 1090) (by decide +kernel))
theorem mx_fld_ok_11_49 : mx_LF 11 49 (mx_fnm 9 24) := Or.inl (List.mem_of_getElem? (i := 1091) (by decide +kernel))
theorem mx_fld_ok_11_52 : mx_LF 11 52 (mx_fnm 9 25) := Or.inl (List.mem_of_getElem? (i := 1092) (by decide +kernel))
theorem mx_fld_ok_11_56 : mx_LF 11 56 (mx_fnm 9 29) := Or.inl (List.mem_of_getElem? (i := 1096) (by decide +kernel))
theorem mx_fld_ok_11_59 : mx_LF 11 59 (mx_fnm 9 30) := Or.inl (List.mem_of_getElem? (i := 1097) (by decide +kernel))
theorem mx_fld_ok_11_62 : mx_LF 11 62 (mx_fnm 9 32) := Or.inl (List.mem_of_getElem? (i := 1099) (by decide +kernel))
theorem mx_fld_ok_11_65 : mx_LF 11 65 (mx_fnm 9 34) := Or.inl (List.mem_of_getElem? (i := 1101) (by decide +kernel))
theorem mx_fld_ok_11_68 : mx_LF 11 68 (mx_fnm 9 35) := Or.inl (List.mem_of_getElem? (i := 1102) (by decide +kernel))
theorem mx_fld_ok_11_71 : mx_LF 11 71 (mx_fnm 9 36) := Or.inl (List.mem_of_getElem? (i := 1103) (by decide +kernel))
theorem mx_fld_ok_11_74 : mx_LF 11 74 (mx_fnm 9 37) := Or.inl (List.mem_of_getElem? (i := 1104) (by decide +kernel))
theorem mx_fld_ok_11_78 : mx_LF 11 78 (mx_fnm 9 39) := Or.inl (List.mem_of_getElem? (i := 1106) (by decide +kernel))
theorem mx_fld_ok_11_81 : mx_LF 11 81 (mx_fnm 9 40) := Or.inl (List.mem_of_getElem? (i := 1107) (by decide +kernel))
theorem mx_fld_ok_11_88 : mx_LF 11 88 (mx_fnm 9 1) := Or.inl (List.mem_of_getElem? (i := 1068) (by decide +kernel))
theorem mx_fld_ok_11_99 : mx_LF 11 99 (mx_fnm 9 4) := Or.inl (List.mem_of_getElem? (i := 1071) (by decide +kernel))
theorem mx_fld_ok_11_102 : mx_LF 11 102 (mx_fnm 9 3) := Or.inl (List.mem_of_getElem? (i := 1070) (by decide +kernel))
theorem mx_fld_ok_11_105 : mx_LF 11 105 (mx_fnm 9 5) := Or.inl (List.mem_of_getElem? (i := 1072) (by decide +kernel))
theorem mx_fld_ok_11_109 : mx_LF 11 109 (mx_fnm 9 6) := Or.inl (List.mem_of_getElem? (i := 1073) (by decide +kernel))
theorem mx_fld_ok_11_115 : mx_LF 11 115 (mx_fnm 9 2) := Or.inl (List.mem_of_getElem? (i := 1069) (by decide +kernel))
theorem mx_fld_ok_11_118 : mx_LF 11 118 (mx_fnm 9 7) := Or.inl (List.mem_of_getElem? (i := 1074) (by decide +kernel))
theorem mx_fld_ok_11_219 : mx_LF 11 219 (mx_fnm 9 9) := Or.inl (List.mem_of_getElem? (i := 1076) (by decide +kernel))
theorem mx_fld_ok_11_228 : mx_LF 11 228 (mx_fnm 9 28) := Or.inl (List.mem_of_getElem? (i := 1095) (by decide +kernel))
theorem mx_fld_ok_11_231 : mx_LF 11 231 (mx_fnm 9 18) := Or.inl (List.mem_of_getElem? (i := 1085) (by decide +kernel))
theorem mx_fld_ok_11_262 : mx_LF 11 262 (mx_fnm 9 26) := Or.inl (List.mem_of_getElem? (i := 1093) (by decide +kernel))
theorem mx_fld_ok_11_265 : mx_LF 11 265 (mx_fnm 9 27) := Or.inl (List.mem_of_getElem? (i := 1094) (by decide +kernel))
theorem mx_fld_ok_11_293 : mx_LF 11 293 (mx_fnm 9 17) := Or.inl (List.mem_of_getElem? (i := 1084) (by decide +kernel))
theorem mx_fld_ok_11_302 : mx_LF 11 302 (mx_fnm 9 31) := Or.inl (List.mem_of_getElem? (i := 1098) (by decide +kernel))
theorem mx_fld_ok_11_305 : mx_LF 11 305 (mx_fnm 9 33) := Or.inl (List.mem_of_getElem? (i := 1100) (by decide +kernel))
theorem mx_fld_ok_11_326 : mx_LF 11 326 (mx_fnm 9 8) := Or.inl (List.mem_of_getElem? (i := 1075) (by decide +kernel))
theorem mx_fld_ok_11_332 : mx_LF 11 332 (mx_fnm 9 38) := Or.inl (List.mem_of_getElem? (i := 1105) (by decide +kernel))
set_option maxRecDepth 20000 in
theorem mx_fld_ok_11 : ∀ e ∈ mx_fld_11, mx_LF 11 e.1 (mx_fnm e.2.1 e.2.2) := List.forall_mem_cons.mpr ⟨mx_fld_ok_11_7, List.forall_mem_cons.mpr ⟨mx_fld_ok_11_13, List.forall_mem_cons.mpr ⟨mx_fld_ok_11_16, List.forall_mem_cons.mpr ⟨mx_fld_ok_11_19, List.forall_mem_cons.mpr ⟨mx_fld_ok_11_22, List.forall_mem_cons.mpr ⟨mx_fld_ok_11_25, List.forall_mem_cons.mpr ⟨mx_fld_ok_11_28, List.forall_mem_cons.mpr ⟨mx_fld_ok_11_31, List.forall_mem_cons.mpr ⟨mx_fld_ok_11_34, List.forall_mem_cons.mpr ⟨mx_fld_ok_11_37, List.forall_mem_cons.mpr ⟨mx_fld_ok_11_40, List.forall_mem_cons.mpr ⟨mx_fld_ok_11_43, List.forall_mem_cons.mpr ⟨mx_fld_ok_11_46, List.forall_mem_cons.mpr ⟨mx_fld_ok_11_49, List.forall_mem_cons.mpr ⟨mx_fld_ok_11_52, List.forall_mem_cons.mpr ⟨mx_fld_ok_11_56, List.forall_mem_cons.mpr ⟨mx_fld_ok_11_59, List.forall_mem_cons.mpr ⟨mx_fld_ok_11_62, List.forall_mem_cons.mpr ⟨mx_fld_ok_11_65, List.forall_mem_cons.mpr ⟨mx_fld_ok_11_68, List.forall_mem_cons.mpr ⟨mx_fld_ok_11_71, List.forall_mem_cons.mpr ⟨mx_fld_ok_11_74, List.forall_mem_cons.mpr ⟨mx_fld_ok_11_78, List.forall_mem_cons.mpr ⟨mx_fld_ok_11_81, List.forall_mem_cons.mpr ⟨mx_fld_ok_11_88, List.forall_mem_cons.mpr ⟨mx_fld_ok_11_99, List.forall_mem_cons.mpr ⟨mx_fld_ok_11_102, List.forall_mem_cons.mpr ⟨mx_fld_ok_11_105, List.forall_mem_cons.mpr ⟨mx_fld_ok_11_109, List.forall_mem_cons.mpr ⟨mx_fld_ok_11_115, List.forall_mem_cons.mpr ⟨mx_fld_ok_11_118, List.forall_mem_cons.mpr ⟨mx_fld_ok_11_219, List.forall_mem_cons.mpr ⟨mx_fld_ok_11_228, List.forall_mem_cons.mpr ⟨mx_fld_ok_11_231, List.forall_mem_cons.mpr ⟨mx_fld_ok_11_262, List.forall_mem_cons.mpr ⟨mx_fld_ok_11_265, List.forall_mem_cons.mpr ⟨mx_fld_ok_11_293, List.forall_mem_cons.mpr ⟨mx_fld_ok_11_302, List.forall_mem_cons.mpr ⟨mx_fld_ok_11_305, List.forall_mem_cons.mpr ⟨mx_fld_ok_11_326, List.forall_mem_cons.mpr ⟨mx_fld_ok_11_332, fun _ h => absurd h List.not_mem_nil⟩⟩⟩⟩⟩⟩⟩⟩⟩⟩⟩⟩⟩⟩⟩⟩⟩⟩⟩⟩⟩⟩⟩⟩⟩⟩⟩⟩⟩⟩⟩⟩⟩⟩⟩⟩⟩⟩⟩⟩⟩
theorem mx_fld_ok {o ix : Nat} {v : _} (h : mx_fld o ix = some v) : mx_LF o ix (mx_fnm v.1 v.2) := by
  unfold mx_fld at h
  split at h
  · exact mx_fld_ok_1 _ (mx_lookup h)
  · exact mx_fld_ok_2 _ (mx_lookup h)
  · exact mx_fld_ok_3 _ (mx_lookup h)
  · exact mx_fld_ok_4 _ (mx_lookup h)
  · exact mx_fld_ok_5 _ (mx_lookup h)
  · exact mx_fld_ok_6 _ (mx_lookup h)
  · exact mx_fld_ok_7 _ (mx_lookup h)
  · exact mx_fld_ok_8 _ (mx_lookup h)
  · exact mx_fld_ok_9 _ (mx_lookup h)
  · exact mx_fld_ok_10 _ (mx_lookup h)
  · exact mx_fld_ok_11 _ (mx_lookup h)
  · cases h
theorem mx_sta_ok_1_65 : mx_LF 1 65 (mx_snm 1016) ∧ (1016 = 2000 ∨ 1016 = 2001 ∨ (1000 ≤ 1016 ∧ 1016 < 1042)) := ⟨Or.inl (List.mem_of_getElem? (i := 804) (by decide +kernel)), by decide⟩
theorem mx_sta_ok_1_104 : mx_LF 1 104 (mx_snm 1008) ∧ (1008 = 2000 ∨ 1008 = 2001 ∨ (1000 ≤ 1008 ∧ 1008 < 1042)) := ⟨Or.inl (List.mem_of_getElem? (i := 898) (by decide +kernel)), by decide⟩
theorem mx_sta_ok_1_107 : mx_LF 1 107 (mx_snm 1009) ∧ (1009 = 2000 ∨ 1009 = 2001 ∨ (1000 ≤ 1009 ∧ 1009 < 1042)) := ⟨Or.inl (List.mem_of_getElem? (i := 899) (by decide +kernel)), by decide⟩
theorem mx_sta_ok_1_113 : mx_LF 1 113 (mx_snm 1004) ∧ (1004 = 2000 ∨ 1004 = 2001 ∨ (1000 ≤ 1004 ∧ 1004 < 1042)) := ⟨Or.inl (List.mem_of_getElem? (i := 900) (by decide +kernel)), by decide⟩
theorem mx_sta_ok_1_116 : mx_LF 1 116 (mx_snm 2001) ∧ (2001 = 2000 ∨ 2001 = 2001 ∨ (1000 ≤ 2001 ∧ 2001 < 1042)) := ⟨Or.inl (List.mem_of_getElem? (i := 781) (by decide +kernel)), by decide⟩
theorem mx_sta_ok_1_140 : mx_LF 1 140 (mx_snm 1034) ∧ (1034 = 2000 ∨ 1034 = 2001 ∨ (1000 ≤ 1034 ∧ 1034 < 1042)) := ⟨Or.inl (List.mem_of_getElem? (i := 869) (by decide +kernel)), by decide⟩
theorem mx_sta_ok_1_143 : mx_LF 1 143 (mx_snm 1035) ∧ (1035 = 2000 ∨ 1035 = 2001 ∨ (1000 ≤ 1035 ∧ 1035 < 1042)) := ⟨Or.inl (List.mem_of_getElem? (i := 871) (by decide +kernel)), by decide⟩
theorem mx_sta_ok_1_146 : mx_LF 1 146 (mx_snm 1033) ∧ (1033 = 2000 ∨ 1033 = 2001 ∨ (1000 ≤ 1033 ∧ 1033 < 1042)) := ⟨Or.inl (List.mem_of_getElem? (i := 873) (by decide +kernel)), by decide⟩
theorem mx_sta_ok_1_149 : mx_LF 1 149 (mx_snm 1036) ∧ (1036 = 2000 ∨ 1036 = 2001 ∨ (1000 ≤ 1036 ∧ 1036 < 1042)) := ⟨Or.inl (List.mem_of_getElem? (i := 879) (by decide +kernel)), by decide⟩
theorem mx_sta_ok_1_152 : mx_LF 1 152 (mx_snm 1037) ∧ (1037 = 2000 ∨ 1037 = 2001 ∨ (1000 ≤ 1037 ∧ 1037 < 1042)) := ⟨Or.inl (List.mem_of_getElem? (i := 881) (by decide +kernel)), by decide⟩
theorem mx_sta_ok_1_155 : mx_LF 1 155 (mx_snm 1039) ∧ (1039 = 2000 ∨ 1039 = 2001 ∨ (1000 ≤ 1039 ∧ 1039 < 1042)) := ⟨Or.inl (List.mem_of_getElem? (i := 886) (by decide +kernel)), by decide⟩
theorem mx_sta_ok_1_158 : mx_LF 1 158 (mx_snm 1040) ∧ (1040 = 2000 ∨ 1040 = 2001 ∨ (1000 ≤ 1040 ∧ 1040 < 1042)) := ⟨Or.inl (List.mem_of_getElem? (i := 892) (by decide +kernel)), by decide⟩
theorem mx_sta_ok_1_188 : mx_LF 1 188 (mx_snm 1027) ∧ (1027 = 2000 ∨ 1027 = 2001 ∨ (1000 ≤ 1027 ∧ 1027 < 1042)) := ⟨Or.inl (List.mem_of_getElem? (i := 851) (by decide +kernel)), by decide⟩
theorem mx_sta_ok_1_191 : mx_LF 1 191 (mx_snm 1028) ∧ (1028 = 2000 ∨ 1028 = 2001 ∨ (1000 ≤ 1028 ∧ 1028 < 1042)) := ⟨Or.inl (List.mem_of_getElem? (i := 852) (by decide +kernel)), by decide⟩
theorem mx_sta_ok_1_194 : mx_LF 1 194 (mx_snm 1031) ∧ (1031 = 2000 ∨ 1031 = 2001 ∨ (1000 ≤ 1031 ∧ 1031 < 1042)) := ⟨Or.inl (List.mem_of_getElem? (i := 857) (by decide +kernel)), by decide⟩
theorem mx_sta_ok_1_197 : mx_LF 1 197 (mx_snm 1029) ∧ (1029 = 2000 ∨ 1029 = 2001 ∨ (1000 ≤ 1029 ∧ 1029 < 1042)) := ⟨Or.inl (List.mem_of_getElem? (i := 859) (by decide +kernel)), by decide⟩
set_option maxRecDepth 20000 in
theorem mx_sta_ok_1 : ∀ e ∈ mx_sta_1, mx_LF 1 e.1 (mx_snm e.2) ∧ (e.2 = 2000 ∨ e.2 = 2001 ∨ (1000 ≤ e.2 ∧ e.2 < 1042)) := List.forall_mem_cons.mpr ⟨mx_sta_ok_1_65, List.forall_mem_cons.mpr ⟨mx_sta_ok_1_104, List.forall_mem_cons.mpr ⟨mx_sta_ok_1_107, List.forall_mem_cons.mpr ⟨mx_sta_ok_1_113, List.forall_mem_cons.mpr ⟨mx_sta_ok_1_116, List.forall_mem_cons.mpr ⟨mx_sta_ok_1_140, List.forall_mem_cons.mpr ⟨mx_sta_ok_1_143, List.forall_mem_cons.mpr ⟨mx_sta_ok_1_146, List.forall_mem_cons.mpr ⟨mx_sta_ok_1_149, List.forall_mem_cons.mpr ⟨mx_sta_ok_1_152, List.forall_mem_cons.mpr ⟨mx_sta_ok_1_155, List.forall_mem_cons.mpr ⟨mx_sta_ok_1_158, List.forall_mem_cons.mpr ⟨mx_sta_ok_1_188, List.forall_mem_cons.mpr ⟨mx_sta_ok_1_191, List.forall_mem_cons.mpr ⟨mx_sta_ok_1_194, List.forall_mem_cons.mpr ⟨mx_sta_ok_1_197, fun _ h => absurd h List.not_mem_nil⟩⟩⟩⟩⟩⟩⟩⟩⟩⟩⟩⟩⟩⟩⟩⟩
theorem mx_sta_ok_4_64 : mx_LF 4 64 (mx_snm 1006) ∧ (1006 = 2000 ∨ 1006 = 2001 ∨ (1000 ≤ 1006 ∧ 1006 < 1042)) := ⟨Or.inl (List.mem_of_getElem? (i := 549) (by decide +kernel)), by decide⟩
theorem mx_sta_ok_4_70 : mx_LF 4 70 (mx_snm 1007) ∧ (1007 = 2000 ∨ 1007 = 2001 ∨ (1000 ≤ 1007 ∧ 1007 < 1042)) := ⟨Or.inl (List.mem_of_getElem? (i := 551) (by decide +kernel)), by decide⟩
theorem mx_sta_ok_4_73 : mx_LF 4 73 (mx_snm 1004) ∧ (1004 = 2000 ∨ 1004 = 2001 ∨ (1000 ≤ 1004 ∧ 1004 < 1042)) := ⟨Or.inl (List.mem_of_getElem? (i := 553) (by decide +kernel)), by decide⟩
theorem mx_sta_ok_4_83 : mx_LF 4 83 (mx_snm 1005) ∧ (1005 = 2000 ∨ 1005 = 2001 ∨ (1000 ≤ 1005 ∧ 1005 < 1042)) := ⟨Or.inl (List.mem_of_getElem? (i := 595) (by decide +kernel)), by decide⟩
theorem mx_sta_ok_4_113 : mx_LF 4 113 (mx_snm 1000) ∧ (1000 = 2000 ∨ 1000 = 2001 ∨ (1000 ≤ 1000 ∧ 1000 < 1042)) := ⟨Or.inl (List.mem_of_getElem? (i := 575) (by decide +kernel)), by decide⟩
theorem mx_sta_ok_4_119 : mx_LF 4 119 (mx_snm 1002) ∧ (1002 = 2000 ∨ 1002 = 2001 ∨ (1000 ≤ 1002 ∧ 1002 < 1042)) := ⟨Or.inl (List.mem_of_getElem? (i := 577) (by decide +kernel)), by decide⟩
theorem mx_sta_ok_4_125 : mx_LF 4 125 (mx_snm 1003) ∧ (1003 = 2000 ∨ 1003 = 2001 ∨ (1000 ≤ 1003 ∧ 1003 < 1042)) := ⟨Or.inl (List.mem_of_getElem? (i := 583) (by decide +kernel)), by decide⟩
theorem mx_sta_ok_4_131 : mx_LF 4 131 (mx_snm 1001) ∧ (1001 = 2000 ∨ 1001 = 2001 ∨ (1000 ≤ 1001 ∧ 1001 < 1042)) := ⟨Or.inl (List.mem_of_getElem? (i := 589) (by decide +kernel)), by decide⟩
theorem mx_sta_ok_4_147 : mx_LF 4 147 (mx_snm 1010) ∧ (1010 = 2000 ∨ 1010 = 2001 ∨ (1000 ≤ 1010 ∧ 1010 < 1042)) := ⟨Or.inl (List.mem_of_getElem? (i := 679) (by decide +kernel)), by decide⟩
theorem mx_sta_ok_4_162 : mx_LF 4 162 (mx_snm 1008) ∧ (1008 = 2000 ∨ 1008 = 2001 ∨ (1000 ≤ 1008 ∧ 1008 < 1042)) := ⟨Or.inl (List.mem_of_getElem? (i := 609) (by decide +kernel)), by decide⟩
theorem mx_sta_ok_4_165 : mx_LF 4 165 (mx_snm 1009) ∧ (1009 = 2000 ∨ 1009 = 2001 ∨ (1000 ≤ 1009 ∧ 1009 < 1042)) := ⟨Or.inl (List.mem_of_getElem? (i := 611) (by decide +kernel)), by decide⟩
theorem mx_sta_ok_4_185 : mx_LF 4 185 (mx_snm 1037) ∧ (1037 = 2000 ∨ 1037 = 2001 ∨ (1000 ≤ 1037 ∧ 1037 < 1042)) := ⟨Or.inl (List.mem_of_getElem? (i := 649) (by decide +kernel)), by decide⟩
theorem mx_sta_ok_4_208 : mx_LF 4 208 (mx_snm 1041) ∧ (1041 = 2000 ∨ 1041 = 2001 ∨ (1000 ≤ 1041 ∧ 1041 < 1042)) := ⟨Or.inl (List.mem_of_getElem? (i := 673) (by decide +kernel)), by decide⟩
set_option maxRecDepth 20000 in
theorem mx_sta_ok_4 : ∀ e ∈ mx_sta_4, mx_LF 4 e.1 (mx_snm e.2) ∧ (e.2 = 2000 ∨ e.2 = 2001 ∨ (1000 ≤ e.2 ∧ e.2 < 1042)) := List.forall_mem_cons.mpr ⟨mx_sta_ok_4_64, List.forall_mem_cons.mpr ⟨mx_sta_ok_4_70, List.forall_mem_cons.mpr ⟨mx_sta_ok_4_73, List.forall_mem_cons.mpr ⟨mx_sta_ok_4_83, List.forall_mem_cons.mpr ⟨mx_sta_ok_4_113, List.forall_mem_cons.mpr ⟨mx_sta_ok_4_119, List.forall_mem_cons.mpr ⟨mx_sta_ok_4_125, List.forall_mem_cons.mpr ⟨mx_sta_ok_4_131, List.forall_mem_cons.mpr ⟨mx_sta_ok_4_147, List.forall_mem_cons.mpr ⟨mx_sta_ok_4_162, List.forall_mem_cons.mpr ⟨mx_sta_ok_4_165, List.forall_mem_cons.mpr ⟨mx_sta_ok_4_185, List.forall_mem_cons.mpr ⟨mx_sta_ok_4_208, fun _ h => absurd h List.not_mem_nil⟩⟩⟩⟩⟩⟩⟩⟩⟩⟩⟩⟩⟩
theorem mx_sta_ok_7_35 : mx_LF 7 35 (mx_snm 1004) ∧ (1004 = 2000 ∨ 1004 = 2001 ∨ (1000 ≤ 1004 ∧ 1004 < 1042)) := ⟨Or.inl (List.mem_of_getElem? (i := 739) (by decide +kernel)), by decide⟩
set_option maxRecDepth 20000 in
theorem mx_sta_ok_7 : ∀ e ∈ mx_sta_7, mx_LF 7 e.1 (mx_snm e.2) ∧ (e.2 = 2000 ∨ e.2 = 2001 ∨ (1000 ≤ e.2 ∧ e.2 < 1042)) := List.forall_mem_cons.mpr ⟨mx_sta_ok_7_35, fun _ h => absurd h List.not_mem_nil⟩
theorem mx_sta_ok_8_51 : mx_LF 8 51 (mx_snm 2000) ∧ (2000 = 2000 ∨ 2000 = 2001 ∨ (1000 ≤ 2000 ∧ 2000 < 1042)) := ⟨Or.inr ⟨"TermSolver", List.mem_of_getElem? (i := 467) (by decide +kernel)⟩, by decide⟩
set_option maxRecDepth 20000 in
theorem mx_sta_ok_8 : ∀ e ∈ mx_sta_8, mx_LF 8 e.1 (mx_snm e.2) ∧ (e.2 = 2000 ∨ e.2 = 2001 ∨ (1000 ≤ e.2 ∧ e.2 < 1042)) := List.forall_mem_cons.mpr ⟨mx_sta_ok_8_51, fun _ h => absurd h List.not_mem_nil⟩
theorem mx_sta_ok_9_84 : mx_LF 9 84 (mx_snm 1026) ∧ (1026 = 2000 ∨ 1026 = 2001 ∨ (1000 ≤ 1026 ∧ 1026 < 1042)) := ⟨Or.inl (List.mem_of_getElem? (i := 725) (by decide +kernel)), by decide⟩
theorem mx_sta_ok_9_87 : mx_LF 9 87 (mx_snm 1027) ∧ (1027 = 2000 ∨ 1027 = 2001 ∨ (1000 ≤ 1027 ∧ 1027 < 1042)) := ⟨Or.inl (List.mem_of_getElem? (i := 727) (by decide +kernel)), by decide⟩
theorem mx_sta_ok_9_90 : mx_LF 9 90 (mx_snm 1028) ∧ (1028 = 2000 ∨ 1028 = 2001 ∨ (1000 ≤ 1028 ∧ 1028 < 1042)) := ⟨Or.inl (List.mem_of_getElem? (i := 729) (by decide +kernel)), by decide⟩
set_option maxRecDepth 20000 in
theorem mx_sta_ok_9 : ∀ e ∈ mx_sta_9, mx_LF 9 e.1 (mx_snm e.2) ∧ (e.2 = 2000 ∨ e.2 = 2001 ∨ (1000 ≤ e.2 ∧ e.2 < 1042)) := List.forall_mem_cons.mpr ⟨mx_sta_ok_9_84, List.forall_mem_cons.mpr ⟨mx_sta_ok_9_87, List.forall_mem_cons.mpr ⟨mx_sta_ok_9_90, fun _ h => absurd h List.not_mem_nil⟩⟩⟩
theorem mx_sta_ok_10_170 : mx_LF 10 170 (mx_snm 2001) ∧ (2001 = 2000 ∨ 2001 = 2001 ∨ (1000 ≤ 2001 ∧ 2001 < 1042)) := ⟨Or.inl (List.mem_of_getElem? (i := 705) (by decide +kernel)), by decide⟩
set_option maxRecDepth 20000 in
theorem mx_sta_ok_10 : ∀ e ∈ mx_sta_10, mx_LF 10 e.1 (mx_snm e.2) ∧ (e.2 = 2000 ∨ e.2 = 2001 ∨ (1000 ≤ e.2 ∧ e.2 < 1042)) := List.forall_mem_cons.mpr ⟨mx_sta_ok_10_170, fun _ h => absurd h List.not_mem_nil⟩
theorem mx_sta_ok {o ix : Nat} {v : _} (h : mx_sta o ix = some v) : mx_LF o ix (mx_snm v) ∧ (v = 2000 ∨ v = 2001 ∨ (1000 ≤ v ∧ v < 1042)) := by
  unfold mx_sta at h
  split at h
  · exact mx_sta_ok_1 _ (mx_lookup h)
  · exact mx_sta_ok_4 _ (mx_lookup h)
  · exact mx_sta_ok_7 _ (mx_lookup h)
  · exact mx_sta_ok_8 _ (mx_lookup h)
  · exact mx_sta_ok_9 _ (mx_lookup h)
  · exact mx_sta_ok_10 _ (mx_lookup h)
  · cases h
theorem mx_inv_ok_1_41 : mx_IV 1 41 (0, 1, mm_X7_opOf) := ⟨by decide, Or.inl (List.mem_of_getElem? (i := 761) (by decide +kernel)), gm_X7_opOf, by decide +kernel, by decide, by decide⟩
theorem mx_inv_ok_1_45 : mx_IV 1 45 (0, 2, mm_X7_partOf) := ⟨by decide, Or.inl (List.mem_of_getElem? (i := 769) (by decide +kernel)), gm_X7_partOf, by decide +kernel, by decide, by decide⟩
theorem mx_inv_ok_1_54 : mx_IV 1 54 (0, 2, mm_X1_bitOf) := ⟨by decide, Or.inl (List.mem_of_getElem? (i := 773) (by decide +kernel)), gm_X1_bitOf, by decide +kernel, by decide, by decide⟩
theorem mx_inv_ok_1_57 : mx_IV 1 57 (0, 3, mm_X1_logic) := ⟨by decide, Or.inl (List.mem_of_getElem? (i := 777) (by decide +kernel)), gm_X1_logic, by decide +kernel, by decide, by decide⟩
theorem mx_inv_ok_1_61 : mx_IV 1 61 (0, 2, mm_X1_set) := ⟨by decide, Or.inl (List.mem_of_getElem? (i := 800) (by decide +kernel)), gm_X1_set, by decide +kernel, by decide, by decide⟩
theorem mx_inv_ok_1_69 : mx_IV 1 69 (0, 2, mm_X1_equal) := ⟨by decide, Or.inl (List.mem_of_getElem? (i := 806) (by decide +kernel)), gm_X1_equal, by decide +kernel, by decide, by decide⟩
theorem mx_inv_ok_1_72 : mx_IV 1 72 (0, 3, mm_X1_choose) := ⟨by decide, Or.inl (List.mem_of_getElem? (i := 816) (by decide +kernel)), gm_X1_choose, by decide +kernel, by decide, by decide⟩
theorem mx_inv_ok_1_76 : mx_IV 1 76 (0, 3, mm_X1_calculate) := ⟨by decide, Or.inl (List.mem_of_getElem? (i := 824) (by decide +kernel)), gm_X1_calculate, by decide +kernel, by decide, by decide⟩
theorem mx_inv_ok_1_80 : mx_IV 1 80 (0, 3, mm_X1_less) := ⟨by decide, Or.inl (List.mem_of_getElem? (i := 865) (by decide +kernel)), gm_X1_less, by decide +kernel, by decide, by decide⟩
theorem mx_inv_ok_1_83 : mx_IV 1 83 (0, 3, mm_X1_place) := ⟨by decide, Or.inl (List.mem_of_getElem? (i := 875) (by decide +kernel)), gm_X1_place, by decide +kernel, by decide, by decide⟩
theorem mx_inv_ok_1_86 : mx_IV 1 86 (0, 4, mm_X1_reach) := ⟨by decide, Or.inl (List.mem_of_getElem? (i := 888) (by decide +kernel)), gm_X1_reach, by decide +kernel, by decide, by decide⟩
theorem mx_inv_ok_1_90 : mx_IV 1 90 (0, 1, mm_X1_begin) := ⟨by decide, Or.inl (List.mem_of_getElem? (i := 894) (by decide +kernel)), gm_X1_begin, by decide +kernel, by decide, by decide⟩
theorem mx_inv_ok_1_94 : mx_IV 1 94 (0, 1, mm_X7_sortOf) := ⟨by decide, Or.inl (List.mem_of_getElem? (i := 814) (by decide +kernel)), gm_X7_sortOf, by decide +kernel, by decide, by decide⟩
theorem mx_inv_ok_1_98 : mx_IV 1 98 (1, 1, mm_X10_bitsOf) := ⟨by decide, Or.inr ⟨"TermSolver", List.mem_of_getElem? (i := 815) (by decide +kernel)⟩, gm_X10_bitsOf, by decide +kernel, by decide, by decide⟩
theorem mx_inv_ok_1_101 : mx_IV 1 101 (0, 2, mm_X7_numberOf) := ⟨by decide, Or.inl (List.mem_of_getElem? (i := 882) (by decide +kernel)), gm_X7_numberOf, by decide +kernel, by decide, by decide⟩
theorem mx_inv_ok_1_110 : mx_IV 1 110 (0, 1, mm_X1_widthOf) := ⟨by decide, Or.inl (List.mem_of_getElem? (i := 810) (by decide +kernel)), gm_X1_widthOf, by decide +kernel, by decide, by decide⟩
theorem mx_inv_ok_1_121 : mx_IV 1 121 (10, 0, mm_X9_isHeavy) := List.mem_of_getElem? (i := 782) (by decide +kernel)
theorem mx_inv_ok_1_125 : mx_IV 1 125 (0, 2, mm_X3_and) := ⟨by decide, Or.inl (List.mem_of_getElem? (i := 783) (by decide +kernel)), gm_X3_and, by decide +kernel, by decide, by decide⟩
theorem mx_inv_ok_1_130 : mx_IV 1 130 (0, 2, mm_X3_or) := ⟨by decide, Or.inl (List.mem_of_getElem? (i := 791) (by decide +kernel)), gm_X3_or, by decide +kernel, by decide, by decide⟩
theorem mx_inv_ok_1_133 : mx_IV 1 133 (0, 2, mm_X3_xor) := ⟨by decide, Or.inl (List.mem_of_getElem? (i := 796) (by decide +kernel)), gm_X3_xor, by decide +kernel, by decide, by decide⟩
theorem mx_inv_ok_1_136 : mx_IV 1 136 (0, 3, mm_X3_mux) := ⟨by decide, Or.inl (List.mem_of_getElem? (i := 820) (by decide +kernel)), gm_X3_mux, by decide +kernel, by decide, by decide⟩
theorem mx_inv_ok_1_161 : mx_IV 1 161 (13, 2, mm_X9_isHeavy) := List.mem_of_getElem? (i := 828) (by decide +kernel)
theorem mx_inv_ok_1_166 : mx_IV 1 166 (0, 2, mm_X1_loadLeft) := ⟨by decide, Or.inl (List.mem_of_getElem? (i := 831) (by decide +kernel)), gm_X1_loadLeft, by decide +kernel, by decide, by decide⟩
theorem mx_inv_ok_1_169 : mx_IV 1 169 (0, 3, mm_X1_loadRight) := ⟨by decide, Or.inl (List.mem_of_getElem? (i := 835) (by decide +kernel)), gm_X1_loadRight, by decide +kernel, by decide, by decide⟩
theorem mx_inv_ok_1_173 : mx_IV 1 173 (0, 2, mm_X1_add) := ⟨by decide, Or.inl (List.mem_of_getElem? (i := 839) (by decide +kernel)), gm_X1_add, by decide +kernel, by decide, by decide⟩
theorem mx_inv_ok_1_176 : mx_IV 1 176 (0, 3, mm_X1_multiply) := ⟨by decide, Or.inl (List.mem_of_getElem? (i := 843) (by decide +kernel)), gm_X1_multiply, by decide +kernel, by decide, by decide⟩
theorem mx_inv_ok_1_179 : mx_IV 1 179 (0, 4, mm_X1_divide) := ⟨by decide, Or.inl (List.mem_of_getElem? (i := 847) (by decide +kernel)), gm_X1_divide, by decide +kernel, by decide, by decide⟩
theorem mx_inv_ok_1_182 : mx_IV 1 182 (0, 4, mm_X1_shift) := ⟨by decide, Or.inl (List.mem_of_getElem? (i := 853) (by decide +kernel)), gm_X1_shift, by decide +kernel, by decide, by decide⟩
theorem mx_inv_ok_1_185 : mx_IV 1 185 (0, 4, mm_X1_mix) := ⟨by decide, Or.inl (List.mem_of_getElem? (i := 861) (by decide +kernel)), gm_X1_mix, by decide +kernel, by decide, by decide⟩
set_option maxRecDepth 20000 in
theorem mx_inv_ok_1 : ∀ e ∈ mx_inv_1, mx_IV 1 e.1 e.2 := List.forall_mem_cons.mpr ⟨mx_inv_ok_1_41, List.forall_mem_cons.mpr ⟨mx_inv_ok_1_45, List.forall_mem_cons.mpr ⟨mx_inv_ok_1_54, List.forall_mem_cons.mpr ⟨mx_inv_ok_1_57, List.forall_mem_cons.mpr ⟨mx_inv_ok_1_61, List.forall_mem_cons.mpr ⟨mx_inv_ok_1_69, List.forall_mem_cons.mpr ⟨mx_inv_ok_1_72, List.forall_mem_cons.mpr ⟨mx_inv_ok_1_76, List.forall_mem_cons.mpr ⟨mx_inv_ok_1_80, List.forall_mem_cons.mpr ⟨mx_inv_ok_1_83, List.forall_mem_cons.mpr ⟨mx_inv_ok_1_86, List.forall_mem_cons.mpr ⟨mx_inv_ok_1_90, List.forall_mem_cons.mpr ⟨mx_inv_ok_1_94, List.forall_mem_cons.mpr ⟨mx_inv_ok_1_98, List.forall_mem_cons.mpr ⟨mx_inv_ok_1_101, List.forall_mem_cons.mpr ⟨mx_inv_ok_1_110, List.forall_mem_cons.mpr ⟨mx_inv_ok_1_121, List.forall_mem_cons.mpr ⟨mx_inv_ok_1_125, List.forall_mem_cons.mpr ⟨mx_inv_ok_1_130, List.forall_mem_cons.mpr ⟨mx_inv_ok_1_133, List.forall_mem_cons.mpr ⟨mx_inv_ok_1_136, List.forall_mem_cons.mpr ⟨mx_inv_ok_1_161, List.forall_mem_cons.mpr ⟨mx_inv_ok_1_166, List.forall_mem_cons.mpr ⟨mx_inv_ok_1_169, List.forall_mem_cons.mpr ⟨mx_inv_ok_1_173, List.forall_mem_cons.mpr ⟨mx_inv_ok_1_176, List.forall_mem_cons.mpr ⟨mx_inv_ok_1_179, List.forall_mem_cons.mpr ⟨mx_inv_ok_1_182, List.forall_mem_cons.mpr ⟨mx_inv_ok_1_185, fun _ h => absurd h List.not_mem_nil⟩⟩⟩⟩⟩⟩⟩⟩⟩⟩⟩⟩⟩⟩⟩⟩⟩⟩⟩⟩⟩⟩⟩⟩⟩⟩⟩⟩⟩
theorem mx_inv_ok_2_28 : mx_IV 2 28 (0, 3, mm_X2_add) := ⟨by decide, Or.inl (List.mem_of_getElem? (i := 952) (by decide +kernel)), gm_X2_add, by decide +kernel, by decide, by decide⟩
theorem mx_inv_ok_2_32 : mx_IV 2 32 (0, 1, mm_X2_gather) := ⟨by decide, Or.inl (List.mem_of_getElem? (i := 956) (by decide +kernel)), gm_X2_gather, by decide +kernel, by decide, by decide⟩
theorem mx_inv_ok_2_36 : mx_IV 2 36 (0, 0, mm_X2_finish) := ⟨by decide, Or.inl (List.mem_of_getElem? (i := 960) (by decide +kernel)), gm_X2_finish, by decide +kernel, by decide, by decide⟩
theorem mx_inv_ok_2_40 : mx_IV 2 40 (0, 1, mm_X2_watch) := ⟨by decide, Or.inl (List.mem_of_getElem? (i := 964) (by decide +kernel)), gm_X2_watch, by decide +kernel, by decide, by decide⟩
set_option maxRecDepth 20000 in
theorem mx_inv_ok_2 : ∀ e ∈ mx_inv_2, mx_IV 2 e.1 e.2 := List.forall_mem_cons.mpr ⟨mx_inv_ok_2_28, List.forall_mem_cons.mpr ⟨mx_inv_ok_2_32, List.forall_mem_cons.mpr ⟨mx_inv_ok_2_36, List.forall_mem_cons.mpr ⟨mx_inv_ok_2_40, fun _ h => absurd h List.not_mem_nil⟩⟩⟩⟩
theorem mx_inv_ok_3_31 : mx_IV 3 31 (0, 4, mm_X3_put) := ⟨by decide, Or.inl (List.mem_of_getElem? (i := 787) (by decide +kernel)), gm_X3_put, by decide +kernel, by decide, by decide⟩
theorem mx_inv_ok_3_35 : mx_IV 3 35 (0, 2, mm_X3_and) := ⟨by decide, Or.inl (List.mem_of_getElem? (i := 795) (by decide +kernel)), gm_X3_and, by decide +kernel, by decide, by decide⟩
theorem mx_inv_ok_3_39 : mx_IV 3 39 (0, 1, mm_X3_simulateGate) := ⟨by decide, Or.inl (List.mem_of_getElem? (i := 1045) (by decide +kernel)), gm_X3_simulateGate, by decide +kernel, by decide, by decide⟩
theorem mx_inv_ok_3_43 : mx_IV 3 43 (0, 1, mm_X3_valueOf) := ⟨by decide, Or.inl (List.mem_of_getElem? (i := 1049) (by decide +kernel)), gm_X3_valueOf, by decide +kernel, by decide, by decide⟩
set_option maxRecDepth 20000 in
theorem mx_inv_ok_3 : ∀ e ∈ mx_inv_3, mx_IV 3 e.1 e.2 := List.forall_mem_cons.mpr ⟨mx_inv_ok_3_31, List.forall_mem_cons.mpr ⟨mx_inv_ok_3_35, List.forall_mem_cons.mpr ⟨mx_inv_ok_3_39, List.forall_mem_cons.mpr ⟨mx_inv_ok_3_43, fun _ h => absurd h List.not_mem_nil⟩⟩⟩⟩
theorem mx_inv_ok_4_43 : mx_IV 4 43 (0, 1, mm_X4_bracket) := ⟨by decide, Or.inl (List.mem_of_getElem? (i := 525) (by decide +kernel)), gm_X4_bracket, by decide +kernel, by decide, by decide⟩
theorem mx_inv_ok_4_47 : mx_IV 4 47 (0, 1, mm_X8_wordAt) := ⟨by decide, Or.inl (List.mem_of_getElem? (i := 537) (by decide +kernel)), gm_X8_wordAt, by decide +kernel, by decide, by decide⟩
theorem mx_inv_ok_4_53 : mx_IV 4 53 (0, 1, mm_X4_readBehind) := ⟨by decide, Or.inl (List.mem_of_getElem? (i := 545) (by decide +kernel)), gm_X4_readBehind, by decide +kernel, by decide, by decide⟩
theorem mx_inv_ok_4_57 : mx_IV 4 57 (0, 1, mm_X8_isEnd) := ⟨by decide, Or.inl (List.mem_of_getElem? (i := 685) (by decide +kernel)), gm_X8_isEnd, by decide +kernel, by decide, by decide⟩
theorem mx_inv_ok_4_61 : mx_IV 4 61 (0, 1, mm_X4_failAt) := ⟨by decide, Or.inl (List.mem_of_getElem? (i := 533) (by decide +kernel)), gm_X4_failAt, by decide +kernel, by decide, by decide⟩
theorem mx_inv_ok_4_76 : mx_IV 4 76 (0, 0, mm_X4_readNewName) := ⟨by decide, Or.inl (List.mem_of_getElem? (i := 555) (by decide +kernel)), gm_X4_readNewName, by decide +kernel, by decide, by decide⟩
theorem mx_inv_ok_4_80 : mx_IV 4 80 (0, 0, mm_X4_readSort) := ⟨by decide, Or.inl (List.mem_of_getElem? (i := 571) (by decide +kernel)), gm_X4_readSort, by decide +kernel, by decide, by decide⟩
theorem mx_inv_ok_4_86 : mx_IV 4 86 (0, 1, mm_X4_readTerm) := ⟨by decide, Or.inl (List.mem_of_getElem? (i := 597) (by decide +kernel)), gm_X4_readTerm, by decide +kernel, by decide, by decide⟩
theorem mx_inv_ok_4_93 : mx_IV 4 93 (0, 1, mm_X7_sortOf) := ⟨by decide, Or.inl (List.mem_of_getElem? (i := 659) (by decide +kernel)), gm_X7_sortOf, by decide +kernel, by decide, by decide⟩
theorem mx_inv_ok_4_98 : mx_IV 4 98 (0, 2, mm_X8_isBracket) := ⟨by decide, Or.inl (List.mem_of_getElem? (i := 529) (by decide +kernel)), gm_X8_isBracket, by decide +kernel, by decide, by decide⟩
theorem mx_inv_ok_4_102 : mx_IV 4 102 (0, 1, mm_X8_nameAt) := ⟨by decide, Or.inl (List.mem_of_getElem? (i := 559) (by decide +kernel)), gm_X8_nameAt, by decide +kernel, by decide, by decide⟩
theorem mx_inv_ok_4_108 : mx_IV 4 108 (0, 1, mm_X5_find) := ⟨by decide, Or.inl (List.mem_of_getElem? (i := 567) (by decide +kernel)), gm_X5_find, by decide +kernel, by decide, by decide⟩
theorem mx_inv_ok_4_122 : mx_IV 4 122 (0, 1, mm_X4_readWidth) := ⟨by decide, Or.inl (List.mem_of_getElem? (i := 579) (by decide +kernel)), gm_X4_readWidth, by decide +kernel, by decide, by decide⟩
theorem mx_inv_ok_4_128 : mx_IV 4 128 (0, 1, mm_X4_word) := ⟨by decide, Or.inl (List.mem_of_getElem? (i := 585) (by decide +kernel)), gm_X4_word, by decide +kernel, by decide, by decide⟩
theorem mx_inv_ok_4_134 : mx_IV 4 134 (0, 1, mm_X8_numberAt) := ⟨by decide, Or.inl (List.mem_of_getElem? (i := 591) (by decide +kernel)), gm_X8_numberAt, by decide +kernel, by decide, by decide⟩
theorem mx_inv_ok_4_137 : mx_IV 4 137 (0, 1, mm_X4_noTermAt) := ⟨by decide, Or.inl (List.mem_of_getElem? (i := 601) (by decide +kernel)), gm_X4_noTermAt, by decide +kernel, by decide, by decide⟩
theorem mx_inv_ok_4_140 : mx_IV 4 140 (0, 0, mm_X4_readAtom) := ⟨by decide, Or.inl (List.mem_of_getElem? (i := 605) (by decide +kernel)), gm_X4_readAtom, by decide +kernel, by decide, by decide⟩
theorem mx_inv_ok_4_144 : mx_IV 4 144 (0, 1, mm_X4_readNumbered) := ⟨by decide, Or.inl (List.mem_of_getElem? (i := 641) (by decide +kernel)), gm_X4_readNumbered, by decide +kernel, by decide, by decide⟩
theorem mx_inv_ok_4_150 : mx_IV 4 150 (0, 1, mm_X4_readLet) := ⟨by decide, Or.inl (List.mem_of_getElem? (i := 681) (by decide +kernel)), gm_X4_readLet, by decide +kernel, by decide, by decide⟩
theorem mx_inv_ok_4_155 : mx_IV 4 155 (2, 0, mm_X9_takesNumbers) := ⟨by decide, Or.inl (List.mem_of_getElem? (i := 645) (by decide +kernel)), gm_X9_takesNumbers, by decide +kernel, by decide, by decide⟩
theorem mx_inv_ok_4_158 : mx_IV 4 158 (0, 4, mm_X4_readParts) := ⟨by decide, Or.inl (List.mem_of_getElem? (i := 651) (by decide +kernel)), gm_X4_readParts, by decide +kernel, by decide, by decide⟩
theorem mx_inv_ok_4_168 : mx_IV 4 168 (0, 4, mm_X7_prepare) := ⟨by decide, Or.inl (List.mem_of_getElem? (i := 613) (by decide +kernel)), gm_X7_prepare, by decide +kernel, by decide, by decide⟩
theorem mx_inv_ok_4_172 : mx_IV 4 172 (0, 0, mm_X7_make) := ⟨by decide, Or.inl (List.mem_of_getElem? (i := 617) (by decide +kernel)), gm_X7_make, by decide +kernel, by decide, by decide⟩
theorem mx_inv_ok_4_175 : mx_IV 4 175 (0, 1, mm_X8_widthAt) := ⟨by decide, Or.inl (List.mem_of_getElem? (i := 629) (by decide +kernel)), gm_X8_widthAt, by decide +kernel, by decide, by decide⟩
theorem mx_inv_ok_4_178 : mx_IV 4 178 (0, 2, mm_X8_bitsAt) := ⟨by decide, Or.inl (List.mem_of_getElem? (i := 633) (by decide +kernel)), gm_X8_bitsAt, by decide +kernel, by decide, by decide⟩
theorem mx_inv_ok_4_182 : mx_IV 4 182 (0, 1, mm_X4_meaningOf) := ⟨by decide, Or.inl (List.mem_of_getElem? (i := 637) (by decide +kernel)), gm_X4_meaningOf, by decide +kernel, by decide, by decide⟩
theorem mx_inv_ok_4_188 : mx_IV 4 188 (0, 4, mm_X4_fits) := ⟨by decide, Or.inl (List.mem_of_getElem? (i := 655) (by decide +kernel)), gm_X4_fits, by decide +kernel, by decide, by decide⟩
theorem mx_inv_ok_4_192 : mx_IV 4 192 (0, 4, mm_X4_resultSort) := ⟨by decide, Or.inl (List.mem_of_getElem? (i := 669) (by decide +kernel)), gm_X4_resultSort, by decide +kernel, by decide, by decide⟩
theorem mx_inv_ok_4_195 : mx_IV 4 195 (0, 2, mm_X7_preparePart) := ⟨by decide, Or.inl (List.mem_of_getElem? (i := 675) (by decide +kernel)), gm_X7_preparePart, by decide +kernel, by decide, by decide⟩
theorem mx_inv_ok_4_202 : mx_IV 4 202 (1, 1, mm_X10_isWord) := ⟨by decide, Or.inr ⟨"TermSolver", List.mem_of_getElem? (i := 663) (by decide +kernel)⟩, gm_X10_isWord, by decide +kernel, by decide, by decide⟩
theorem mx_inv_ok_4_205 : mx_IV 4 205 (1, 1, mm_X10_isArray) := ⟨by decide, Or.inr ⟨"TermSolver", List.mem_of_getElem? (i := 666) (by decide +kernel)⟩, gm_X10_isArray, by decide +kernel, by decide, by decide⟩
set_option maxRecDepth 20000 in
theorem mx_inv_ok_4 : ∀ e ∈ mx_inv_4, mx_IV 4 e.1 e.2 := List.forall_mem_cons.mpr ⟨mx_inv_ok_4_43, List.forall_mem_cons.mpr ⟨mx_inv_ok_4_47, List.forall_mem_cons.mpr ⟨mx_inv_ok_4_53, List.forall_mem_cons.mpr ⟨mx_inv_ok_4_57, List.forall_mem_cons.mpr ⟨mx_inv_ok_4_61, List.forall_mem_cons.mpr ⟨mx_inv_ok_4_76, List.forall_mem_cons.mpr ⟨mx_inv_ok_4_80, List.forall_mem_cons.mpr ⟨mx_inv_ok_4_86, List.forall_mem_cons.mpr ⟨mx_inv_ok_4_93, List.forall_mem_cons.mpr ⟨mx_inv_ok_4_98, List.forall_mem_cons.mpr ⟨mx_inv_ok_4_102, List.forall_mem_cons.mpr ⟨mx_inv_ok_4_108, List.forall_mem_cons.mpr ⟨mx_inv_ok_4_122, List.forall_mem_cons.mpr ⟨mx_inv_ok_4_128, List.forall_mem_cons.mpr ⟨mx_inv_ok_4_134, List.forall_mem_cons.mpr ⟨mx_inv_ok_4_137, List.forall_mem_cons.mpr ⟨mx_inv_ok_4_140, List.forall_mem_cons.mpr ⟨mx_inv_ok_4_144, List.forall_mem_cons.mpr ⟨mx_inv_ok_4_150, List.forall_mem_cons.mpr ⟨mx_inv_ok_4_155, List.forall_mem_cons.mpr ⟨mx_inv_ok_4_158, List.forall_mem_cons.mpr ⟨mx_inv_ok_4_168, List.forall_mem_cons.mpr ⟨mx_inv_ok_4_172, List.forall_mem_cons.mpr ⟨mx_inv_ok_4_175, List.forall_mem_cons.mpr ⟨mx_inv_ok_4_178, List.forall_mem_cons.mpr ⟨mx_inv_ok_4_182, List.forall_mem_cons.mpr ⟨mx_inv_ok_4_188, List.forall_mem_cons.mpr ⟨mx_inv_ok_4_192, List.forall_mem_cons.mpr ⟨mx_inv_ok_4_195, List.forall_mem_cons.mpr ⟨mx_inv_ok_4_202, List.forall_mem_cons.mpr ⟨mx_inv_ok_4_205, fun _ h => absurd h List.not_mem_nil⟩⟩⟩⟩⟩⟩⟩⟩⟩⟩⟩⟩⟩⟩⟩⟩⟩⟩⟩⟩⟩⟩⟩⟩⟩⟩⟩⟩⟩⟩⟩
theorem mx_inv_ok_6_49 : mx_IV 6 49 (0, 0, mm_X6_begin) := ⟨by decide, Or.inl (List.mem_of_getElem? (i := 928) (by decide +kernel)), gm_X6_begin, by decide +kernel, by decide, by decide⟩
theorem mx_inv_ok_6_52 : mx_IV 6 52 (0, 1, mm_X6_truthOf) := ⟨by decide, Or.inl (List.mem_of_getElem? (i := 936) (by decide +kernel)), gm_X6_truthOf, by decide +kernel, by decide, by decide⟩
theorem mx_inv_ok_6_56 : mx_IV 6 56 (0, 2, mm_X6_assign) := ⟨by decide, Or.inl (List.mem_of_getElem? (i := 940) (by decide +kernel)), gm_X6_assign, by decide +kernel, by decide, by decide⟩
theorem mx_inv_ok_6_60 : mx_IV 6 60 (0, 0, mm_X6_loadMarked) := ⟨by decide, Or.inl (List.mem_of_getElem? (i := 944) (by decide +kernel)), gm_X6_loadMarked, by decide +kernel, by decide, by decide⟩
theorem mx_inv_ok_6_64 : mx_IV 6 64 (0, 0, mm_X6_propagate) := ⟨by decide, Or.inl (List.mem_of_getElem? (i := 969) (by decide +kernel)), gm_X6_propagate, by decide +kernel, by decide, by decide⟩
theorem mx_inv_ok_6_68 : mx_IV 6 68 (0, 0, mm_X6_decide) := ⟨by decide, Or.inl (List.mem_of_getElem? (i := 990) (by decide +kernel)), gm_X6_decide, by decide +kernel, by decide, by decide⟩
theorem mx_inv_ok_6_72 : mx_IV 6 72 (0, 1, mm_X6_learnFrom) := ⟨by decide, Or.inl (List.mem_of_getElem? (i := 994) (by decide +kernel)), gm_X6_learnFrom, by decide +kernel, by decide, by decide⟩
theorem mx_inv_ok_6_81 : mx_IV 6 81 (0, 1, mm_X2_clear) := ⟨by decide, Or.inl (List.mem_of_getElem? (i := 932) (by decide +kernel)), gm_X2_clear, by decide +kernel, by decide, by decide⟩
theorem mx_inv_ok_6_106 : mx_IV 6 106 (0, 5, mm_X2_tell) := ⟨by decide, Or.inl (List.mem_of_getElem? (i := 948) (by decide +kernel)), gm_X2_tell, by decide +kernel, by decide, by decide⟩
theorem mx_inv_ok_6_110 : mx_IV 6 110 (0, 1, mm_X6_visit) := ⟨by decide, Or.inl (List.mem_of_getElem? (i := 973) (by decide +kernel)), gm_X6_visit, by decide +kernel, by decide, by decide⟩
theorem mx_inv_ok_6_119 : mx_IV 6 119 (0, 1, mm_X2_watched) := ⟨by decide, Or.inl (List.mem_of_getElem? (i := 977) (by decide +kernel)), gm_X2_watched, by decide +kernel, by decide, by decide⟩
theorem mx_inv_ok_6_122 : mx_IV 6 122 (0, 1, mm_X6_openPlace) := ⟨by decide, Or.inl (List.mem_of_getElem? (i := 981) (by decide +kernel)), gm_X6_openPlace, by decide +kernel, by decide, by decide⟩
theorem mx_inv_ok_6_125 : mx_IV 6 125 (0, 2, mm_X2_exchange) := ⟨by decide, Or.inl (List.mem_of_getElem? (i := 985) (by decide +kernel)), gm_X2_exchange, by decide +kernel, by decide, by decide⟩
theorem mx_inv_ok_6_128 : mx_IV 6 128 (0, 1, mm_X2_watch) := ⟨by decide, Or.inl (List.mem_of_getElem? (i := 989) (by decide +kernel)), gm_X2_watch, by decide +kernel, by decide, by decide⟩
theorem mx_inv_ok_6_137 : mx_IV 6 137 (0, 1, mm_X6_collectDecisions) := ⟨by decide, Or.inl (List.mem_of_getElem? (i := 998) (by decide +kernel)), gm_X6_collectDecisions, by decide +kernel, by decide, by decide⟩
theorem mx_inv_ok_6_143 : mx_IV 6 143 (0, 1, mm_X2_gather) := ⟨by decide, Or.inl (List.mem_of_getElem? (i := 1006) (by decide +kernel)), gm_X2_gather, by decide +kernel, by decide, by decide⟩
theorem mx_inv_ok_6_146 : mx_IV 6 146 (0, 0, mm_X2_finish) := ⟨by decide, Or.inl (List.mem_of_getElem? (i := 1007) (by decide +kernel)), gm_X2_finish, by decide +kernel, by decide, by decide⟩
theorem mx_inv_ok_6_149 : mx_IV 6 149 (0, 1, mm_X6_goBack) := ⟨by decide, Or.inl (List.mem_of_getElem? (i := 1008) (by decide +kernel)), gm_X6_goBack, by decide +kernel, by decide, by decide⟩
theorem mx_inv_ok_6_152 : mx_IV 6 152 (0, 1, mm_X6_markClause) := ⟨by decide, Or.inl (List.mem_of_getElem? (i := 1002) (by decide +kernel)), gm_X6_markClause, by decide +kernel, by decide, by decide⟩
theorem mx_inv_ok_6_155 : mx_IV 6 155 (13, 2, mm_X9_isHeavy) := List.mem_of_getElem? (i := 1012) (by decide +kernel)
set_option maxRecDepth 20000 in
theorem mx_inv_ok_6 : ∀ e ∈ mx_inv_6, mx_IV 6 e.1 e.2 := List.forall_mem_cons.mpr ⟨mx_inv_ok_6_49, List.forall_mem_cons.mpr ⟨mx_inv_ok_6_52, List.forall_mem_cons.mpr ⟨mx_inv_ok_6_56, List.forall_mem_cons.mpr ⟨mx_inv_ok_6_60, List.forall_mem_cons.mpr ⟨mx_inv_ok_6_64, List.forall_mem_cons.mpr ⟨mx_inv_ok_6_68, List.forall_mem_cons.mpr ⟨mx_inv_ok_6_72, List.forall_mem_cons.mpr ⟨mx_inv_ok_6_81, List.forall_mem_cons.mpr ⟨mx_inv_ok_6_106, List.forall_mem_cons.mpr ⟨mx_inv_ok_6_110, List.forall_mem_cons.mpr ⟨mx_inv_ok_6_119, List.forall_mem_cons.mpr ⟨mx_inv_ok_6_122, List.forall_mem_cons.mpr ⟨mx_inv_ok_6_125, List.forall_mem_cons.mpr ⟨mx_inv_ok_6_128, List.forall_mem_cons.mpr ⟨mx_inv_ok_6_137, List.forall_mem_cons.mpr ⟨mx_inv_ok_6_143, List.forall_mem_cons.mpr ⟨mx_inv_ok_6_146, List.forall_mem_cons.mpr ⟨mx_inv_ok_6_149, List.forall_mem_cons.mpr ⟨mx_inv_ok_6_152, List.forall_mem_cons.mpr ⟨mx_inv_ok_6_155, fun _ h => absurd h List.not_mem_nil⟩⟩⟩⟩⟩⟩⟩⟩⟩⟩⟩⟩⟩⟩⟩⟩⟩⟩⟩⟩
theorem mx_inv_ok_7_31 : mx_IV 7 31 (0, 1, mm_X7_has) := ⟨by decide, Or.inl (List.mem_of_getElem? (i := 765) (by decide +kernel)), gm_X7_has, by decide +kernel, by decide, by decide⟩
theorem mx_inv_ok_7_39 : mx_IV 7 39 (0, 4, mm_X7_prepare) := ⟨by decide, Or.inl (List.mem_of_getElem? (i := 740) (by decide +kernel)), gm_X7_prepare, by decide +kernel, by decide, by decide⟩
theorem mx_inv_ok_7_43 : mx_IV 7 43 (0, 0, mm_X7_add) := ⟨by decide, Or.inl (List.mem_of_getElem? (i := 625) (by decide +kernel)), gm_X7_add, by decide +kernel, by decide, by decide⟩
theorem mx_inv_ok_7_47 : mx_IV 7 47 (0, 1, mm_X7_isPrepared) := ⟨by decide, Or.inl (List.mem_of_getElem? (i := 621) (by decide +kernel)), gm_X7_isPrepared, by decide +kernel, by decide, by decide⟩
theorem mx_inv_ok_7_50 : mx_IV 7 50 (2, 0, mm_X9_isHeavy) := ⟨by decide, Or.inl (List.mem_of_getElem? (i := 721) (by decide +kernel)), gm_X9_isHeavy, by decide +kernel, by decide, by decide⟩
set_option maxRecDepth 20000 in
theorem mx_inv_ok_7 : ∀ e ∈ mx_inv_7, mx_IV 7 e.1 e.2 := List.forall_mem_cons.mpr ⟨mx_inv_ok_7_31, List.forall_mem_cons.mpr ⟨mx_inv_ok_7_39, List.forall_mem_cons.mpr ⟨mx_inv_ok_7_43, List.forall_mem_cons.mpr ⟨mx_inv_ok_7_47, List.forall_mem_cons.mpr ⟨mx_inv_ok_7_50, fun _ h => absurd h List.not_mem_nil⟩⟩⟩⟩⟩
theorem mx_inv_ok_8_32 : mx_IV 8 32 (1, 2, mm_X8_byteOf) := ⟨by decide, Or.inl (List.mem_of_getElem? (i := 439) (by decide +kernel)), gm_X8_byteOf, by decide +kernel, by decide, by decide⟩
theorem mx_inv_ok_8_39 : mx_IV 8 39 (1, 1, mm_X8_isOfSymbol) := ⟨by decide, Or.inl (List.mem_of_getElem? (i := 450) (by decide +kernel)), gm_X8_isOfSymbol, by decide +kernel, by decide, by decide⟩
theorem mx_inv_ok_8_43 : mx_IV 8 43 (0, 2, mm_X8_addToken) := ⟨by decide, Or.inl (List.mem_of_getElem? (i := 459) (by decide +kernel)), gm_X8_addToken, by decide +kernel, by decide, by decide⟩
theorem mx_inv_ok_8_47 : mx_IV 8 47 (0, 2, mm_X8_findWord) := ⟨by decide, Or.inl (List.mem_of_getElem? (i := 463) (by decide +kernel)), gm_X8_findWord, by decide +kernel, by decide, by decide⟩
theorem mx_inv_ok_8_58 : mx_IV 8 58 (0, 3, mm_X8_isSpelled) := ⟨by decide, Or.inl (List.mem_of_getElem? (i := 469) (by decide +kernel)), gm_X8_isSpelled, by decide +kernel, by decide, by decide⟩
theorem mx_inv_ok_8_62 : mx_IV 8 62 (11, 0, mm_X9_isHeavy) := List.mem_of_getElem? (i := 473) (by decide +kernel)
theorem mx_inv_ok_8_67 : mx_IV 8 67 (12, 1, mm_X9_isHeavy) := List.mem_of_getElem? (i := 483) (by decide +kernel)
theorem mx_inv_ok_8_71 : mx_IV 8 71 (1, 1, mm_X8_isLetter) := ⟨by decide, Or.inl (List.mem_of_getElem? (i := 453) (by decide +kernel)), gm_X8_isLetter, by decide +kernel, by decide, by decide⟩
theorem mx_inv_ok_8_74 : mx_IV 8 74 (1, 1, mm_X8_isDigit) := ⟨by decide, Or.inl (List.mem_of_getElem? (i := 456) (by decide +kernel)), gm_X8_isDigit, by decide +kernel, by decide, by decide⟩
theorem mx_inv_ok_8_77 : mx_IV 8 77 (0, 1, mm_X8_hasToken) := ⟨by decide, Or.inl (List.mem_of_getElem? (i := 541) (by decide +kernel)), gm_X8_hasToken, by decide +kernel, by decide, by decide⟩
theorem mx_inv_ok_8_81 : mx_IV 8 81 (0, 1, mm_X8_sizeOf) := ⟨by decide, Or.inl (List.mem_of_getElem? (i := 563) (by decide +kernel)), gm_X8_sizeOf, by decide +kernel, by decide, by decide⟩
set_option maxRecDepth 20000 in
theorem mx_inv_ok_8 : ∀ e ∈ mx_inv_8, mx_IV 8 e.1 e.2 := List.forall_mem_cons.mpr ⟨mx_inv_ok_8_32, List.forall_mem_cons.mpr ⟨mx_inv_ok_8_39, List.forall_mem_cons.mpr ⟨mx_inv_ok_8_43, List.forall_mem_cons.mpr ⟨mx_inv_ok_8_47, List.forall_mem_cons.mpr ⟨mx_inv_ok_8_58, List.forall_mem_cons.mpr ⟨mx_inv_ok_8_62, List.forall_mem_cons.mpr ⟨mx_inv_ok_8_67, List.forall_mem_cons.mpr ⟨mx_inv_ok_8_71, List.forall_mem_cons.mpr ⟨mx_inv_ok_8_74, List.forall_mem_cons.mpr ⟨mx_inv_ok_8_77, List.forall_mem_cons.mpr ⟨mx_inv_ok_8_81, fun _ h => absurd h List.not_mem_nil⟩⟩⟩⟩⟩⟩⟩⟩⟩⟩⟩
theorem mx_inv_ok_10_72 : mx_IV 10 72 (0, 2, mm_X8_append) := ⟨by decide, Or.inl (List.mem_of_getElem? (i := 435) (by decide +kernel)), gm_X8_append, by decide +kernel, by decide, by decide⟩
theorem mx_inv_ok_10_79 : mx_IV 10 79 (0, 0, mm_X8_split) := ⟨by decide, Or.inl (List.mem_of_getElem? (i := 446) (by decide +kernel)), gm_X8_split, by decide +kernel, by decide, by decide⟩
theorem mx_inv_ok_10_82 : mx_IV 10 82 (0, 0, mm_X4_read) := ⟨by decide, Or.inl (List.mem_of_getElem? (i := 521) (by decide +kernel)), gm_X4_read, by decide +kernel, by decide, by decide⟩
theorem mx_inv_ok_10_89 : mx_IV 10 89 (0, 1, mm_X8_start) := ⟨by decide, Or.inl (List.mem_of_getElem? (i := 689) (by decide +kernel)), gm_X8_start, by decide +kernel, by decide, by decide⟩
theorem mx_inv_ok_10_93 : mx_IV 10 93 (0, 0, mm_X8_clear) := ⟨by decide, Or.inl (List.mem_of_getElem? (i := 693) (by decide +kernel)), gm_X8_clear, by decide +kernel, by decide, by decide⟩
theorem mx_inv_ok_10_96 : mx_IV 10 96 (0, 1, mm_X7_cut) := ⟨by decide, Or.inl (List.mem_of_getElem? (i := 697) (by decide +kernel)), gm_X7_cut, by decide +kernel, by decide, by decide⟩
theorem mx_inv_ok_10_100 : mx_IV 10 100 (0, 1, mm_X10_refusal) := ⟨by decide, Or.inl (List.mem_of_getElem? (i := 701) (by decide +kernel)), gm_X10_refusal, by decide +kernel, by decide, by decide⟩
theorem mx_inv_ok_10_104 : mx_IV 10 104 (0, 1, mm_X10_perform) := ⟨by decide, Or.inl (List.mem_of_getElem? (i := 731) (by decide +kernel)), gm_X10_perform, by decide +kernel, by decide, by decide⟩
theorem mx_inv_ok_10_107 : mx_IV 10 107 (0, 0, mm_X1_grow) := ⟨by decide, Or.inl (List.mem_of_getElem? (i := 757) (by decide +kernel)), gm_X1_grow, by decide +kernel, by decide, by decide⟩
theorem mx_inv_ok_10_113 : mx_IV 10 113 (0, 0, mm_X10_gatherRoots) := ⟨by decide, Or.inl (List.mem_of_getElem? (i := 905) (by decide +kernel)), gm_X10_gatherRoots, by decide +kernel, by decide, by decide⟩
theorem mx_inv_ok_10_116 : mx_IV 10 116 (0, 0, mm_X10_orderInputs) := ⟨by decide, Or.inl (List.mem_of_getElem? (i := 910) (by decide +kernel)), gm_X10_orderInputs, by decide +kernel, by decide, by decide⟩
theorem mx_inv_ok_10_119 : mx_IV 10 119 (0, 2, mm_X6_canHold) := ⟨by decide, Or.inl (List.mem_of_getElem? (i := 924) (by decide +kernel)), gm_X6_canHold, by decide +kernel, by decide, by decide⟩
theorem mx_inv_ok_10_123 : mx_IV 10 123 (0, 0, mm_X6_inputs) := ⟨by decide, Or.inl (List.mem_of_getElem? (i := 1013) (by decide +kernel)), gm_X6_inputs, by decide +kernel, by decide, by decide⟩
theorem mx_inv_ok_10_130 : mx_IV 10 130 (0, 1, mm_X10_coreOf) := ⟨by decide, Or.inl (List.mem_of_getElem? (i := 1017) (by decide +kernel)), gm_X10_coreOf, by decide +kernel, by decide, by decide⟩
theorem mx_inv_ok_10_136 : mx_IV 10 136 (0, 1, mm_X5_hasConstant) := ⟨by decide, Or.inl (List.mem_of_getElem? (i := 1025) (by decide +kernel)), gm_X5_hasConstant, by decide +kernel, by decide, by decide⟩
theorem mx_inv_ok_10_143 : mx_IV 10 143 (0, 1, mm_X7_sortOf) := ⟨by decide, Or.inl (List.mem_of_getElem? (i := 919) (by decide +kernel)), gm_X7_sortOf, by decide +kernel, by decide, by decide⟩
theorem mx_inv_ok_10_146 : mx_IV 10 146 (1, 1, mm_X10_bitsOf) := ⟨by decide, Or.inl (List.mem_of_getElem? (i := 713) (by decide +kernel)), gm_X10_bitsOf, by decide +kernel, by decide, by decide⟩
theorem mx_inv_ok_10_149 : mx_IV 10 149 (0, 2, mm_X7_numberOf) := ⟨by decide, Or.inl (List.mem_of_getElem? (i := 918) (by decide +kernel)), gm_X7_numberOf, by decide +kernel, by decide, by decide⟩
theorem mx_inv_ok_10_153 : mx_IV 10 153 (0, 1, mm_X5_hasAssertion) := ⟨by decide, Or.inl (List.mem_of_getElem? (i := 1033) (by decide +kernel)), gm_X5_hasAssertion, by decide +kernel, by decide, by decide⟩
theorem mx_inv_ok_10_159 : mx_IV 10 159 (0, 2, mm_X1_bitOf) := ⟨by decide, Or.inl (List.mem_of_getElem? (i := 909) (by decide +kernel)), gm_X1_bitOf, by decide +kernel, by decide, by decide⟩
theorem mx_inv_ok_10_162 : mx_IV 10 162 (0, 2, mm_X3_simulate) := ⟨by decide, Or.inl (List.mem_of_getElem? (i := 1041) (by decide +kernel)), gm_X3_simulate, by decide +kernel, by decide, by decide⟩
theorem mx_inv_ok_10_175 : mx_IV 10 175 (10, 0, mm_X9_isHeavy) := List.mem_of_getElem? (i := 707) (by decide +kernel)
theorem mx_inv_ok_10_186 : mx_IV 10 186 (0, 0, mm_X7_heavyOnes) := ⟨by decide, Or.inl (List.mem_of_getElem? (i := 717) (by decide +kernel)), gm_X7_heavyOnes, by decide +kernel, by decide, by decide⟩
theorem mx_inv_ok_10_192 : mx_IV 10 192 (0, 2, mm_X7_addConstant) := ⟨by decide, Or.inl (List.mem_of_getElem? (i := 735) (by decide +kernel)), gm_X7_addConstant, by decide +kernel, by decide, by decide⟩
theorem mx_inv_ok_10_195 : mx_IV 10 195 (0, 3, mm_X5_declare) := ⟨by decide, Or.inl (List.mem_of_getElem? (i := 741) (by decide +kernel)), gm_X5_declare, by decide +kernel, by decide, by decide⟩
theorem mx_inv_ok_10_202 : mx_IV 10 202 (0, 1, mm_X5_claim) := ⟨by decide, Or.inl (List.mem_of_getElem? (i := 745) (by decide +kernel)), gm_X5_claim, by decide +kernel, by decide, by decide⟩
theorem mx_inv_ok_10_205 : mx_IV 10 205 (0, 0, mm_X5_open) := ⟨by decide, Or.inl (List.mem_of_getElem? (i := 749) (by decide +kernel)), gm_X5_open, by decide +kernel, by decide, by decide⟩
theorem mx_inv_ok_10_208 : mx_IV 10 208 (0, 0, mm_X5_close) := ⟨by decide, Or.inl (List.mem_of_getElem? (i := 753) (by decide +kernel)), gm_X5_close, by decide +kernel, by decide, by decide⟩
theorem mx_inv_ok_10_211 : mx_IV 10 211 (0, 0, mm_X6_forgetOrder) := ⟨by decide, Or.inl (List.mem_of_getElem? (i := 914) (by decide +kernel)), gm_X6_forgetOrder, by decide +kernel, by decide, by decide⟩
theorem mx_inv_ok_10_214 : mx_IV 10 214 (0, 1, mm_X6_decideNext) := ⟨by decide, Or.inl (List.mem_of_getElem? (i := 920) (by decide +kernel)), gm_X6_decideNext, by decide +kernel, by decide, by decide⟩
theorem mx_inv_ok_10_217 : mx_IV 10 217 (1, 1, mm_X10_isWord) := ⟨by decide, Or.inl (List.mem_of_getElem? (i := 716) (by decide +kernel)), gm_X10_isWord, by decide +kernel, by decide, by decide⟩
set_option maxRecDepth 20000 in
theorem mx_inv_ok_10 : ∀ e ∈ mx_inv_10, mx_IV 10 e.1 e.2 := List.forall_mem_cons.mpr ⟨mx_inv_ok_10_72, List.forall_mem_cons.mpr ⟨mx_inv_ok_10_79, List.forall_mem_cons.mpr ⟨mx_inv_ok_10_82, List.forall_mem_cons.mpr ⟨mx_inv_ok_10_89, List.forall_mem_cons.mpr ⟨mx_inv_ok_10_93, List.forall_mem_cons.mpr ⟨mx_inv_ok_10_96, List.forall_mem_cons.mpr ⟨mx_inv_ok_10_100, List.forall_mem_cons.mpr ⟨mx_inv_ok_10_104, List.forall_mem_cons.mpr ⟨mx_inv_ok_10_107, List.forall_mem_cons.mpr ⟨mx_inv_ok_10_113, List.forall_mem_cons.mpr ⟨mx_inv_ok_10_116, List.forall_mem_cons.mpr ⟨mx_inv_ok_10_119, List.forall_mem_cons.mpr ⟨mx_inv_ok_10_123, List.forall_mem_cons.mpr ⟨mx_inv_ok_10_130, List.forall_mem_cons.mpr ⟨mx_inv_ok_10_136, List.forall_mem_cons.mpr ⟨mx_inv_ok_10_143, List.forall_mem_cons.mpr ⟨mx_inv_ok_10_146, List.forall_mem_cons.mpr ⟨mx_inv_ok_10_149, List.forall_mem_cons.mpr ⟨mx_inv_ok_10_153, List.forall_mem_cons.mpr ⟨mx_inv_ok_10_159, List.forall_mem_cons.mpr ⟨mx_inv_ok_10_162, List.forall_mem_cons.mpr ⟨mx_inv_ok_10_175, List.forall_mem_cons.mpr ⟨mx_inv_ok_10_186, List.forall_mem_cons.mpr ⟨mx_inv_ok_10_192, List.forall_mem_cons.mpr ⟨mx_inv_ok_10_195, List.forall_mem_cons.mpr ⟨mx_inv_ok_10_202, List.forall_mem_cons.mpr ⟨mx_inv_ok_10_205, List.forall_mem_cons.mpr ⟨mx_inv_ok_10_208, List.forall_mem_cons.mpr ⟨mx_inv_ok_10_211, List.forall_mem_cons.mpr ⟨mx_inv_ok_10_214, List.forall_mem_cons.mpr ⟨mx_inv_ok_10_217, fun _ h => absurd h List.not_mem_nil⟩⟩⟩⟩⟩⟩⟩⟩⟩⟩⟩⟩⟩⟩⟩⟩⟩⟩⟩⟩⟩⟩⟩⟩⟩⟩⟩⟩⟩⟩⟩
theorem mx_inv_ok_11_84 : mx_IV 11 84 (1, 3, mm_X11_in) := ⟨by decide, Or.inl (List.mem_of_getElem? (i := 1196) (by decide +kernel)), gm_X11_in, by decide +kernel, by decide, by decide⟩
theorem mx_inv_ok_11_92 : mx_IV 11 92 (1, 1, mm_X11_isLetter) := ⟨by decide, Or.inl (List.mem_of_getElem? (i := 1214) (by decide +kernel)), gm_X11_isLetter, by decide +kernel, by decide, by decide⟩
theorem mx_inv_ok_11_96 : mx_IV 11 96 (1, 1, mm_X11_isDigit) := ⟨by decide, Or.inl (List.mem_of_getElem? (i := 1217) (by decide +kernel)), gm_X11_isDigit, by decide +kernel, by decide, by decide⟩
theorem mx_inv_ok_11_112 : mx_IV 11 112 (1, 1, mm_X11_isSign) := ⟨by decide, Or.inl (List.mem_of_getElem? (i := 1211) (by decide +kernel)), gm_X11_isSign, by decide +kernel, by decide, by decide⟩
theorem mx_inv_ok_11_121 : mx_IV 11 121 (0, 1, mm_X11_wrong) := ⟨by decide, Or.inl (List.mem_of_getElem? (i := 1224) (by decide +kernel)), gm_X11_wrong, by decide +kernel, by decide, by decide⟩
theorem mx_inv_ok_11_124 : mx_IV 11 124 (0, 0, mm_X11_next) := ⟨by decide, Or.inl (List.mem_of_getElem? (i := 1207) (by decide +kernel)), gm_X11_next, by decide +kernel, by decide, by decide⟩
theorem mx_inv_ok_11_127 : mx_IV 11 127 (0, 1, mm_X11_pass) := ⟨by decide, Or.inl (List.mem_of_getElem? (i := 1220) (by decide +kernel)), gm_X11_pass, by decide +kernel, by decide, by decide⟩
theorem mx_inv_ok_11_189 : mx_IV 11 189 (1, 2, mm_X11_kindOf) := ⟨by decide, Or.inl (List.mem_of_getElem? (i := 1241) (by decide +kernel)), gm_X11_kindOf, by decide +kernel, by decide, by decide⟩
theorem mx_inv_ok_11_203 : mx_IV 11 203 (0, 2, mm_X11_word) := ⟨by decide, Or.inl (List.mem_of_getElem? (i := 1283) (by decide +kernel)), gm_X11_word, by decide +kernel, by decide, by decide⟩
theorem mx_inv_ok_11_209 : mx_IV 11 209 (0, 0, mm_X11_number) := ⟨by decide, Or.inl (List.mem_of_getElem? (i := 1294) (by decide +kernel)), gm_X11_number, by decide +kernel, by decide, by decide⟩
theorem mx_inv_ok_11_215 : mx_IV 11 215 (0, 1, mm_X11_readWidth) := ⟨by decide, Or.inl (List.mem_of_getElem? (i := 1288) (by decide +kernel)), gm_X11_readWidth, by decide +kernel, by decide, by decide⟩
theorem mx_inv_ok_11_222 : mx_IV 11 222 (0, 7, mm_X11_make) := ⟨by decide, Or.inl (List.mem_of_getElem? (i := 1309) (by decide +kernel)), gm_X11_make, by decide +kernel, by decide, by decide⟩
theorem mx_inv_ok_11_234 : mx_IV 11 234 (0, 1, mm_X11_readIndexed) := ⟨by decide, Or.inl (List.mem_of_getElem? (i := 1329) (by decide +kernel)), gm_X11_readIndexed, by decide +kernel, by decide, by decide⟩
theorem mx_inv_ok_11_237 : mx_IV 11 237 (0, 0, mm_X11_isName) := ⟨by decide, Or.inl (List.mem_of_getElem? (i := 1237) (by decide +kernel)), gm_X11_isName, by decide +kernel, by decide, by decide⟩
theorem mx_inv_ok_11_241 : mx_IV 11 241 (0, 2, mm_X11_push) := ⟨by decide, Or.inl (List.mem_of_getElem? (i := 1337) (by decide +kernel)), gm_X11_push, by decide +kernel, by decide, by decide⟩
theorem mx_inv_ok_11_253 : mx_IV 11 253 (1, 1, mm_X11_parts) := ⟨by decide, Or.inl (List.mem_of_getElem? (i := 1354) (by decide +kernel)), gm_X11_parts, by decide +kernel, by decide, by decide⟩
theorem mx_inv_ok_11_256 : mx_IV 11 256 (0, 3, mm_X11_fits) := ⟨by decide, Or.inl (List.mem_of_getElem? (i := 1350) (by decide +kernel)), gm_X11_fits, by decide +kernel, by decide, by decide⟩
theorem mx_inv_ok_11_259 : mx_IV 11 259 (0, 1, mm_X11_build) := ⟨by decide, Or.inl (List.mem_of_getElem? (i := 1357) (by decide +kernel)), gm_X11_build, by decide +kernel, by decide, by decide⟩
theorem mx_inv_ok_11_268 : mx_IV 11 268 (0, 1, mm_X11_readHead) := ⟨by decide, Or.inl (List.mem_of_getElem? (i := 1325) (by decide +kernel)), gm_X11_readHead, by decide +kernel, by decide, by decide⟩
theorem mx_inv_ok_11_271 : mx_IV 11 271 (0, 0, mm_X11_atom) := ⟨by decide, Or.inl (List.mem_of_getElem? (i := 1341) (by decide +kernel)), gm_X11_atom, by decide +kernel, by decide, by decide⟩
theorem mx_inv_ok_11_274 : mx_IV 11 274 (0, 2, mm_X11_deliver) := ⟨by decide, Or.inl (List.mem_of_getElem? (i := 1346) (by decide +kernel)), gm_X11_deliver, by decide +kernel, by decide, by decide⟩
theorem mx_inv_ok_11_278 : mx_IV 11 278 (1, 1, mm_X11_bitsOf) := ⟨by decide, Or.inl (List.mem_of_getElem? (i := 1306) (by decide +kernel)), gm_X11_bitsOf, by decide +kernel, by decide, by decide⟩
theorem mx_inv_ok_11_281 : mx_IV 11 281 (0, 0, mm_X11_isConstant) := ⟨by decide, Or.inl (List.mem_of_getElem? (i := 1275) (by decide +kernel)), gm_X11_isConstant, by decide +kernel, by decide, by decide⟩
theorem mx_inv_ok_11_284 : mx_IV 11 284 (0, 0, mm_X11_readSort) := ⟨by decide, Or.inl (List.mem_of_getElem? (i := 1279) (by decide +kernel)), gm_X11_readSort, by decide +kernel, by decide, by decide⟩
theorem mx_inv_ok_11_287 : mx_IV 11 287 (0, 0, mm_X11_ends) := ⟨by decide, Or.inl (List.mem_of_getElem? (i := 1298) (by decide +kernel)), gm_X11_ends, by decide +kernel, by decide, by decide⟩
theorem mx_inv_ok_11_290 : mx_IV 11 290 (0, 0, mm_X11_allBits) := ⟨by decide, Or.inl (List.mem_of_getElem? (i := 1302) (by decide +kernel)), gm_X11_allBits, by decide +kernel, by decide, by decide⟩
theorem mx_inv_ok_11_296 : mx_IV 11 296 (0, 0, mm_X11_tooMany) := ⟨by decide, Or.inl (List.mem_of_getElem? (i := 1313) (by decide +kernel)), gm_X11_tooMany, by decide +kernel, by decide, by decide⟩
theorem mx_inv_ok_11_299 : mx_IV 11 299 (0, 0, mm_X11_readTerm) := ⟨by decide, Or.inl (List.mem_of_getElem? (i := 1321) (by decide +kernel)), gm_X11_readTerm, by decide +kernel, by decide, by decide⟩
theorem mx_inv_ok_11_314 : mx_IV 11 314 (0, 0, mm_X11_declare) := ⟨by decide, Or.inl (List.mem_of_getElem? (i := 1233) (by decide +kernel)), gm_X11_declare, by decide +kernel, by decide, by decide⟩
theorem mx_inv_ok_11_317 : mx_IV 11 317 (0, 0, mm_X11_claim) := ⟨by decide, Or.inl (List.mem_of_getElem? (i := 1317) (by decide +kernel)), gm_X11_claim, by decide +kernel, by decide, by decide⟩
theorem mx_inv_ok_11_320 : mx_IV 11 320 (0, 0, mm_X11_open) := ⟨by decide, Or.inl (List.mem_of_getElem? (i := 1361) (by decide +kernel)), gm_X11_open, by decide +kernel, by decide, by decide⟩
theorem mx_inv_ok_11_323 : mx_IV 11 323 (0, 0, mm_X11_shut) := ⟨by decide, Or.inl (List.mem_of_getElem? (i := 1365) (by decide +kernel)), gm_X11_shut, by decide +kernel, by decide, by decide⟩
theorem mx_inv_ok_11_329 : mx_IV 11 329 (0, 0, mm_X11_perform) := ⟨by decide, Or.inl (List.mem_of_getElem? (i := 1203) (by decide +kernel)), gm_X11_perform, by decide +kernel, by decide, by decide⟩
theorem mx_inv_ok_11_335 : mx_IV 11 335 (1, 2, mm_X11_sign) := ⟨by decide, Or.inl (List.mem_of_getElem? (i := 1384) (by decide +kernel)), gm_X11_sign, by decide +kernel, by decide, by decide⟩
theorem mx_inv_ok_11_338 : mx_IV 11 338 (1, 4, mm_X11_isTrue) := ⟨by decide, Or.inl (List.mem_of_getElem? (i := 1381) (by decide +kernel)), gm_X11_isTrue, by decide +kernel, by decide, by decide⟩
theorem mx_inv_ok_11_342 : mx_IV 11 342 (1, 4, mm_X11_onWords) := ⟨by decide, Or.inl (List.mem_of_getElem? (i := 1387) (by decide +kernel)), gm_X11_onWords, by decide +kernel, by decide, by decide⟩
theorem mx_inv_ok_11_346 : mx_IV 11 346 (0, 1, mm_X11_work) := ⟨by decide, Or.inl (List.mem_of_getElem? (i := 1377) (by decide +kernel)), gm_X11_work, by decide +kernel, by decide, by decide⟩
theorem mx_inv_ok_11_349 : mx_IV 11 349 (0, 0, mm_X11_workAll) := ⟨by decide, Or.inl (List.mem_of_getElem? (i := 1373) (by decide +kernel)), gm_X11_workAll, by decide +kernel, by decide, by decide⟩
theorem mx_inv_ok_11_352 : mx_IV 11 352 (0, 2, mm_X11_deal) := ⟨by decide, Or.inl (List.mem_of_getElem? (i := 1394) (by decide +kernel)), gm_X11_deal, by decide +kernel, by decide, by decide⟩
theorem mx_inv_ok_11_355 : mx_IV 11 355 (0, 1, mm_X11_least) := ⟨by decide, Or.inl (List.mem_of_getElem? (i := 1398) (by decide +kernel)), gm_X11_least, by decide +kernel, by decide, by decide⟩
set_option maxRecDepth 20000 in
theorem mx_inv_ok_11 : ∀ e ∈ mx_inv_11, mx_IV 11 e.1 e.2 := List.forall_mem_cons.mpr ⟨mx_inv_ok_11_84, List.forall_mem_cons.mpr ⟨mx_inv_ok_11_92, List.forall_mem_cons.mpr ⟨mx_inv_ok_11_96, List.forall_mem_cons.mpr ⟨mx_inv_ok_11_112, List.forall_mem_cons.mpr ⟨mx_inv_ok_11_121, List.forall_mem_cons.mpr ⟨mx_inv_ok_11_124, List.forall_mem_cons.mpr ⟨mx_inv_ok_11_127, List.forall_mem_cons.mpr ⟨mx_inv_ok_11_189, List.forall_mem_cons.mpr ⟨mx_inv_ok_11_203, List.forall_mem_cons.mpr ⟨mx_inv_ok_11_209, List.forall_mem_cons.mpr ⟨mx_inv_ok_11_215, List.forall_mem_cons.mpr ⟨mx_inv_ok_11_222, List.forall_mem_cons.mpr ⟨mx_inv_ok_11_234, List.forall_mem_cons.mpr ⟨mx_inv_ok_11_237, List.forall_mem_cons.mpr ⟨mx_inv_ok_11_241, List.forall_mem_cons.mpr ⟨mx_inv_ok_11_253, List.forall_mem_cons.mpr ⟨mx_inv_ok_11_256, List.forall_mem_cons.mpr ⟨mx_inv_ok_11_259, List.forall_mem_cons.mpr ⟨mx_inv_ok_11_268, List.forall_mem_cons.mpr ⟨mx_inv_ok_11_271, List.forall_mem_cons.mpr ⟨mx_inv_ok_11_274, List.forall_mem_cons.mpr ⟨mx_inv_ok_11_278, List.forall_mem_cons.mpr ⟨mx_inv_ok_11_281, List.forall_mem_cons.mpr ⟨mx_inv_ok_11_284, List.forall_mem_cons.mpr ⟨mx_inv_ok_11_287, List.forall_mem_cons.mpr ⟨mx_inv_ok_11_290, List.forall_mem_cons.mpr ⟨mx_inv_ok_11_296, List.forall_mem_cons.mpr ⟨mx_inv_ok_11_299, List.forall_mem_cons.mpr ⟨mx_inv_ok_11_314, List.forall_mem_cons.mpr ⟨mx_inv_ok_11_317, List.forall_mem_cons.mpr ⟨mx_inv_ok_11_320, List.forall_mem_cons.mpr ⟨mx_inv_ok_11_323, List.forall_mem_cons.mpr ⟨mx_inv_ok_11_329, List.forall_mem_cons.mpr ⟨mx_inv_ok_11_335, List.forall_mem_cons.mpr ⟨mx_inv_ok_11_338, List.forall_mem_cons.mpr ⟨mx_inv_ok_11_342, List.forall_mem_cons.mpr ⟨mx_inv_ok_11_346, List.forall_mem_cons.mpr ⟨mx_inv_ok_11_349, List.forall_mem_cons.mpr ⟨mx_inv_ok_11_352, List.forall_mem_cons.mpr ⟨mx_inv_ok_11_355, fun _ h => absurd h List.not_mem_nil⟩⟩⟩⟩⟩⟩⟩⟩⟩⟩⟩⟩⟩⟩⟩⟩⟩⟩⟩⟩⟩⟩⟩⟩⟩⟩⟩⟩⟩⟩⟩⟩⟩⟩⟩⟩⟩⟩⟩⟩
theorem mx_inv_ok {o ix : Nat} {v : _} (h : mx_inv o ix = some v) : mx_IV o ix v := by
  unfold mx_inv at h
  split at h
  · exact mx_inv_ok_1 _ (mx_lookup h)
  · exact mx_inv_ok_2 _ (mx_lookup h)
  · exact mx_inv_ok_3 _ (mx_lookup h)
  · exact mx_inv_ok_4 _ (mx_lookup h)
  · exact mx_inv_ok_6 _ (mx_lookup h)
  · exact mx_inv_ok_7 _ (mx_lookup h)
  · exact mx_inv_ok_8 _ (mx_lookup h)
  · exact mx_inv_ok_10 _ (mx_lookup h)
  · exact mx_inv_ok_11 _ (mx_lookup h)
  · cases h
theorem mx_ldc_ok_6_63 : Cond.constant (mx_cn 6) 63 (1000000) ∈ lw_tbl := List.mem_of_getElem? (i := 968) (by decide +kernel)
set_option maxRecDepth 20000 in
theorem mx_ldc_ok_6 : ∀ e ∈ mx_ldc_6, Cond.constant (mx_cn 6) e.1 e.2 ∈ lw_tbl := List.forall_mem_cons.mpr ⟨mx_ldc_ok_6_63, fun _ h => absurd h List.not_mem_nil⟩
theorem mx_ldc_ok {o ix : Nat} {v : _} (h : mx_ldc o ix = some v) : Cond.constant (mx_cn o) ix v ∈ lw_tbl := by
  unfold mx_ldc at h
  split at h
  · exact mx_ldc_ok_6 _ (mx_lookup h)
  · cases h
theorem mx_ldc2_ok_11_131 : Cond.constantLong (mx_cn 11) 131 (7630702) ∈ lw_tbl := List.mem_of_getElem? (i := 1244) (by decide +kernel)
theorem mx_ldc2_ok_11_133 : Cond.constantLong (mx_cn 11) 133 (6581857) ∈ lw_tbl := List.mem_of_getElem? (i := 1245) (by decide +kernel)
theorem mx_ldc2_ok_11_135 : Cond.constantLong (mx_cn 11) 135 (29295) ∈ lw_tbl := List.mem_of_getElem? (i := 1246) (by decide +kernel)
theorem mx_ldc2_ok_11_137 : Cond.constantLong (mx_cn 11) 137 (7499640) ∈ lw_tbl := List.mem_of_getElem? (i := 1247) (by decide +kernel)
theorem mx_ldc2_ok_11_139 : Cond.constantLong (mx_cn 11) 139 (15933) ∈ lw_tbl := List.mem_of_getElem? (i := 1248) (by decide +kernel)
theorem mx_ldc2_ok_11_141 : Cond.constantLong (mx_cn 11) 141 (61) ∈ lw_tbl := List.mem_of_getElem? (i := 1249) (by decide +kernel)
theorem mx_ldc2_ok_11_143 : Cond.constantLong (mx_cn 11) 143 (8386668330298337636) ∈ lw_tbl := List.mem_of_getElem? (i := 1250) (by decide +kernel)
theorem mx_ldc2_ok_11_145 : Cond.constantLong (mx_cn 11) 145 (6648937) ∈ lw_tbl := List.mem_of_getElem? (i := 1251) (by decide +kernel)
theorem mx_ldc2_ok_11_147 : Cond.constantLong (mx_cn 11) 147 (500085716578) ∈ lw_tbl := List.mem_of_getElem? (i := 1252) (by decide +kernel)
theorem mx_ldc2_ok_11_149 : Cond.constantLong (mx_cn 11) 149 (444083369570) ∈ lw_tbl := List.mem_of_getElem? (i := 1253) (by decide +kernel)
theorem mx_ldc2_ok_11_151 : Cond.constantLong (mx_cn 11) 151 (431348610658) ∈ lw_tbl := List.mem_of_getElem? (i := 1254) (by decide +kernel)
theorem mx_ldc2_ok_11_153 : Cond.constantLong (mx_cn 11) 153 (1919907426) ∈ lw_tbl := List.mem_of_getElem? (i := 1255) (by decide +kernel)
theorem mx_ldc2_ok_11_155 : Cond.constantLong (mx_cn 11) 155 (491496437346) ∈ lw_tbl := List.mem_of_getElem? (i := 1256) (by decide +kernel)
theorem mx_ldc2_ok_11_157 : Cond.constantLong (mx_cn 11) 157 (431180838498) ∈ lw_tbl := List.mem_of_getElem? (i := 1257) (by decide +kernel)
theorem mx_ldc2_ok_11_159 : Cond.constantLong (mx_cn 11) 159 (422877296226) ∈ lw_tbl := List.mem_of_getElem? (i := 1258) (by decide +kernel)
theorem mx_ldc2_ok_11_161 : Cond.constantLong (mx_cn 11) 161 (465826575970) ∈ lw_tbl := List.mem_of_getElem? (i := 1259) (by decide +kernel)
theorem mx_ldc2_ok_11_163 : Cond.constantLong (mx_cn 11) 163 (130195029063266) ∈ lw_tbl := List.mem_of_getElem? (i := 1260) (by decide +kernel)
theorem mx_ldc2_ok_11_165 : Cond.constantLong (mx_cn 11) 165 (120282479425122) ∈ lw_tbl := List.mem_of_getElem? (i := 1261) (by decide +kernel)
theorem mx_ldc2_ok_11_167 : Cond.constantLong (mx_cn 11) 167 (465608865378) ∈ lw_tbl := List.mem_of_getElem? (i := 1262) (by decide +kernel)
theorem mx_ldc2_ok_11_169 : Cond.constantLong (mx_cn 11) 169 (125792938653282) ∈ lw_tbl := List.mem_of_getElem? (i := 1263) (by decide +kernel)
theorem mx_ldc2_ok_11_171 : Cond.constantLong (mx_cn 11) 171 (125792937932386) ∈ lw_tbl := List.mem_of_getElem? (i := 1264) (by decide +kernel)
theorem mx_ldc2_ok_11_173 : Cond.constantLong (mx_cn 11) 173 (500035843682) ∈ lw_tbl := List.mem_of_getElem? (i := 1265) (by decide +kernel)
theorem mx_ldc2_ok_11_175 : Cond.constantLong (mx_cn 11) 175 (435611334242) ∈ lw_tbl := List.mem_of_getElem? (i := 1266) (by decide +kernel)
theorem mx_ldc2_ok_11_177 : Cond.constantLong (mx_cn 11) 177 (500035712610) ∈ lw_tbl := List.mem_of_getElem? (i := 1267) (by decide +kernel)
theorem mx_ldc2_ok_11_179 : Cond.constantLong (mx_cn 11) 179 (435611203170) ∈ lw_tbl := List.mem_of_getElem? (i := 1268) (by decide +kernel)
theorem mx_ldc2_ok_11_181 : Cond.constantLong (mx_cn 11) 181 (127961628831587) ∈ lw_tbl := List.mem_of_getElem? (i := 1269) (by decide +kernel)
theorem mx_ldc2_ok_11_183 : Cond.constantLong (mx_cn 11) 183 (127970252186995) ∈ lw_tbl := List.mem_of_getElem? (i := 1270) (by decide +kernel)
theorem mx_ldc2_ok_11_185 : Cond.constantLong (mx_cn 11) 185 (435711603827) ∈ lw_tbl := List.mem_of_getElem? (i := 1271) (by decide +kernel)
theorem mx_ldc2_ok_11_187 : Cond.constantLong (mx_cn 11) 187 (7628140) ∈ lw_tbl := List.mem_of_getElem? (i := 1272) (by decide +kernel)
theorem mx_ldc2_ok_11_193 : Cond.constantLong (mx_cn 11) 193 (1819242306) ∈ lw_tbl := List.mem_of_getElem? (i := 1273) (by decide +kernel)
theorem mx_ldc2_ok_11_195 : Cond.constantLong (mx_cn 11) 195 (1752397168) ∈ lw_tbl := List.mem_of_getElem? (i := 1231) (by decide +kernel)
theorem mx_ldc2_ok_11_197 : Cond.constantLong (mx_cn 11) 197 (7368560) ∈ lw_tbl := List.mem_of_getElem? (i := 1232) (by decide +kernel)
theorem mx_ldc2_ok_11_199 : Cond.constantLong (mx_cn 11) 199 (1702195828) ∈ lw_tbl := List.mem_of_getElem? (i := 1274) (by decide +kernel)
theorem mx_ldc2_ok_11_201 : Cond.constantLong (mx_cn 11) 201 (95) ∈ lw_tbl := List.mem_of_getElem? (i := 1292) (by decide +kernel)
theorem mx_ldc2_ok_11_207 : Cond.constantLong (mx_cn 11) 207 (109286893316418) ∈ lw_tbl := List.mem_of_getElem? (i := 1293) (by decide +kernel)
theorem mx_ldc2_ok_11_213 : Cond.constantLong (mx_cn 11) 213 (521325933121) ∈ lw_tbl := List.mem_of_getElem? (i := 1287) (by decide +kernel)
theorem mx_ldc2_ok_11_226 : Cond.constantLong (mx_cn 11) 226 (435728179558) ∈ lw_tbl := List.mem_of_getElem? (i := 1345) (by decide +kernel)
theorem mx_ldc2_ok_11_245 : Cond.constantLong (mx_cn 11) 245 (32760367481649253) ∈ lw_tbl := List.mem_of_getElem? (i := 1333) (by decide +kernel)
theorem mx_ldc2_ok_11_247 : Cond.constantLong (mx_cn 11) 247 (8392569366170985850) ∈ lw_tbl := List.mem_of_getElem? (i := 1334) (by decide +kernel)
theorem mx_ldc2_ok_11_249 : Cond.constantLong (mx_cn 11) 249 (6581861) ∈ lw_tbl := List.mem_of_getElem? (i := 1335) (by decide +kernel)
theorem mx_ldc2_ok_11_251 : Cond.constantLong (mx_cn 11) 251 (8392569366153488755) ∈ lw_tbl := List.mem_of_getElem? (i := 1336) (by decide +kernel)
theorem mx_ldc2_ok_11_308 : Cond.constantLong (mx_cn 11) 308 (3271146467110380900) ∈ lw_tbl := List.mem_of_getElem? (i := 1228) (by decide +kernel)
theorem mx_ldc2_ok_11_310 : Cond.constantLong (mx_cn 11) 310 (500152823651) ∈ lw_tbl := List.mem_of_getElem? (i := 1229) (by decide +kernel)
theorem mx_ldc2_ok_11_312 : Cond.constantLong (mx_cn 11) 312 (128034677158753) ∈ lw_tbl := List.mem_of_getElem? (i := 1230) (by decide +kernel)
set_option maxRecDepth 20000 in
theorem mx_ldc2_ok_11 : ∀ e ∈ mx_ldc2_11, Cond.constantLong (mx_cn 11) e.1 e.2 ∈ lw_tbl := List.forall_mem_cons.mpr ⟨mx_ldc2_ok_11_131, List.forall_mem_cons.mpr ⟨mx_ldc2_ok_11_133, List.forall_mem_cons.mpr ⟨mx_ldc2_ok_11_135, List.forall_mem_cons.mpr ⟨mx_ldc2_ok_11_137, List.forall_mem_cons.mpr ⟨mx_ldc2_ok_11_139, List.forall_mem_cons.mpr ⟨mx_ldc2_ok_11_141, List.forall_mem_cons.mpr ⟨mx_ldc2_ok_11_143, List.forall_mem_cons.mpr ⟨mx_ldc2_ok_11_145, List.forall_mem_cons.mpr ⟨mx_ldc2_ok_11_147, List.forall_mem_cons.mpr ⟨mx_ldc2_ok_11_149, List.forall_mem_cons.mpr ⟨mx_ldc2_ok_11_151, List.forall_mem_cons.mpr ⟨mx_ldc2_ok_11_153, List.forall_mem_cons.mpr ⟨mx_ldc2_ok_11_155, List.forall_mem_cons.mpr ⟨mx_ldc2_ok_11_157, List.forall_mem_cons.mpr ⟨mx_ldc2_ok_11_159, List.forall_mem_cons.mpr ⟨mx_ldc2_ok_11_161, List.forall_mem_cons.mpr ⟨mx_ldc2_ok_11_163, List.forall_mem_cons.mpr ⟨mx_ldc2_ok_11_165, List.forall_mem_cons.mpr ⟨mx_ldc2_ok_11_167, List.forall_mem_cons.mpr ⟨mx_ldc2_ok_11_169, List.forall_mem_cons.mpr ⟨mx_ldc2_ok_11_171, List.forall_mem_cons.mpr ⟨mx_ldc2_ok_11_173, List.forall_mem_cons.mpr ⟨mx_ldc2_ok_11_175, List.forall_mem_cons.mpr ⟨mx_ldc2_ok_11_177, List.forall_mem_cons.mpr ⟨mx_ldc2_ok_11_179, List.forall_mem_cons.mpr ⟨mx_ldc2_ok_11_181, List.forall_mem_cons.mpr ⟨mx_ldc2_ok_11_183, List.forall_mem_cons.mpr ⟨mx_ldc2_ok_11_185, List.forall_mem_cons.mpr ⟨mx_ldc2_ok_11_187, List.forall_mem_cons.mpr ⟨mx_ldc2_ok_11_193, List.forall_mem_cons.mpr ⟨mx_ldc2_ok_11_195, List.forall_mem_cons.mpr ⟨mx_ldc2_ok_11_197, List.forall_mem_cons.mpr ⟨mx_ldc2_ok_11_199, List.forall_mem_cons.mpr ⟨mx_ldc2_ok_11_201, List.forall_mem_cons.mpr ⟨mx_ldc2_ok_11_207, List.forall_mem_cons.mpr ⟨mx_ldc2_ok_11_213, List.forall_mem_cons.mpr ⟨mx_ldc2_ok_11_226, List.forall_mem_cons.mpr ⟨mx_ldc2_ok_11_245, List.forall_mem_cons.mpr ⟨mx_ldc2_ok_11_247, List.forall_mem_cons.mpr ⟨mx_ldc2_ok_11_249, List.forall_mem_cons.mpr ⟨mx_ldc2_ok_11_251, List.forall_mem_cons.mpr ⟨mx_ldc2_ok_11_308, List.forall_mem_cons.mpr ⟨mx_ldc2_ok_11_310, List.forall_mem_cons.mpr ⟨mx_ldc2_ok_11_312, fun _ h => absurd h List.not_mem_nil⟩⟩⟩⟩⟩⟩⟩⟩⟩⟩⟩⟩⟩⟩⟩⟩⟩⟩⟩⟩⟩⟩⟩⟩⟩⟩⟩⟩⟩⟩⟩⟩⟩⟩⟩⟩⟩⟩⟩⟩⟩⟩⟩⟩
theorem mx_ldc2_ok {o ix : Nat} {v : _} (h : mx_ldc2 o ix = some v) : Cond.constantLong (mx_cn o) ix v ∈ lw_tbl := by
  unfold mx_ldc2 at h
  split at h
  · exact mx_ldc2_ok_11 _ (mx_lookup h)
  · cases h
