def mx_cn (o : Nat) : String := match o with
  | 0 => RX0
  | 1 => RX1
  | 2 => RX2
  | 3 => RX3
  | 4 => RX4
  | 5 => RX5
  | 6 => RX6
  | 7 => RX7
  | 8 => RX8
  | 9 => RX9
  | 10 => RX10
  | 11 => RX11
  | 12 => RL
  | 21 => RJx29ce0
  | 22 => RJ0
  | 23 => RJ1
  | 24 => RJ3
  | _ => RJ9
def mx_fnm (ci k : Nat) : String × String × String := if ci = 99 then (match k with
  | 0 => (RX9, "spelling", "Ljava/lang/String;")
  | 1 => (RX9, "shape", "I")
  | _ => (RX9, "parts", "I")) else match vwCl[ci]? with
  | some (_, T, _) => ((T k).1, (T k).2.1, (T k).2.2.1)
  | none => ("", "", "")
def mx_snm (a : Nat) : String × String × String := if a = 2000 then (RX10, "ALL_WORDS", "[LTermSolver$Word;") else if a = 2001 then (RX0, "$SwitchMap$TermSolver$Word", "[I") else (RX9, mx_wn.getD (a - 1000) "", "LTermSolver$Word;")
def mx_LF (o ix : Nat) (q : String × String × String) : Prop := Cond.fieldLink (mx_cn o) ix q.1 q.2.1 q.2.2 ∈ lw_tbl ∨ ∃ host, Cond.fieldLinkNest (mx_cn o) ix q.1 q.2.1 q.2.2 host ∈ lw_tbl
def mx_LM (o ix : Nat) (y : MethodName) : Prop := Cond.methodLink (mx_cn o) ix y ∈ lw_tbl ∨ ∃ host, Cond.methodLinkNest (mx_cn o) ix y host ∈ lw_tbl
/-- a method that can be called: its words stand in the tables -/
def mx_gm (y : mx_M) (stat : Bool) : Prop := (plainName y.2.2.2.1.cls = true ∧ y.2.2.2.1.cls ≠ "java/lang/invoke/MethodHandle" ∧ y.2.2.2.1.cls ≠ "java/lang/invoke/VarHandle" ∧ y.2.2.2.2.2.1 ≤ 40 ∧ y.2.2.2.1.cls = mx_cn y.2.2.1) ∧ Cond.code y.2.2.2.1 y.2.2.2.2.1 y.2.2.2.2.2.1 y.2.2.2.2.2.2 ∈ lw_tbl ∧ Cond.initialized y.2.2.2.1.cls ∈ lw_tbl ∧ (match stat with
  | true => Cond.static y.2.2.2.1 ∈ lw_tbl
  | false => Cond.instanceMethod y.2.2.2.1 ∈ lw_tbl ∧ Cond.selects y.2.2.2.1.cls y.2.2.2.1 y.2.2.2.1 ∈ lw_tbl)
def mx_IV (o ix : Nat) (q : Nat × Nat × mx_M) : Prop := match q.1 with
  | 10 => Cond.methodLink (mx_cn o) ix ⟨RX9, "ordinal", "()I"⟩ ∈ lw_tbl
  | 11 => Cond.methodLink (mx_cn o) ix yJ0_length_8abf5 ∈ lw_tbl
  | 12 => Cond.methodLink (mx_cn o) ix yJ0_charAt_5068e ∈ lw_tbl
  | 13 => Cond.methodLink (mx_cn o) ix yJ9_min_7cf53 ∈ lw_tbl
  | k => k < 3 ∧ mx_LM o ix q.2.2.2.2.2.1 ∧ mx_gm q.2.2 (k == 1) ∧ (parseMethodDescriptor q.2.2.2.2.2.1.desc).map (fun d => d.parameters.length) = some q.2.1 ∧ (k = 2 → q.2.2.2.2.1 = 9) ∧ (k = 0 → mx_ci q.2.2.2.2.1 < 10)
set_option maxRecDepth 20000 in
theorem gm_X1_bitOf : mx_gm mm_X1_bitOf false := ⟨⟨by decide +kernel, by decide +kernel, by decide +kernel, by decide, rfl⟩, List.mem_of_getElem? (i := 776) rfl, List.mem_of_getElem? (i := 99) (by decide +kernel), List.mem_of_getElem? (i := 774) (by decide +kernel), List.mem_of_getElem? (i := 775) (by decide +kernel)⟩
set_option maxRecDepth 20000 in
theorem gm_X1_set : mx_gm mm_X1_set false := ⟨⟨by decide +kernel, by decide +kernel, by decide +kernel, by decide, rfl⟩, List.mem_of_getElem? (i := 803) rfl, List.mem_of_getElem? (i := 99) (by decide +kernel), List.mem_of_getElem? (i := 802) (by decide +kernel), List.mem_of_getElem? (i := 28) (by decide +kernel)⟩
set_option maxRecDepth 20000 in
theorem gm_X1_grow : mx_gm mm_X1_grow false := ⟨⟨by decide +kernel, by decide +kernel, by decide +kernel, by decide, rfl⟩, List.mem_of_getElem? (i := 760) rfl, List.mem_of_getElem? (i := 99) (by decide +kernel), List.mem_of_getElem? (i := 758) (by decide +kernel), List.mem_of_getElem? (i := 759) (by decide +kernel)⟩
set_option maxRecDepth 20000 in
theorem gm_X1_widthOf : mx_gm mm_X1_widthOf false := ⟨⟨by decide +kernel, by decide +kernel, by decide +kernel, by decide, rfl⟩, List.mem_of_getElem? (i := 813) rfl, List.mem_of_getElem? (i := 99) (by decide +kernel), List.mem_of_getElem? (i := 812) (by decide +kernel), List.mem_of_getElem? (i := 30) (by decide +kernel)⟩
set_option maxRecDepth 20000 in
theorem gm_X1_begin : mx_gm mm_X1_begin false := ⟨⟨by decide +kernel, by decide +kernel, by decide +kernel, by decide, rfl⟩, List.mem_of_getElem? (i := 897) rfl, List.mem_of_getElem? (i := 99) (by decide +kernel), List.mem_of_getElem? (i := 896) (by decide +kernel), List.mem_of_getElem? (i := 43) (by decide +kernel)⟩
set_option maxRecDepth 20000 in
theorem gm_X1_logic : mx_gm mm_X1_logic false := ⟨⟨by decide +kernel, by decide +kernel, by decide +kernel, by decide, rfl⟩, List.mem_of_getElem? (i := 780) rfl, List.mem_of_getElem? (i := 99) (by decide +kernel), List.mem_of_getElem? (i := 779) (by decide +kernel), List.mem_of_getElem? (i := 26) (by decide +kernel)⟩
set_option maxRecDepth 20000 in
theorem gm_X1_equal : mx_gm mm_X1_equal false := ⟨⟨by decide +kernel, by decide +kernel, by decide +kernel, by decide, rfl⟩, List.mem_of_getElem? (i := 809) rfl, List.mem_of_getElem? (i := 99) (by decide +kernel), List.mem_of_getElem? (i := 808) (by decide +kernel), List.mem_of_getElem? (i := 29) (by decide +kernel)⟩
set_option maxRecDepth 20000 in
theorem gm_X1_choose : mx_gm mm_X1_choose false := ⟨⟨by decide +kernel, by decide +kernel, by decide +kernel, by decide, rfl⟩, List.mem_of_getElem? (i := 819) rfl, List.mem_of_getElem? (i := 99) (by decide +kernel), List.mem_of_getElem? (i := 818) (by decide +kernel), List.mem_of_getElem? (i := 31) (by decide +kernel)⟩
set_option maxRecDepth 20000 in
theorem gm_X1_less : mx_gm mm_X1_less false := ⟨⟨by decide +kernel, by decide +kernel, by decide +kernel, by decide, rfl⟩, List.mem_of_getElem? (i := 868) rfl, List.mem_of_getElem? (i := 99) (by decide +kernel), List.mem_of_getElem? (i := 867) (by decide +kernel), List.mem_of_getElem? (i := 40) (by decide +kernel)⟩
set_option maxRecDepth 20000 in
theorem gm_X1_place : mx_gm mm_X1_place false := ⟨⟨by decide +kernel, by decide +kernel, by decide +kernel, by decide, rfl⟩, List.mem_of_getElem? (i := 878) rfl, List.mem_of_getElem? (i := 99) (by decide +kernel), List.mem_of_getElem? (i := 877) (by decide +kernel), List.mem_of_getElem? (i := 41) (by decide +kernel)⟩
set_option maxRecDepth 20000 in
theorem gm_X1_reach : mx_gm mm_X1_reach false := ⟨⟨by decide +kernel, by decide +kernel, by decide +kernel, by decide, rfl⟩, List.mem_of_getElem? (i := 891) rfl, List.mem_of_getElem? (i := 99) (by decide +kernel), List.mem_of_getElem? (i := 890) (by decide +kernel), List.mem_of_getElem? (i := 42) (by decide +kernel)⟩
set_option maxRecDepth 20000 in
theorem gm_X1_calculate : mx_gm mm_X1_calculate false := ⟨⟨by decide +kernel, by decide +kernel, by decide +kernel, by decide, rfl⟩, List.mem_of_getElem? (i := 827) rfl, List.mem_of_getElem? (i := 99) (by decide +kernel), List.mem_of_getElem? (i := 826) (by decide +kernel), List.mem_of_getElem? (i := 32) (by decide +kernel)⟩
set_option maxRecDepth 20000 in
theorem gm_X1_mix : mx_gm mm_X1_mix false := ⟨⟨by decide +kernel, by decide +kernel, by decide +kernel, by decide, rfl⟩, List.mem_of_getElem? (i := 864) rfl, List.mem_of_getElem? (i := 99) (by decide +kernel), List.mem_of_getElem? (i := 863) (by decide +kernel), List.mem_of_getElem? (i := 39) (by decide +kernel)⟩
set_option maxRecDepth 20000 in
theorem gm_X1_loadLeft : mx_gm mm_X1_loadLeft false := ⟨⟨by decide +kernel, by decide +kernel, by decide +kernel, by decide, rfl⟩, List.mem_of_getElem? (i := 834) rfl, List.mem_of_getElem? (i := 99) (by decide +kernel), List.mem_of_getElem? (i := 833) (by decide +kernel), List.mem_of_getElem? (i := 33) (by decide +kernel)⟩
set_option maxRecDepth 20000 in
theorem gm_X1_loadRight : mx_gm mm_X1_loadRight false := ⟨⟨by decide +kernel, by decide +kernel, by decide +kernel, by decide, rfl⟩, List.mem_of_getElem? (i := 838) rfl, List.mem_of_getElem? (i := 99) (by decide +kernel), List.mem_of_getElem? (i := 837) (by decide +kernel), List.mem_of_getElem? (i := 34) (by decide +kernel)⟩
set_option maxRecDepth 20000 in
theorem gm_X1_add : mx_gm mm_X1_add false := ⟨⟨by decide +kernel, by decide +kernel, by decide +kernel, by decide, rfl⟩, List.mem_of_getElem? (i := 842) rfl, List.mem_of_getElem? (i := 99) (by decide +kernel), List.mem_of_getElem? (i := 841) (by decide +kernel), List.mem_of_getElem? (i := 35) (by decide +kernel)⟩
set_option maxRecDepth 20000 in
theorem gm_X1_multiply : mx_gm mm_X1_multiply false := ⟨⟨by decide +kernel, by decide +kernel, by decide +kernel, by decide, rfl⟩, List.mem_of_getElem? (i := 846) rfl, List.mem_of_getElem? (i := 99) (by decide +kernel), List.mem_of_getElem? (i := 845) (by decide +kernel), List.mem_of_getElem? (i := 36) (by decide +kernel)⟩
set_option maxRecDepth 20000 in
theorem gm_X1_divide : mx_gm mm_X1_divide false := ⟨⟨by decide +kernel, by decide +kernel, by decide +kernel, by decide, rfl⟩, List.mem_of_getElem? (i := 850) rfl, List.mem_of_getElem? (i := 99) (by decide +kernel), List.mem_of_getElem? (i := 849) (by decide +kernel), List.mem_of_getElem? (i := 37) (by decide +kernel)⟩
set_option maxRecDepth 20000 in
theorem gm_X1_shift : mx_gm mm_X1_shift false := ⟨⟨by decide +kernel, by decide +kernel, by decide +kernel, by decide, rfl⟩, List.mem_of_getElem? (i := 856) rfl, List.mem_of_getElem? (i := 99) (by decide +kernel), List.mem_of_getElem? (i := 855) (by decide +kernel), List.mem_of_getElem? (i := 38) (by decide +kernel)⟩
set_option maxRecDepth 20000 in
theorem gm_X2_clear : mx_gm mm_X2_clear false := ⟨⟨by decide +kernel, by decide +kernel, by decide +kernel, by decide, rfl⟩, List.mem_of_getElem? (i := 935) rfl, List.mem_of_getElem? (i := 101) (by decide +kernel), List.mem_of_getElem? (i := 933) (by decide +kernel), List.mem_of_getElem? (i := 934) (by decide +kernel)⟩
set_option maxRecDepth 20000 in
theorem gm_X2_tell : mx_gm mm_X2_tell false := ⟨⟨by decide +kernel, by decide +kernel, by decide +kernel, by decide, rfl⟩, List.mem_of_getElem? (i := 951) rfl, List.mem_of_getElem? (i := 101) (by decide +kernel), List.mem_of_getElem? (i := 949) (by decide +kernel), List.mem_of_getElem? (i := 950) (by decide +kernel)⟩
set_option maxRecDepth 20000 in
theorem gm_X2_add : mx_gm mm_X2_add false := ⟨⟨by decide +kernel, by decide +kernel, by decide +kernel, by decide, rfl⟩, List.mem_of_getElem? (i := 955) rfl, List.mem_of_getElem? (i := 101) (by decide +kernel), List.mem_of_getElem? (i := 954) (by decide +kernel), List.mem_of_getElem? (i := 50) (by decide +kernel)⟩
set_option maxRecDepth 20000 in
theorem gm_X2_gather : mx_gm mm_X2_gather false := ⟨⟨by decide +kernel, by decide +kernel, by decide +kernel, by decide, rfl⟩, List.mem_of_getElem? (i := 959) rfl, List.mem_of_getElem? (i := 101) (by decide +kernel), List.mem_of_getElem? (i := 957) (by decide +kernel), List.mem_of_getElem? (i := 958) (by decide +kernel)⟩
set_option maxRecDepth 20000 in
theorem gm_X2_finish : mx_gm mm_X2_finish false := ⟨⟨by decide +kernel, by decide +kernel, by decide +kernel, by decide, rfl⟩, List.mem_of_getElem? (i := 963) rfl, List.mem_of_getElem? (i := 101) (by decide +kernel), List.mem_of_getElem? (i := 961) (by decide +kernel), List.mem_of_getElem? (i := 962) (by decide +kernel)⟩
set_option maxRecDepth 20000 in
theorem gm_X2_watched : mx_gm mm_X2_watched false := ⟨⟨by decide +kernel, by decide +kernel, by decide +kernel, by decide, rfl⟩, List.mem_of_getElem? (i := 980) rfl, List.mem_of_getElem? (i := 101) (by decide +kernel), List.mem_of_getElem? (i := 978) (by decide +kernel), List.mem_of_getElem? (i := 979) (by decide +kernel)⟩
set_option maxRecDepth 20000 in
theorem gm_X2_watch : mx_gm mm_X2_watch false := ⟨⟨by decide +kernel, by decide +kernel, by decide +kernel, by decide, rfl⟩, List.mem_of_getElem? (i := 967) rfl, List.mem_of_getElem? (i := 101) (by decide +kernel), List.mem_of_getElem? (i := 965) (by decide +kernel), List.mem_of_getElem? (i := 966) (by decide +kernel)⟩
set_option maxRecDepth 20000 in
theorem gm_X2_exchange : mx_gm mm_X2_exchange false := ⟨⟨by decide +kernel, by decide +kernel, by decide +kernel, by decide, rfl⟩, List.mem_of_getElem? (i := 988) rfl, List.mem_of_getElem? (i := 101) (by decide +kernel), List.mem_of_getElem? (i := 986) (by decide +kernel), List.mem_of_getElem? (i := 987) (by decide +kernel)⟩
set_option maxRecDepth 20000 in
theorem gm_X3_and : mx_gm mm_X3_and false := ⟨⟨by decide +kernel, by decide +kernel, by decide +kernel, by decide, rfl⟩, List.mem_of_getElem? (i := 786) rfl, List.mem_of_getElem? (i := 98) (by decide +kernel), List.mem_of_getElem? (i := 784) (by decide +kernel), List.mem_of_getElem? (i := 785) (by decide +kernel)⟩
set_option maxRecDepth 20000 in
theorem gm_X3_or : mx_gm mm_X3_or false := ⟨⟨by decide +kernel, by decide +kernel, by decide +kernel, by decide, rfl⟩, List.mem_of_getElem? (i := 794) rfl, List.mem_of_getElem? (i := 98) (by decide +kernel), List.mem_of_getElem? (i := 792) (by decide +kernel), List.mem_of_getElem? (i := 793) (by decide +kernel)⟩
set_option maxRecDepth 20000 in
theorem gm_X3_xor : mx_gm mm_X3_xor false := ⟨⟨by decide +kernel, by decide +kernel, by decide +kernel, by decide, rfl⟩, List.mem_of_getElem? (i := 799) rfl, List.mem_of_getElem? (i := 98) (by decide +kernel), List.mem_of_getElem? (i := 797) (by decide +kernel), List.mem_of_getElem? (i := 798) (by decide +kernel)⟩
set_option maxRecDepth 20000 in
theorem gm_X3_mux : mx_gm mm_X3_mux false := ⟨⟨by decide +kernel, by decide +kernel, by decide +kernel, by decide, rfl⟩, List.mem_of_getElem? (i := 823) rfl, List.mem_of_getElem? (i := 98) (by decide +kernel), List.mem_of_getElem? (i := 821) (by decide +kernel), List.mem_of_getElem? (i := 822) (by decide +kernel)⟩
set_option maxRecDepth 20000 in
theorem gm_X3_put : mx_gm mm_X3_put false := ⟨⟨by decide +kernel, by decide +kernel, by decide +kernel, by decide, rfl⟩, List.mem_of_getElem? (i := 790) rfl, List.mem_of_getElem? (i := 98) (by decide +kernel), List.mem_of_getElem? (i := 789) (by decide +kernel), List.mem_of_getElem? (i := 27) (by decide +kernel)⟩
set_option maxRecDepth 20000 in
theorem gm_X3_simulate : mx_gm mm_X3_simulate false := ⟨⟨by decide +kernel, by decide +kernel, by decide +kernel, by decide, rfl⟩, List.mem_of_getElem? (i := 1044) rfl, List.mem_of_getElem? (i := 98) (by decide +kernel), List.mem_of_getElem? (i := 1042) (by decide +kernel), List.mem_of_getElem? (i := 1043) (by decide +kernel)⟩
set_option maxRecDepth 20000 in
theorem gm_X3_simulateGate : mx_gm mm_X3_simulateGate false := ⟨⟨by decide +kernel, by decide +kernel, by decide +kernel, by decide, rfl⟩, List.mem_of_getElem? (i := 1048) rfl, List.mem_of_getElem? (i := 98) (by decide +kernel), List.mem_of_getElem? (i := 1047) (by decide +kernel), List.mem_of_getElem? (i := 60) (by decide +kernel)⟩
set_option maxRecDepth 20000 in
theorem gm_X3_valueOf : mx_gm mm_X3_valueOf false := ⟨⟨by decide +kernel, by decide +kernel, by decide +kernel, by decide, rfl⟩, List.mem_of_getElem? (i := 1052) rfl, List.mem_of_getElem? (i := 98) (by decide +kernel), List.mem_of_getElem? (i := 1051) (by decide +kernel), List.mem_of_getElem? (i := 61) (by decide +kernel)⟩
set_option maxRecDepth 20000 in
theorem gm_X4_read : mx_gm mm_X4_read false := ⟨⟨by decide +kernel, by decide +kernel, by decide +kernel, by decide, rfl⟩, List.mem_of_getElem? (i := 524) rfl, List.mem_of_getElem? (i := 97) (by decide +kernel), List.mem_of_getElem? (i := 522) (by decide +kernel), List.mem_of_getElem? (i := 523) (by decide +kernel)⟩
set_option maxRecDepth 20000 in
theorem gm_X4_readBehind : mx_gm mm_X4_readBehind false := ⟨⟨by decide +kernel, by decide +kernel, by decide +kernel, by decide, rfl⟩, List.mem_of_getElem? (i := 548) rfl, List.mem_of_getElem? (i := 97) (by decide +kernel), List.mem_of_getElem? (i := 547) (by decide +kernel), List.mem_of_getElem? (i := 6) (by decide +kernel)⟩
set_option maxRecDepth 20000 in
theorem gm_X4_failAt : mx_gm mm_X4_failAt false := ⟨⟨by decide +kernel, by decide +kernel, by decide +kernel, by decide, rfl⟩, List.mem_of_getElem? (i := 536) rfl, List.mem_of_getElem? (i := 97) (by decide +kernel), List.mem_of_getElem? (i := 535) (by decide +kernel), List.mem_of_getElem? (i := 4) (by decide +kernel)⟩
set_option maxRecDepth 20000 in
theorem gm_X4_noTermAt : mx_gm mm_X4_noTermAt false := ⟨⟨by decide +kernel, by decide +kernel, by decide +kernel, by decide, rfl⟩, List.mem_of_getElem? (i := 604) rfl, List.mem_of_getElem? (i := 97) (by decide +kernel), List.mem_of_getElem? (i := 603) (by decide +kernel), List.mem_of_getElem? (i := 13) (by decide +kernel)⟩
set_option maxRecDepth 20000 in
theorem gm_X4_bracket : mx_gm mm_X4_bracket false := ⟨⟨by decide +kernel, by decide +kernel, by decide +kernel, by decide, rfl⟩, List.mem_of_getElem? (i := 528) rfl, List.mem_of_getElem? (i := 97) (by decide +kernel), List.mem_of_getElem? (i := 527) (by decide +kernel), List.mem_of_getElem? (i := 3) (by decide +kernel)⟩
set_option maxRecDepth 20000 in
theorem gm_X4_word : mx_gm mm_X4_word false := ⟨⟨by decide +kernel, by decide +kernel, by decide +kernel, by decide, rfl⟩, List.mem_of_getElem? (i := 588) rfl, List.mem_of_getElem? (i := 97) (by decide +kernel), List.mem_of_getElem? (i := 587) (by decide +kernel), List.mem_of_getElem? (i := 11) (by decide +kernel)⟩
set_option maxRecDepth 20000 in
theorem gm_X4_readNewName : mx_gm mm_X4_readNewName false := ⟨⟨by decide +kernel, by decide +kernel, by decide +kernel, by decide, rfl⟩, List.mem_of_getElem? (i := 558) rfl, List.mem_of_getElem? (i := 97) (by decide +kernel), List.mem_of_getElem? (i := 557) (by decide +kernel), List.mem_of_getElem? (i := 7) (by decide +kernel)⟩
set_option maxRecDepth 20000 in
theorem gm_X4_readSort : mx_gm mm_X4_readSort false := ⟨⟨by decide +kernel, by decide +kernel, by decide +kernel, by decide, rfl⟩, List.mem_of_getElem? (i := 574) rfl, List.mem_of_getElem? (i := 97) (by decide +kernel), List.mem_of_getElem? (i := 573) (by decide +kernel), List.mem_of_getElem? (i := 9) (by decide +kernel)⟩
set_option maxRecDepth 20000 in
theorem gm_X4_readWidth : mx_gm mm_X4_readWidth false := ⟨⟨by decide +kernel, by decide +kernel, by decide +kernel, by decide, rfl⟩, List.mem_of_getElem? (i := 582) rfl, List.mem_of_getElem? (i := 97) (by decide +kernel), List.mem_of_getElem? (i := 581) (by decide +kernel), List.mem_of_getElem? (i := 10) (by decide +kernel)⟩
set_option maxRecDepth 20000 in
theorem gm_X4_readTerm : mx_gm mm_X4_readTerm false := ⟨⟨by decide +kernel, by decide +kernel, by decide +kernel, by decide, rfl⟩, List.mem_of_getElem? (i := 600) rfl, List.mem_of_getElem? (i := 97) (by decide +kernel), List.mem_of_getElem? (i := 599) (by decide +kernel), List.mem_of_getElem? (i := 12) (by decide +kernel)⟩
set_option maxRecDepth 20000 in
theorem gm_X4_readAtom : mx_gm mm_X4_readAtom false := ⟨⟨by decide +kernel, by decide +kernel, by decide +kernel, by decide, rfl⟩, List.mem_of_getElem? (i := 608) rfl, List.mem_of_getElem? (i := 97) (by decide +kernel), List.mem_of_getElem? (i := 607) (by decide +kernel), List.mem_of_getElem? (i := 14) (by decide +kernel)⟩
set_option maxRecDepth 20000 in
theorem gm_X4_meaningOf : mx_gm mm_X4_meaningOf false := ⟨⟨by decide +kernel, by decide +kernel, by decide +kernel, by decide, rfl⟩, List.mem_of_getElem? (i := 640) rfl, List.mem_of_getElem? (i := 97) (by decide +kernel), List.mem_of_getElem? (i := 639) (by decide +kernel), List.mem_of_getElem? (i := 17) (by decide +kernel)⟩
set_option maxRecDepth 20000 in
theorem gm_X4_readLet : mx_gm mm_X4_readLet false := ⟨⟨by decide +kernel, by decide +kernel, by decide +kernel, by decide, rfl⟩, List.mem_of_getElem? (i := 684) rfl, List.mem_of_getElem? (i := 97) (by decide +kernel), List.mem_of_getElem? (i := 683) (by decide +kernel), List.mem_of_getElem? (i := 22) (by decide +kernel)⟩
set_option maxRecDepth 20000 in
theorem gm_X4_readNumbered : mx_gm mm_X4_readNumbered false := ⟨⟨by decide +kernel, by decide +kernel, by decide +kernel, by decide, rfl⟩, List.mem_of_getElem? (i := 644) rfl, List.mem_of_getElem? (i := 97) (by decide +kernel), List.mem_of_getElem? (i := 643) (by decide +kernel), List.mem_of_getElem? (i := 18) (by decide +kernel)⟩
set_option maxRecDepth 20000 in
theorem gm_X4_readParts : mx_gm mm_X4_readParts false := ⟨⟨by decide +kernel, by decide +kernel, by decide +kernel, by decide, rfl⟩, List.mem_of_getElem? (i := 654) rfl, List.mem_of_getElem? (i := 97) (by decide +kernel), List.mem_of_getElem? (i := 653) (by decide +kernel), List.mem_of_getElem? (i := 19) (by decide +kernel)⟩
set_option maxRecDepth 20000 in
theorem gm_X4_fits : mx_gm mm_X4_fits false := ⟨⟨by decide +kernel, by decide +kernel, by decide +kernel, by decide, rfl⟩, List.mem_of_getElem? (i := 658) rfl, List.mem_of_getElem? (i := 97) (by decide +kernel), List.mem_of_getElem? (i := 657) (by decide +kernel), List.mem_of_getElem? (i := 20) (by decide +kernel)⟩
set_option maxRecDepth 20000 in
theorem gm_X4_resultSort : mx_gm mm_X4_resultSort false := ⟨⟨by decide +kernel, by decide +kernel, by decide +kernel, by decide, rfl⟩, List.mem_of_getElem? (i := 672) rfl, List.mem_of_getElem? (i := 97) (by decide +kernel), List.mem_of_getElem? (i := 671) (by decide +kernel), List.mem_of_getElem? (i := 21) (by decide +kernel)⟩
set_option maxRecDepth 20000 in
theorem gm_X5_hasConstant : mx_gm mm_X5_hasConstant false := ⟨⟨by decide +kernel, by decide +kernel, by decide +kernel, by decide, rfl⟩, List.mem_of_getElem? (i := 1028) rfl, List.mem_of_getElem? (i := 96) (by decide +kernel), List.mem_of_getElem? (i := 1026) (by decide +kernel), List.mem_of_getElem? (i := 1027) (by decide +kernel)⟩
set_option maxRecDepth 20000 in
theorem gm_X5_hasAssertion : mx_gm mm_X5_hasAssertion false := ⟨⟨by decide +kernel, by decide +kernel, by decide +kernel, by decide, rfl⟩, List.mem_of_getElem? (i := 1036) rfl, List.mem_of_getElem? (i := 96) (by decide +kernel), List.mem_of_getElem? (i := 1034) (by decide +kernel), List.mem_of_getElem? (i := 1035) (by decide +kernel)⟩
set_option maxRecDepth 20000 in
theorem gm_X5_find : mx_gm mm_X5_find false := ⟨⟨by decide +kernel, by decide +kernel, by decide +kernel, by decide, rfl⟩, List.mem_of_getElem? (i := 570) rfl, List.mem_of_getElem? (i := 96) (by decide +kernel), List.mem_of_getElem? (i := 568) (by decide +kernel), List.mem_of_getElem? (i := 569) (by decide +kernel)⟩
set_option maxRecDepth 20000 in
theorem gm_X5_declare : mx_gm mm_X5_declare false := ⟨⟨by decide +kernel, by decide +kernel, by decide +kernel, by decide, rfl⟩, List.mem_of_getElem? (i := 744) rfl, List.mem_of_getElem? (i := 96) (by decide +kernel), List.mem_of_getElem? (i := 742) (by decide +kernel), List.mem_of_getElem? (i := 743) (by decide +kernel)⟩
set_option maxRecDepth 20000 in
theorem gm_X5_claim : mx_gm mm_X5_claim false := ⟨⟨by decide +kernel, by decide +kernel, by decide +kernel, by decide, rfl⟩, List.mem_of_getElem? (i := 748) rfl, List.mem_of_getElem? (i := 96) (by decide +kernel), List.mem_of_getElem? (i := 746) (by decide +kernel), List.mem_of_getElem? (i := 747) (by decide +kernel)⟩
set_option maxRecDepth 20000 in
theorem gm_X5_open : mx_gm mm_X5_open false := ⟨⟨by decide +kernel, by decide +kernel, by decide +kernel, by decide, rfl⟩, List.mem_of_getElem? (i := 752) rfl, List.mem_of_getElem? (i := 96) (by decide +kernel), List.mem_of_getElem? (i := 750) (by decide +kernel), List.mem_of_getElem? (i := 751) (by decide +kernel)⟩
set_option maxRecDepth 20000 in
theorem gm_X5_close : mx_gm mm_X5_close false := ⟨⟨by decide +kernel, by decide +kernel, by decide +kernel, by decide, rfl⟩, List.mem_of_getElem? (i := 756) rfl, List.mem_of_getElem? (i := 96) (by decide +kernel), List.mem_of_getElem? (i := 754) (by decide +kernel), List.mem_of_getElem? (i := 755) (by decide +kernel)⟩
set_option maxRecDepth 20000 in
theorem gm_X6_forgetOrder : mx_gm mm_X6_forgetOrder false := ⟨⟨by decide +kernel, by decide +kernel, by decide +kernel, by decide, rfl⟩, List.mem_of_getElem? (i := 917) rfl, List.mem_of_getElem? (i := 100) (by decide +kernel), List.mem_of_getElem? (i := 915) (by decide +kernel), List.mem_of_getElem? (i := 916) (by decide +kernel)⟩
set_option maxRecDepth 20000 in
theorem gm_X6_decideNext : mx_gm mm_X6_decideNext false := ⟨⟨by decide +kernel, by decide +kernel, by decide +kernel, by decide, rfl⟩, List.mem_of_getElem? (i := 923) rfl, List.mem_of_getElem? (i := 100) (by decide +kernel), List.mem_of_getElem? (i := 921) (by decide +kernel), List.mem_of_getElem? (i := 922) (by decide +kernel)⟩
set_option maxRecDepth 20000 in
theorem gm_X6_inputs : mx_gm mm_X6_inputs false := ⟨⟨by decide +kernel, by decide +kernel, by decide +kernel, by decide, rfl⟩, List.mem_of_getElem? (i := 1016) rfl, List.mem_of_getElem? (i := 100) (by decide +kernel), List.mem_of_getElem? (i := 1014) (by decide +kernel), List.mem_of_getElem? (i := 1015) (by decide +kernel)⟩
set_option maxRecDepth 20000 in
theorem gm_X6_canHold : mx_gm mm_X6_canHold false := ⟨⟨by decide +kernel, by decide +kernel, by decide +kernel, by decide, rfl⟩, List.mem_of_getElem? (i := 927) rfl, List.mem_of_getElem? (i := 100) (by decide +kernel), List.mem_of_getElem? (i := 925) (by decide +kernel), List.mem_of_getElem? (i := 926) (by decide +kernel)⟩
set_option maxRecDepth 20000 in
theorem gm_X6_begin : mx_gm mm_X6_begin false := ⟨⟨by decide +kernel, by decide +kernel, by decide +kernel, by decide, rfl⟩, List.mem_of_getElem? (i := 931) rfl, List.mem_of_getElem? (i := 100) (by decide +kernel), List.mem_of_getElem? (i := 930) (by decide +kernel), List.mem_of_getElem? (i := 46) (by decide +kernel)⟩
set_option maxRecDepth 20000 in
theorem gm_X6_truthOf : mx_gm mm_X6_truthOf false := ⟨⟨by decide +kernel, by decide +kernel, by decide +kernel, by decide, rfl⟩, List.mem_of_getElem? (i := 939) rfl, List.mem_of_getElem? (i := 100) (by decide +kernel), List.mem_of_getElem? (i := 938) (by decide +kernel), List.mem_of_getElem? (i := 47) (by decide +kernel)⟩
set_option maxRecDepth 20000 in
theorem gm_X6_assign : mx_gm mm_X6_assign false := ⟨⟨by decide +kernel, by decide +kernel, by decide +kernel, by decide, rfl⟩, List.mem_of_getElem? (i := 943) rfl, List.mem_of_getElem? (i := 100) (by decide +kernel), List.mem_of_getElem? (i := 942) (by decide +kernel), List.mem_of_getElem? (i := 48) (by decide +kernel)⟩
set_option maxRecDepth 20000 in
theorem gm_X6_loadMarked : mx_gm mm_X6_loadMarked false := ⟨⟨by decide +kernel, by decide +kernel, by decide +kernel, by decide, rfl⟩, List.mem_of_getElem? (i := 947) rfl, List.mem_of_getElem? (i := 100) (by decide +kernel), List.mem_of_getElem? (i := 946) (by decide +kernel), List.mem_of_getElem? (i := 49) (by decide +kernel)⟩
set_option maxRecDepth 20000 in
theorem gm_X6_propagate : mx_gm mm_X6_propagate false := ⟨⟨by decide +kernel, by decide +kernel, by decide +kernel, by decide, rfl⟩, List.mem_of_getElem? (i := 972) rfl, List.mem_of_getElem? (i := 100) (by decide +kernel), List.mem_of_getElem? (i := 971) (by decide +kernel), List.mem_of_getElem? (i := 51) (by decide +kernel)⟩
set_option maxRecDepth 20000 in
theorem gm_X6_visit : mx_gm mm_X6_visit false := ⟨⟨by decide +kernel, by decide +kernel, by decide +kernel, by decide, rfl⟩, List.mem_of_getElem? (i := 976) rfl, List.mem_of_getElem? (i := 100) (by decide +kernel), List.mem_of_getElem? (i := 975) (by decide +kernel), List.mem_of_getElem? (i := 52) (by decide +kernel)⟩
set_option maxRecDepth 20000 in
theorem gm_X6_openPlace : mx_gm mm_X6_openPlace false := ⟨⟨by decide +kernel, by decide +kernel, by decide +kernel, by decide, rfl⟩, List.mem_of_getElem? (i := 984) rfl, List.mem_of_getElem? (i := 100) (by decide +kernel), List.mem_of_getElem? (i := 983) (by decide +kernel), List.mem_of_getElem? (i := 53) (by decide +kernel)⟩
set_option maxRecDepth 20000 in
theorem gm_X6_decide : mx_gm mm_X6_decide false := ⟨⟨by decide +kernel, by decide +kernel, by decide +kernel, by decide, rfl⟩, List.mem_of_getElem? (i := 993) rfl, List.mem_of_getElem? (i := 100) (by decide +kernel), List.mem_of_getElem? (i := 992) (by decide +kernel), List.mem_of_getElem? (i := 54) (by decide +kernel)⟩
set_option maxRecDepth 20000 in
theorem gm_X6_learnFrom : mx_gm mm_X6_learnFrom false := ⟨⟨by decide +kernel, by decide +kernel, by decide +kernel, by decide, rfl⟩, List.mem_of_getElem? (i := 997) rfl, List.mem_of_getElem? (i := 100) (by decide +kernel), List.mem_of_getElem? (i := 996) (by decide +kernel), List.mem_of_getElem? (i := 55) (by decide +kernel)⟩
set_option maxRecDepth 20000 in
theorem gm_X6_collectDecisions : mx_gm mm_X6_collectDecisions false := ⟨⟨by decide +kernel, by decide +kernel, by decide +kernel, by decide, rfl⟩, List.mem_of_getElem? (i := 1001) rfl, List.mem_of_getElem? (i := 100) (by decide +kernel), List.mem_of_getElem? (i := 1000) (by decide +kernel), List.mem_of_getElem? (i := 56) (by decide +kernel)⟩
set_option maxRecDepth 20000 in
theorem gm_X6_markClause : mx_gm mm_X6_markClause false := ⟨⟨by decide +kernel, by decide +kernel, by decide +kernel, by decide, rfl⟩, List.mem_of_getElem? (i := 1005) rfl, List.mem_of_getElem? (i := 100) (by decide +kernel), List.mem_of_getElem? (i := 1004) (by decide +kernel), List.mem_of_getElem? (i := 57) (by decide +kernel)⟩
set_option maxRecDepth 20000 in
theorem gm_X6_goBack : mx_gm mm_X6_goBack false := ⟨⟨by decide +kernel, by decide +kernel, by decide +kernel, by decide, rfl⟩, List.mem_of_getElem? (i := 1011) rfl, List.mem_of_getElem? (i := 100) (by decide +kernel), List.mem_of_getElem? (i := 1010) (by decide +kernel), List.mem_of_getElem? (i := 58) (by decide +kernel)⟩
set_option maxRecDepth 20000 in
theorem gm_X7_has : mx_gm mm_X7_has false := ⟨⟨by decide +kernel, by decide +kernel, by decide +kernel, by decide, rfl⟩, List.mem_of_getElem? (i := 768) rfl, List.mem_of_getElem? (i := 95) (by decide +kernel), List.mem_of_getElem? (i := 767) (by decide +kernel), List.mem_of_getElem? (i := 25) (by decide +kernel)⟩
set_option maxRecDepth 20000 in
theorem gm_X7_opOf : mx_gm mm_X7_opOf false := ⟨⟨by decide +kernel, by decide +kernel, by decide +kernel, by decide, rfl⟩, List.mem_of_getElem? (i := 764) rfl, List.mem_of_getElem? (i := 95) (by decide +kernel), List.mem_of_getElem? (i := 762) (by decide +kernel), List.mem_of_getElem? (i := 763) (by decide +kernel)⟩
set_option maxRecDepth 20000 in
theorem gm_X7_partOf : mx_gm mm_X7_partOf false := ⟨⟨by decide +kernel, by decide +kernel, by decide +kernel, by decide, rfl⟩, List.mem_of_getElem? (i := 772) rfl, List.mem_of_getElem? (i := 95) (by decide +kernel), List.mem_of_getElem? (i := 770) (by decide +kernel), List.mem_of_getElem? (i := 771) (by decide +kernel)⟩
set_option maxRecDepth 20000 in
theorem gm_X7_numberOf : mx_gm mm_X7_numberOf false := ⟨⟨by decide +kernel, by decide +kernel, by decide +kernel, by decide, rfl⟩, List.mem_of_getElem? (i := 885) rfl, List.mem_of_getElem? (i := 95) (by decide +kernel), List.mem_of_getElem? (i := 883) (by decide +kernel), List.mem_of_getElem? (i := 884) (by decide +kernel)⟩
set_option maxRecDepth 20000 in
theorem gm_X7_sortOf : mx_gm mm_X7_sortOf false := ⟨⟨by decide +kernel, by decide +kernel, by decide +kernel, by decide, rfl⟩, List.mem_of_getElem? (i := 662) rfl, List.mem_of_getElem? (i := 95) (by decide +kernel), List.mem_of_getElem? (i := 660) (by decide +kernel), List.mem_of_getElem? (i := 661) (by decide +kernel)⟩
set_option maxRecDepth 20000 in
theorem gm_X7_addConstant : mx_gm mm_X7_addConstant false := ⟨⟨by decide +kernel, by decide +kernel, by decide +kernel, by decide, rfl⟩, List.mem_of_getElem? (i := 738) rfl, List.mem_of_getElem? (i := 95) (by decide +kernel), List.mem_of_getElem? (i := 736) (by decide +kernel), List.mem_of_getElem? (i := 737) (by decide +kernel)⟩
set_option maxRecDepth 20000 in
theorem gm_X7_prepare : mx_gm mm_X7_prepare false := ⟨⟨by decide +kernel, by decide +kernel, by decide +kernel, by decide, rfl⟩, List.mem_of_getElem? (i := 616) rfl, List.mem_of_getElem? (i := 95) (by decide +kernel), List.mem_of_getElem? (i := 614) (by decide +kernel), List.mem_of_getElem? (i := 615) (by decide +kernel)⟩
set_option maxRecDepth 20000 in
theorem gm_X7_preparePart : mx_gm mm_X7_preparePart false := ⟨⟨by decide +kernel, by decide +kernel, by decide +kernel, by decide, rfl⟩, List.mem_of_getElem? (i := 678) rfl, List.mem_of_getElem? (i := 95) (by decide +kernel), List.mem_of_getElem? (i := 676) (by decide +kernel), List.mem_of_getElem? (i := 677) (by decide +kernel)⟩
set_option maxRecDepth 20000 in
theorem gm_X7_make : mx_gm mm_X7_make false := ⟨⟨by decide +kernel, by decide +kernel, by decide +kernel, by decide, rfl⟩, List.mem_of_getElem? (i := 620) rfl, List.mem_of_getElem? (i := 95) (by decide +kernel), List.mem_of_getElem? (i := 618) (by decide +kernel), List.mem_of_getElem? (i := 619) (by decide +kernel)⟩
set_option maxRecDepth 20000 in
theorem gm_X7_isPrepared : mx_gm mm_X7_isPrepared false := ⟨⟨by decide +kernel, by decide +kernel, by decide +kernel, by decide, rfl⟩, List.mem_of_getElem? (i := 624) rfl, List.mem_of_getElem? (i := 95) (by decide +kernel), List.mem_of_getElem? (i := 623) (by decide +kernel), List.mem_of_getElem? (i := 15) (by decide +kernel)⟩
set_option maxRecDepth 20000 in
theorem gm_X7_add : mx_gm mm_X7_add false := ⟨⟨by decide +kernel, by decide +kernel, by decide +kernel, by decide, rfl⟩, List.mem_of_getElem? (i := 628) rfl, List.mem_of_getElem? (i := 95) (by decide +kernel), List.mem_of_getElem? (i := 627) (by decide +kernel), List.mem_of_getElem? (i := 16) (by decide +kernel)⟩
set_option maxRecDepth 20000 in
theorem gm_X7_cut : mx_gm mm_X7_cut false := ⟨⟨by decide +kernel, by decide +kernel, by decide +kernel, by decide, rfl⟩, List.mem_of_getElem? (i := 700) rfl, List.mem_of_getElem? (i := 95) (by decide +kernel), List.mem_of_getElem? (i := 698) (by decide +kernel), List.mem_of_getElem? (i := 699) (by decide +kernel)⟩
set_option maxRecDepth 20000 in
theorem gm_X7_heavyOnes : mx_gm mm_X7_heavyOnes false := ⟨⟨by decide +kernel, by decide +kernel, by decide +kernel, by decide, rfl⟩, List.mem_of_getElem? (i := 720) rfl, List.mem_of_getElem? (i := 95) (by decide +kernel), List.mem_of_getElem? (i := 718) (by decide +kernel), List.mem_of_getElem? (i := 719) (by decide +kernel)⟩
set_option maxRecDepth 20000 in
theorem gm_X8_append : mx_gm mm_X8_append false := ⟨⟨by decide +kernel, by decide +kernel, by decide +kernel, by decide, rfl⟩, List.mem_of_getElem? (i := 438) rfl, List.mem_of_getElem? (i := 94) (by decide +kernel), List.mem_of_getElem? (i := 436) (by decide +kernel), List.mem_of_getElem? (i := 437) (by decide +kernel)⟩
set_option maxRecDepth 20000 in
theorem gm_X8_byteOf : mx_gm mm_X8_byteOf true := ⟨⟨by decide +kernel, by decide +kernel, by decide +kernel, by decide, rfl⟩, List.mem_of_getElem? (i := 441) rfl, List.mem_of_getElem? (i := 94) (by decide +kernel), List.mem_of_getElem? (i := 440) (by decide +kernel)⟩
set_option maxRecDepth 20000 in
theorem gm_X8_clear : mx_gm mm_X8_clear false := ⟨⟨by decide +kernel, by decide +kernel, by decide +kernel, by decide, rfl⟩, List.mem_of_getElem? (i := 696) rfl, List.mem_of_getElem? (i := 94) (by decide +kernel), List.mem_of_getElem? (i := 694) (by decide +kernel), List.mem_of_getElem? (i := 695) (by decide +kernel)⟩
set_option maxRecDepth 20000 in
theorem gm_X8_split : mx_gm mm_X8_split false := ⟨⟨by decide +kernel, by decide +kernel, by decide +kernel, by decide, rfl⟩, List.mem_of_getElem? (i := 449) rfl, List.mem_of_getElem? (i := 94) (by decide +kernel), List.mem_of_getElem? (i := 447) (by decide +kernel), List.mem_of_getElem? (i := 448) (by decide +kernel)⟩
set_option maxRecDepth 20000 in
theorem gm_X8_addToken : mx_gm mm_X8_addToken false := ⟨⟨by decide +kernel, by decide +kernel, by decide +kernel, by decide, rfl⟩, List.mem_of_getElem? (i := 462) rfl, List.mem_of_getElem? (i := 94) (by decide +kernel), List.mem_of_getElem? (i := 461) (by decide +kernel), List.mem_of_getElem? (i := 0) (by decide +kernel)⟩
set_option maxRecDepth 20000 in
theorem gm_X8_findWord : mx_gm mm_X8_findWord false := ⟨⟨by decide +kernel, by decide +kernel, by decide +kernel, by decide, rfl⟩, List.mem_of_getElem? (i := 466) rfl, List.mem_of_getElem? (i := 94) (by decide +kernel), List.mem_of_getElem? (i := 465) (by decide +kernel), List.mem_of_getElem? (i := 1) (by decide +kernel)⟩
set_option maxRecDepth 20000 in
theorem gm_X8_isSpelled : mx_gm mm_X8_isSpelled false := ⟨⟨by decide +kernel, by decide +kernel, by decide +kernel, by decide, rfl⟩, List.mem_of_getElem? (i := 472) rfl, List.mem_of_getElem? (i := 94) (by decide +kernel), List.mem_of_getElem? (i := 471) (by decide +kernel), List.mem_of_getElem? (i := 2) (by decide +kernel)⟩
set_option maxRecDepth 20000 in
theorem gm_X8_isOfSymbol : mx_gm mm_X8_isOfSymbol true := ⟨⟨by decide +kernel, by decide +kernel, by decide +kernel, by decide, rfl⟩, List.mem_of_getElem? (i := 452) rfl, List.mem_of_getElem? (i := 94) (by decide +kernel), List.mem_of_getElem? (i := 451) (by decide +kernel)⟩
set_option maxRecDepth 20000 in
theorem gm_X8_isLetter : mx_gm mm_X8_isLetter true := ⟨⟨by decide +kernel, by decide +kernel, by decide +kernel, by decide, rfl⟩, List.mem_of_getElem? (i := 455) rfl, List.mem_of_getElem? (i := 94) (by decide +kernel), List.mem_of_getElem? (i := 454) (by decide +kernel)⟩
set_option maxRecDepth 20000 in
theorem gm_X8_isDigit : mx_gm mm_X8_isDigit true := ⟨⟨by decide +kernel, by decide +kernel, by decide +kernel, by decide, rfl⟩, List.mem_of_getElem? (i := 458) rfl, List.mem_of_getElem? (i := 94) (by decide +kernel), List.mem_of_getElem? (i := 457) (by decide +kernel)⟩
set_option maxRecDepth 20000 in
theorem gm_X8_hasToken : mx_gm mm_X8_hasToken false := ⟨⟨by decide +kernel, by decide +kernel, by decide +kernel, by decide, rfl⟩, List.mem_of_getElem? (i := 544) rfl, List.mem_of_getElem? (i := 94) (by decide +kernel), List.mem_of_getElem? (i := 543) (by decide +kernel), List.mem_of_getElem? (i := 5) (by decide +kernel)⟩
set_option maxRecDepth 20000 in
theorem gm_X8_sizeOf : mx_gm mm_X8_sizeOf false := ⟨⟨by decide +kernel, by decide +kernel, by decide +kernel, by decide, rfl⟩, List.mem_of_getElem? (i := 566) rfl, List.mem_of_getElem? (i := 94) (by decide +kernel), List.mem_of_getElem? (i := 565) (by decide +kernel), List.mem_of_getElem? (i := 8) (by decide +kernel)⟩
set_option maxRecDepth 20000 in
theorem gm_X8_start : mx_gm mm_X8_start false := ⟨⟨by decide +kernel, by decide +kernel, by decide +kernel, by decide, rfl⟩, List.mem_of_getElem? (i := 692) rfl, List.mem_of_getElem? (i := 94) (by decide +kernel), List.mem_of_getElem? (i := 690) (by decide +kernel), List.mem_of_getElem? (i := 691) (by decide +kernel)⟩
set_option maxRecDepth 20000 in
theorem gm_X8_isBracket : mx_gm mm_X8_isBracket false := ⟨⟨by decide +kernel, by decide +kernel, by decide +kernel, by decide, rfl⟩, List.mem_of_getElem? (i := 532) rfl, List.mem_of_getElem? (i := 94) (by decide +kernel), List.mem_of_getElem? (i := 530) (by decide +kernel), List.mem_of_getElem? (i := 531) (by decide +kernel)⟩
set_option maxRecDepth 20000 in
theorem gm_X8_isEnd : mx_gm mm_X8_isEnd false := ⟨⟨by decide +kernel, by decide +kernel, by decide +kernel, by decide, rfl⟩, List.mem_of_getElem? (i := 688) rfl, List.mem_of_getElem? (i := 94) (by decide +kernel), List.mem_of_getElem? (i := 686) (by decide +kernel), List.mem_of_getElem? (i := 687) (by decide +kernel)⟩
set_option maxRecDepth 20000 in
theorem gm_X8_wordAt : mx_gm mm_X8_wordAt false := ⟨⟨by decide +kernel, by decide +kernel, by decide +kernel, by decide, rfl⟩, List.mem_of_getElem? (i := 540) rfl, List.mem_of_getElem? (i := 94) (by decide +kernel), List.mem_of_getElem? (i := 538) (by decide +kernel), List.mem_of_getElem? (i := 539) (by decide +kernel)⟩
set_option maxRecDepth 20000 in
theorem gm_X8_nameAt : mx_gm mm_X8_nameAt false := ⟨⟨by decide +kernel, by decide +kernel, by decide +kernel, by decide, rfl⟩, List.mem_of_getElem? (i := 562) rfl, List.mem_of_getElem? (i := 94) (by decide +kernel), List.mem_of_getElem? (i := 560) (by decide +kernel), List.mem_of_getElem? (i := 561) (by decide +kernel)⟩
set_option maxRecDepth 20000 in
theorem gm_X8_numberAt : mx_gm mm_X8_numberAt false := ⟨⟨by decide +kernel, by decide +kernel, by decide +kernel, by decide, rfl⟩, List.mem_of_getElem? (i := 594) rfl, List.mem_of_getElem? (i := 94) (by decide +kernel), List.mem_of_getElem? (i := 592) (by decide +kernel), List.mem_of_getElem? (i := 593) (by decide +kernel)⟩
set_option maxRecDepth 20000 in
theorem gm_X8_widthAt : mx_gm mm_X8_widthAt false := ⟨⟨by decide +kernel, by decide +kernel, by decide +kernel, by decide, rfl⟩, List.mem_of_getElem? (i := 632) rfl, List.mem_of_getElem? (i := 94) (by decide +kernel), List.mem_of_getElem? (i := 630) (by decide +kernel), List.mem_of_getElem? (i := 631) (by decide +kernel)⟩
set_option maxRecDepth 20000 in
theorem gm_X8_bitsAt : mx_gm mm_X8_bitsAt false := ⟨⟨by decide +kernel, by decide +kernel, by decide +kernel, by decide, rfl⟩, List.mem_of_getElem? (i := 636) rfl, List.mem_of_getElem? (i := 94) (by decide +kernel), List.mem_of_getElem? (i := 634) (by decide +kernel), List.mem_of_getElem? (i := 635) (by decide +kernel)⟩
set_option maxRecDepth 20000 in
theorem gm_X9_isHeavy : mx_gm mm_X9_isHeavy false := ⟨⟨by decide +kernel, by decide +kernel, by decide +kernel, by decide, rfl⟩, List.mem_of_getElem? (i := 724) rfl, List.mem_of_getElem? (i := 108) (by decide +kernel), List.mem_of_getElem? (i := 722) (by decide +kernel), List.mem_of_getElem? (i := 723) (by decide +kernel)⟩
set_option maxRecDepth 20000 in
theorem gm_X9_takesNumbers : mx_gm mm_X9_takesNumbers false := ⟨⟨by decide +kernel, by decide +kernel, by decide +kernel, by decide, rfl⟩, List.mem_of_getElem? (i := 648) rfl, List.mem_of_getElem? (i := 108) (by decide +kernel), List.mem_of_getElem? (i := 646) (by decide +kernel), List.mem_of_getElem? (i := 647) (by decide +kernel)⟩
set_option maxRecDepth 20000 in
theorem gm_X10_type : mx_gm mm_X10_type false := ⟨⟨by decide +kernel, by decide +kernel, by decide +kernel, by decide, rfl⟩, List.mem_of_getElem? (i := 434) rfl, List.mem_of_getElem? (i := 93) (by decide +kernel), List.mem_of_getElem? (i := 432) (by decide +kernel), List.mem_of_getElem? (i := 433) (by decide +kernel)⟩
set_option maxRecDepth 20000 in
theorem gm_X10_command : mx_gm mm_X10_command false := ⟨⟨by decide +kernel, by decide +kernel, by decide +kernel, by decide, rfl⟩, List.mem_of_getElem? (i := 445) rfl, List.mem_of_getElem? (i := 93) (by decide +kernel), List.mem_of_getElem? (i := 443) (by decide +kernel), List.mem_of_getElem? (i := 444) (by decide +kernel)⟩
set_option maxRecDepth 20000 in
theorem gm_X10_check : mx_gm mm_X10_check false := ⟨⟨by decide +kernel, by decide +kernel, by decide +kernel, by decide, rfl⟩, List.mem_of_getElem? (i := 904) rfl, List.mem_of_getElem? (i := 93) (by decide +kernel), List.mem_of_getElem? (i := 902) (by decide +kernel), List.mem_of_getElem? (i := 903) (by decide +kernel)⟩
set_option maxRecDepth 20000 in
theorem gm_X10_value : mx_gm mm_X10_value false := ⟨⟨by decide +kernel, by decide +kernel, by decide +kernel, by decide, rfl⟩, List.mem_of_getElem? (i := 1024) rfl, List.mem_of_getElem? (i := 93) (by decide +kernel), List.mem_of_getElem? (i := 1022) (by decide +kernel), List.mem_of_getElem? (i := 1023) (by decide +kernel)⟩
set_option maxRecDepth 20000 in
theorem gm_X10_core : mx_gm mm_X10_core false := ⟨⟨by decide +kernel, by decide +kernel, by decide +kernel, by decide, rfl⟩, List.mem_of_getElem? (i := 1032) rfl, List.mem_of_getElem? (i := 93) (by decide +kernel), List.mem_of_getElem? (i := 1030) (by decide +kernel), List.mem_of_getElem? (i := 1031) (by decide +kernel)⟩
set_option maxRecDepth 20000 in
theorem gm_X10_holds : mx_gm mm_X10_holds false := ⟨⟨by decide +kernel, by decide +kernel, by decide +kernel, by decide, rfl⟩, List.mem_of_getElem? (i := 1040) rfl, List.mem_of_getElem? (i := 93) (by decide +kernel), List.mem_of_getElem? (i := 1038) (by decide +kernel), List.mem_of_getElem? (i := 1039) (by decide +kernel)⟩
set_option maxRecDepth 20000 in
theorem gm_X10_terms : mx_gm mm_X10_terms false := ⟨⟨by decide +kernel, by decide +kernel, by decide +kernel, by decide, rfl⟩, List.mem_of_getElem? (i := 1056) rfl, List.mem_of_getElem? (i := 93) (by decide +kernel), List.mem_of_getElem? (i := 1054) (by decide +kernel), List.mem_of_getElem? (i := 1055) (by decide +kernel)⟩
set_option maxRecDepth 20000 in
theorem gm_X10_count : mx_gm mm_X10_count false := ⟨⟨by decide +kernel, by decide +kernel, by decide +kernel, by decide, rfl⟩, List.mem_of_getElem? (i := 1060) rfl, List.mem_of_getElem? (i := 93) (by decide +kernel), List.mem_of_getElem? (i := 1058) (by decide +kernel), List.mem_of_getElem? (i := 1059) (by decide +kernel)⟩
set_option maxRecDepth 20000 in
theorem gm_X10_refusal : mx_gm mm_X10_refusal false := ⟨⟨by decide +kernel, by decide +kernel, by decide +kernel, by decide, rfl⟩, List.mem_of_getElem? (i := 704) rfl, List.mem_of_getElem? (i := 93) (by decide +kernel), List.mem_of_getElem? (i := 703) (by decide +kernel), List.mem_of_getElem? (i := 23) (by decide +kernel)⟩
set_option maxRecDepth 20000 in
theorem gm_X10_perform : mx_gm mm_X10_perform false := ⟨⟨by decide +kernel, by decide +kernel, by decide +kernel, by decide, rfl⟩, List.mem_of_getElem? (i := 734) rfl, List.mem_of_getElem? (i := 93) (by decide +kernel), List.mem_of_getElem? (i := 733) (by decide +kernel), List.mem_of_getElem? (i := 24) (by decide +kernel)⟩
set_option maxRecDepth 20000 in
theorem gm_X10_gatherRoots : mx_gm mm_X10_gatherRoots false := ⟨⟨by decide +kernel, by decide +kernel, by decide +kernel, by decide, rfl⟩, List.mem_of_getElem? (i := 908) rfl, List.mem_of_getElem? (i := 93) (by decide +kernel), List.mem_of_getElem? (i := 907) (by decide +kernel), List.mem_of_getElem? (i := 44) (by decide +kernel)⟩
set_option maxRecDepth 20000 in
theorem gm_X10_orderInputs : mx_gm mm_X10_orderInputs false := ⟨⟨by decide +kernel, by decide +kernel, by decide +kernel, by decide, rfl⟩, List.mem_of_getElem? (i := 913) rfl, List.mem_of_getElem? (i := 93) (by decide +kernel), List.mem_of_getElem? (i := 912) (by decide +kernel), List.mem_of_getElem? (i := 45) (by decide +kernel)⟩
set_option maxRecDepth 20000 in
theorem gm_X10_coreOf : mx_gm mm_X10_coreOf false := ⟨⟨by decide +kernel, by decide +kernel, by decide +kernel, by decide, rfl⟩, List.mem_of_getElem? (i := 1020) rfl, List.mem_of_getElem? (i := 93) (by decide +kernel), List.mem_of_getElem? (i := 1019) (by decide +kernel), List.mem_of_getElem? (i := 59) (by decide +kernel)⟩
set_option maxRecDepth 20000 in
theorem gm_X10_bitsOf : mx_gm mm_X10_bitsOf true := ⟨⟨by decide +kernel, by decide +kernel, by decide +kernel, by decide, rfl⟩, List.mem_of_getElem? (i := 715) rfl, List.mem_of_getElem? (i := 93) (by decide +kernel), List.mem_of_getElem? (i := 714) (by decide +kernel)⟩
set_option maxRecDepth 20000 in
theorem gm_X10_isWord : mx_gm mm_X10_isWord true := ⟨⟨by decide +kernel, by decide +kernel, by decide +kernel, by decide, rfl⟩, List.mem_of_getElem? (i := 665) rfl, List.mem_of_getElem? (i := 93) (by decide +kernel), List.mem_of_getElem? (i := 664) (by decide +kernel)⟩
set_option maxRecDepth 20000 in
theorem gm_X10_isArray : mx_gm mm_X10_isArray true := ⟨⟨by decide +kernel, by decide +kernel, by decide +kernel, by decide, rfl⟩, List.mem_of_getElem? (i := 668) rfl, List.mem_of_getElem? (i := 93) (by decide +kernel), List.mem_of_getElem? (i := 667) (by decide +kernel)⟩
set_option maxRecDepth 20000 in
theorem gm_X11_in : mx_gm mm_X11_in true := ⟨⟨by decide +kernel, by decide +kernel, by decide +kernel, by decide, rfl⟩, List.mem_of_getElem? (i := 1198) rfl, List.mem_of_getElem? (i := 102) (by decide +kernel), List.mem_of_getElem? (i := 1197) (by decide +kernel)⟩
set_option maxRecDepth 20000 in
theorem gm_X11_type : mx_gm mm_X11_type false := ⟨⟨by decide +kernel, by decide +kernel, by decide +kernel, by decide, rfl⟩, List.mem_of_getElem? (i := 1195) rfl, List.mem_of_getElem? (i := 102) (by decide +kernel), List.mem_of_getElem? (i := 1193) (by decide +kernel), List.mem_of_getElem? (i := 1194) (by decide +kernel)⟩
set_option maxRecDepth 20000 in
theorem gm_X11_isLetter : mx_gm mm_X11_isLetter true := ⟨⟨by decide +kernel, by decide +kernel, by decide +kernel, by decide, rfl⟩, List.mem_of_getElem? (i := 1216) rfl, List.mem_of_getElem? (i := 102) (by decide +kernel), List.mem_of_getElem? (i := 1215) (by decide +kernel)⟩
set_option maxRecDepth 20000 in
theorem gm_X11_isDigit : mx_gm mm_X11_isDigit true := ⟨⟨by decide +kernel, by decide +kernel, by decide +kernel, by decide, rfl⟩, List.mem_of_getElem? (i := 1219) rfl, List.mem_of_getElem? (i := 102) (by decide +kernel), List.mem_of_getElem? (i := 1218) (by decide +kernel)⟩
set_option maxRecDepth 20000 in
theorem gm_X11_isSign : mx_gm mm_X11_isSign true := ⟨⟨by decide +kernel, by decide +kernel, by decide +kernel, by decide, rfl⟩, List.mem_of_getElem? (i := 1213) rfl, List.mem_of_getElem? (i := 102) (by decide +kernel), List.mem_of_getElem? (i := 1212) (by decide +kernel)⟩
set_option maxRecDepth 20000 in
theorem gm_X11_next : mx_gm mm_X11_next false := ⟨⟨by decide +kernel, by decide +kernel, by decide +kernel, by decide, rfl⟩, List.mem_of_getElem? (i := 1210) rfl, List.mem_of_getElem? (i := 102) (by decide +kernel), List.mem_of_getElem? (i := 1209) (by decide +kernel), List.mem_of_getElem? (i := 63) (by decide +kernel)⟩
set_option maxRecDepth 20000 in
theorem gm_X11_wrong : mx_gm mm_X11_wrong false := ⟨⟨by decide +kernel, by decide +kernel, by decide +kernel, by decide, rfl⟩, List.mem_of_getElem? (i := 1227) rfl, List.mem_of_getElem? (i := 102) (by decide +kernel), List.mem_of_getElem? (i := 1226) (by decide +kernel), List.mem_of_getElem? (i := 65) (by decide +kernel)⟩
set_option maxRecDepth 20000 in
theorem gm_X11_pass : mx_gm mm_X11_pass false := ⟨⟨by decide +kernel, by decide +kernel, by decide +kernel, by decide, rfl⟩, List.mem_of_getElem? (i := 1223) rfl, List.mem_of_getElem? (i := 102) (by decide +kernel), List.mem_of_getElem? (i := 1222) (by decide +kernel), List.mem_of_getElem? (i := 64) (by decide +kernel)⟩
set_option maxRecDepth 20000 in
theorem gm_X11_word : mx_gm mm_X11_word false := ⟨⟨by decide +kernel, by decide +kernel, by decide +kernel, by decide, rfl⟩, List.mem_of_getElem? (i := 1286) rfl, List.mem_of_getElem? (i := 102) (by decide +kernel), List.mem_of_getElem? (i := 1285) (by decide +kernel), List.mem_of_getElem? (i := 70) (by decide +kernel)⟩
set_option maxRecDepth 20000 in
theorem gm_X11_number : mx_gm mm_X11_number false := ⟨⟨by decide +kernel, by decide +kernel, by decide +kernel, by decide, rfl⟩, List.mem_of_getElem? (i := 1297) rfl, List.mem_of_getElem? (i := 102) (by decide +kernel), List.mem_of_getElem? (i := 1296) (by decide +kernel), List.mem_of_getElem? (i := 72) (by decide +kernel)⟩
set_option maxRecDepth 20000 in
theorem gm_X11_kindOf : mx_gm mm_X11_kindOf true := ⟨⟨by decide +kernel, by decide +kernel, by decide +kernel, by decide, rfl⟩, List.mem_of_getElem? (i := 1243) rfl, List.mem_of_getElem? (i := 102) (by decide +kernel), List.mem_of_getElem? (i := 1242) (by decide +kernel)⟩
set_option maxRecDepth 20000 in
theorem gm_X11_isName : mx_gm mm_X11_isName false := ⟨⟨by decide +kernel, by decide +kernel, by decide +kernel, by decide, rfl⟩, List.mem_of_getElem? (i := 1240) rfl, List.mem_of_getElem? (i := 102) (by decide +kernel), List.mem_of_getElem? (i := 1239) (by decide +kernel), List.mem_of_getElem? (i := 67) (by decide +kernel)⟩
set_option maxRecDepth 20000 in
theorem gm_X11_readWidth : mx_gm mm_X11_readWidth false := ⟨⟨by decide +kernel, by decide +kernel, by decide +kernel, by decide, rfl⟩, List.mem_of_getElem? (i := 1291) rfl, List.mem_of_getElem? (i := 102) (by decide +kernel), List.mem_of_getElem? (i := 1290) (by decide +kernel), List.mem_of_getElem? (i := 71) (by decide +kernel)⟩
set_option maxRecDepth 20000 in
theorem gm_X11_readSort : mx_gm mm_X11_readSort false := ⟨⟨by decide +kernel, by decide +kernel, by decide +kernel, by decide, rfl⟩, List.mem_of_getElem? (i := 1282) rfl, List.mem_of_getElem? (i := 102) (by decide +kernel), List.mem_of_getElem? (i := 1281) (by decide +kernel), List.mem_of_getElem? (i := 69) (by decide +kernel)⟩
set_option maxRecDepth 20000 in
theorem gm_X11_make : mx_gm mm_X11_make false := ⟨⟨by decide +kernel, by decide +kernel, by decide +kernel, by decide, rfl⟩, List.mem_of_getElem? (i := 1312) rfl, List.mem_of_getElem? (i := 102) (by decide +kernel), List.mem_of_getElem? (i := 1311) (by decide +kernel), List.mem_of_getElem? (i := 75) (by decide +kernel)⟩
set_option maxRecDepth 20000 in
theorem gm_X11_atom : mx_gm mm_X11_atom false := ⟨⟨by decide +kernel, by decide +kernel, by decide +kernel, by decide, rfl⟩, List.mem_of_getElem? (i := 1344) rfl, List.mem_of_getElem? (i := 102) (by decide +kernel), List.mem_of_getElem? (i := 1343) (by decide +kernel), List.mem_of_getElem? (i := 82) (by decide +kernel)⟩
set_option maxRecDepth 20000 in
theorem gm_X11_push : mx_gm mm_X11_push false := ⟨⟨by decide +kernel, by decide +kernel, by decide +kernel, by decide, rfl⟩, List.mem_of_getElem? (i := 1340) rfl, List.mem_of_getElem? (i := 102) (by decide +kernel), List.mem_of_getElem? (i := 1339) (by decide +kernel), List.mem_of_getElem? (i := 81) (by decide +kernel)⟩
set_option maxRecDepth 20000 in
theorem gm_X11_readHead : mx_gm mm_X11_readHead false := ⟨⟨by decide +kernel, by decide +kernel, by decide +kernel, by decide, rfl⟩, List.mem_of_getElem? (i := 1328) rfl, List.mem_of_getElem? (i := 102) (by decide +kernel), List.mem_of_getElem? (i := 1327) (by decide +kernel), List.mem_of_getElem? (i := 79) (by decide +kernel)⟩
set_option maxRecDepth 20000 in
theorem gm_X11_readIndexed : mx_gm mm_X11_readIndexed false := ⟨⟨by decide +kernel, by decide +kernel, by decide +kernel, by decide, rfl⟩, List.mem_of_getElem? (i := 1332) rfl, List.mem_of_getElem? (i := 102) (by decide +kernel), List.mem_of_getElem? (i := 1331) (by decide +kernel), List.mem_of_getElem? (i := 80) (by decide +kernel)⟩
set_option maxRecDepth 20000 in
theorem gm_X11_parts : mx_gm mm_X11_parts true := ⟨⟨by decide +kernel, by decide +kernel, by decide +kernel, by decide, rfl⟩, List.mem_of_getElem? (i := 1356) rfl, List.mem_of_getElem? (i := 102) (by decide +kernel), List.mem_of_getElem? (i := 1355) (by decide +kernel)⟩
set_option maxRecDepth 20000 in
theorem gm_X11_fits : mx_gm mm_X11_fits false := ⟨⟨by decide +kernel, by decide +kernel, by decide +kernel, by decide, rfl⟩, List.mem_of_getElem? (i := 1353) rfl, List.mem_of_getElem? (i := 102) (by decide +kernel), List.mem_of_getElem? (i := 1352) (by decide +kernel), List.mem_of_getElem? (i := 84) (by decide +kernel)⟩
set_option maxRecDepth 20000 in
theorem gm_X11_build : mx_gm mm_X11_build false := ⟨⟨by decide +kernel, by decide +kernel, by decide +kernel, by decide, rfl⟩, List.mem_of_getElem? (i := 1360) rfl, List.mem_of_getElem? (i := 102) (by decide +kernel), List.mem_of_getElem? (i := 1359) (by decide +kernel), List.mem_of_getElem? (i := 85) (by decide +kernel)⟩
set_option maxRecDepth 20000 in
theorem gm_X11_deliver : mx_gm mm_X11_deliver false := ⟨⟨by decide +kernel, by decide +kernel, by decide +kernel, by decide, rfl⟩, List.mem_of_getElem? (i := 1349) rfl, List.mem_of_getElem? (i := 102) (by decide +kernel), List.mem_of_getElem? (i := 1348) (by decide +kernel), List.mem_of_getElem? (i := 83) (by decide +kernel)⟩
set_option maxRecDepth 20000 in
theorem gm_X11_readTerm : mx_gm mm_X11_readTerm false := ⟨⟨by decide +kernel, by decide +kernel, by decide +kernel, by decide, rfl⟩, List.mem_of_getElem? (i := 1324) rfl, List.mem_of_getElem? (i := 102) (by decide +kernel), List.mem_of_getElem? (i := 1323) (by decide +kernel), List.mem_of_getElem? (i := 78) (by decide +kernel)⟩
set_option maxRecDepth 20000 in
theorem gm_X11_isConstant : mx_gm mm_X11_isConstant false := ⟨⟨by decide +kernel, by decide +kernel, by decide +kernel, by decide, rfl⟩, List.mem_of_getElem? (i := 1278) rfl, List.mem_of_getElem? (i := 102) (by decide +kernel), List.mem_of_getElem? (i := 1277) (by decide +kernel), List.mem_of_getElem? (i := 68) (by decide +kernel)⟩
set_option maxRecDepth 20000 in
theorem gm_X11_bitsOf : mx_gm mm_X11_bitsOf true := ⟨⟨by decide +kernel, by decide +kernel, by decide +kernel, by decide, rfl⟩, List.mem_of_getElem? (i := 1308) rfl, List.mem_of_getElem? (i := 102) (by decide +kernel), List.mem_of_getElem? (i := 1307) (by decide +kernel)⟩
set_option maxRecDepth 20000 in
theorem gm_X11_allBits : mx_gm mm_X11_allBits false := ⟨⟨by decide +kernel, by decide +kernel, by decide +kernel, by decide, rfl⟩, List.mem_of_getElem? (i := 1305) rfl, List.mem_of_getElem? (i := 102) (by decide +kernel), List.mem_of_getElem? (i := 1304) (by decide +kernel), List.mem_of_getElem? (i := 74) (by decide +kernel)⟩
set_option maxRecDepth 20000 in
theorem gm_X11_tooMany : mx_gm mm_X11_tooMany false := ⟨⟨by decide +kernel, by decide +kernel, by decide +kernel, by decide, rfl⟩, List.mem_of_getElem? (i := 1316) rfl, List.mem_of_getElem? (i := 102) (by decide +kernel), List.mem_of_getElem? (i := 1315) (by decide +kernel), List.mem_of_getElem? (i := 76) (by decide +kernel)⟩
set_option maxRecDepth 20000 in
theorem gm_X11_ends : mx_gm mm_X11_ends false := ⟨⟨by decide +kernel, by decide +kernel, by decide +kernel, by decide, rfl⟩, List.mem_of_getElem? (i := 1301) rfl, List.mem_of_getElem? (i := 102) (by decide +kernel), List.mem_of_getElem? (i := 1300) (by decide +kernel), List.mem_of_getElem? (i := 73) (by decide +kernel)⟩
set_option maxRecDepth 20000 in
theorem gm_X11_declare : mx_gm mm_X11_declare false := ⟨⟨by decide +kernel, by decide +kernel, by decide +kernel, by decide, rfl⟩, List.mem_of_getElem? (i := 1236) rfl, List.mem_of_getElem? (i := 102) (by decide +kernel), List.mem_of_getElem? (i := 1235) (by decide +kernel), List.mem_of_getElem? (i := 66) (by decide +kernel)⟩
set_option maxRecDepth 20000 in
theorem gm_X11_claim : mx_gm mm_X11_claim false := ⟨⟨by decide +kernel, by decide +kernel, by decide +kernel, by decide, rfl⟩, List.mem_of_getElem? (i := 1320) rfl, List.mem_of_getElem? (i := 102) (by decide +kernel), List.mem_of_getElem? (i := 1319) (by decide +kernel), List.mem_of_getElem? (i := 77) (by decide +kernel)⟩
set_option maxRecDepth 20000 in
theorem gm_X11_open : mx_gm mm_X11_open false := ⟨⟨by decide +kernel, by decide +kernel, by decide +kernel, by decide, rfl⟩, List.mem_of_getElem? (i := 1364) rfl, List.mem_of_getElem? (i := 102) (by decide +kernel), List.mem_of_getElem? (i := 1363) (by decide +kernel), List.mem_of_getElem? (i := 86) (by decide +kernel)⟩
set_option maxRecDepth 20000 in
theorem gm_X11_shut : mx_gm mm_X11_shut false := ⟨⟨by decide +kernel, by decide +kernel, by decide +kernel, by decide, rfl⟩, List.mem_of_getElem? (i := 1368) rfl, List.mem_of_getElem? (i := 102) (by decide +kernel), List.mem_of_getElem? (i := 1367) (by decide +kernel), List.mem_of_getElem? (i := 87) (by decide +kernel)⟩
set_option maxRecDepth 20000 in
theorem gm_X11_perform : mx_gm mm_X11_perform false := ⟨⟨by decide +kernel, by decide +kernel, by decide +kernel, by decide, rfl⟩, List.mem_of_getElem? (i := 1206) rfl, List.mem_of_getElem? (i := 102) (by decide +kernel), List.mem_of_getElem? (i := 1205) (by decide +kernel), List.mem_of_getElem? (i := 62) (by decide +kernel)⟩
set_option maxRecDepth 20000 in
theorem gm_X11_command : mx_gm mm_X11_command false := ⟨⟨by decide +kernel, by decide +kernel, by decide +kernel, by decide, rfl⟩, List.mem_of_getElem? (i := 1202) rfl, List.mem_of_getElem? (i := 102) (by decide +kernel), List.mem_of_getElem? (i := 1200) (by decide +kernel), List.mem_of_getElem? (i := 1201) (by decide +kernel)⟩
set_option maxRecDepth 20000 in
theorem gm_X11_sign : mx_gm mm_X11_sign true := ⟨⟨by decide +kernel, by decide +kernel, by decide +kernel, by decide, rfl⟩, List.mem_of_getElem? (i := 1386) rfl, List.mem_of_getElem? (i := 102) (by decide +kernel), List.mem_of_getElem? (i := 1385) (by decide +kernel)⟩
set_option maxRecDepth 20000 in
theorem gm_X11_onWords : mx_gm mm_X11_onWords true := ⟨⟨by decide +kernel, by decide +kernel, by decide +kernel, by decide, rfl⟩, List.mem_of_getElem? (i := 1389) rfl, List.mem_of_getElem? (i := 102) (by decide +kernel), List.mem_of_getElem? (i := 1388) (by decide +kernel)⟩
set_option maxRecDepth 20000 in
theorem gm_X11_isTrue : mx_gm mm_X11_isTrue true := ⟨⟨by decide +kernel, by decide +kernel, by decide +kernel, by decide, rfl⟩, List.mem_of_getElem? (i := 1383) rfl, List.mem_of_getElem? (i := 102) (by decide +kernel), List.mem_of_getElem? (i := 1382) (by decide +kernel)⟩
set_option maxRecDepth 20000 in
theorem gm_X11_work : mx_gm mm_X11_work false := ⟨⟨by decide +kernel, by decide +kernel, by decide +kernel, by decide, rfl⟩, List.mem_of_getElem? (i := 1380) rfl, List.mem_of_getElem? (i := 102) (by decide +kernel), List.mem_of_getElem? (i := 1379) (by decide +kernel), List.mem_of_getElem? (i := 89) (by decide +kernel)⟩
set_option maxRecDepth 20000 in
theorem gm_X11_workAll : mx_gm mm_X11_workAll false := ⟨⟨by decide +kernel, by decide +kernel, by decide +kernel, by decide, rfl⟩, List.mem_of_getElem? (i := 1376) rfl, List.mem_of_getElem? (i := 102) (by decide +kernel), List.mem_of_getElem? (i := 1375) (by decide +kernel), List.mem_of_getElem? (i := 88) (by decide +kernel)⟩
set_option maxRecDepth 20000 in
theorem gm_X11_holds : mx_gm mm_X11_holds false := ⟨⟨by decide +kernel, by decide +kernel, by decide +kernel, by decide, rfl⟩, List.mem_of_getElem? (i := 1372) rfl, List.mem_of_getElem? (i := 102) (by decide +kernel), List.mem_of_getElem? (i := 1370) (by decide +kernel), List.mem_of_getElem? (i := 1371) (by decide +kernel)⟩
set_option maxRecDepth 20000 in
theorem gm_X11_deal : mx_gm mm_X11_deal false := ⟨⟨by decide +kernel, by decide +kernel, by decide +kernel, by decide, rfl⟩, List.mem_of_getElem? (i := 1397) rfl, List.mem_of_getElem? (i := 102) (by decide +kernel), List.mem_of_getElem? (i := 1396) (by decide +kernel), List.mem_of_getElem? (i := 90) (by decide +kernel)⟩
set_option maxRecDepth 20000 in
theorem gm_X11_least : mx_gm mm_X11_least false := ⟨⟨by decide +kernel, by decide +kernel, by decide +kernel, by decide, rfl⟩, List.mem_of_getElem? (i := 1401) rfl, List.mem_of_getElem? (i := 102) (by decide +kernel), List.mem_of_getElem? (i := 1400) (by decide +kernel), List.mem_of_getElem? (i := 91) (by decide +kernel)⟩
set_option maxRecDepth 20000 in
theorem gm_X11_check : mx_gm mm_X11_check false := ⟨⟨by decide +kernel, by decide +kernel, by decide +kernel, by decide, rfl⟩, List.mem_of_getElem? (i := 1393) rfl, List.mem_of_getElem? (i := 102) (by decide +kernel), List.mem_of_getElem? (i := 1391) (by decide +kernel), List.mem_of_getElem? (i := 1392) (by decide +kernel)⟩
set_option maxRecDepth 20000 in
theorem gm_X11_value : mx_gm mm_X11_value false := ⟨⟨by decide +kernel, by decide +kernel, by decide +kernel, by decide, rfl⟩, List.mem_of_getElem? (i := 1405) rfl, List.mem_of_getElem? (i := 102) (by decide +kernel), List.mem_of_getElem? (i := 1403) (by decide +kernel), List.mem_of_getElem? (i := 1404) (by decide +kernel)⟩
set_option maxRecDepth 20000 in
theorem gm_X11_core : mx_gm mm_X11_core false := ⟨⟨by decide +kernel, by decide +kernel, by decide +kernel, by decide, rfl⟩, List.mem_of_getElem? (i := 1409) rfl, List.mem_of_getElem? (i := 102) (by decide +kernel), List.mem_of_getElem? (i := 1407) (by decide +kernel), List.mem_of_getElem? (i := 1408) (by decide +kernel)⟩
set_option maxRecDepth 20000 in
theorem gm_X11_terms : mx_gm mm_X11_terms false := ⟨⟨by decide +kernel, by decide +kernel, by decide +kernel, by decide, rfl⟩, List.mem_of_getElem? (i := 1413) rfl, List.mem_of_getElem? (i := 102) (by decide +kernel), List.mem_of_getElem? (i := 1411) (by decide +kernel), List.mem_of_getElem? (i := 1412) (by decide +kernel)⟩
set_option maxRecDepth 20000 in
theorem gm_X11_count : mx_gm mm_X11_count false := ⟨⟨by decide +kernel, by decide +kernel, by decide +kernel, by decide, rfl⟩, List.mem_of_getElem? (i := 1417) rfl, List.mem_of_getElem? (i := 102) (by decide +kernel), List.mem_of_getElem? (i := 1415) (by decide +kernel), List.mem_of_getElem? (i := 1416) (by decide +kernel)⟩
