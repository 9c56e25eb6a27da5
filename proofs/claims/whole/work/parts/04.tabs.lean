/-! MINI. A small machine: cells have numbers (ids), the cells' shapes and the linking of the class files stand in tables (part 03), ints, longs and words of arrays stand in three functions. 'mx_D F h' is what a frame comes to, without fuel. -/
abbrev mx_H : Type := (Nat → Nat → Int32) × (Nat → Nat → Int64) × (Nat → Nat → Option Nat)
/-- a method: rank, whether its rank falls with its last argument, number of its class, name, code, locals, what it returns -/
abbrev mx_M : Type := Nat × Bool × Nat × MethodName × ByteArray × Nat × Option FieldType
abbrev mx_F : Type := Nat × mx_M × Nat × List Value × List Value
abbrev mx_O : Type := Option Value × mx_H
/-- a cell's shape: an object (number of its class, for each field: the cell that it names for ever, or int (false), or long (true)) or an array (kind, length) -/
abbrev mx_Sh : Type := (Nat × List (Nat ⊕ Bool)) ⊕ (Nat × Nat)
abbrev mx_junk : Value := .retAddr 0
def mx_j (v : Value) : Value := match v with
  | .long _ => mx_junk
  | .double _ => mx_junk
  | w => w
def mx_st1 (L : List Value) (i : Nat) (v : Value) : List Value := match i with
  | 0 => L.set 0 v
  | k + 1 => (L.modify k mx_j).set (k + 1) v
def mx_st2 (L : List Value) (i : Nat) (v : Value) : List Value := (mx_st1 L i v).set (i + 1) mx_junk
/-- is it a reference or null -/
def mx_ar (v : Value) : Bool := match v with
  | .ref _ => true
  | .null => true
  | _ => false
def mx_rf (o : Option Nat) : Value := match o with
  | none => .null
  | some a => .ref a
/-- null, or a word -/
def mx_wr (v : Value) : Bool := match v with
  | .null => true
  | .ref a => decide (1000 ≤ a ∧ a < 1042)
  | _ => false
theorem mx_ar_rf (o : Option Nat) : mx_ar (mx_rf o) = true := by cases o <;> rfl
def mx_u {α : Type} (f : Nat → Nat → α) (a k : Nat) (x : α) : Nat → Nat → α := fun b j => if b = a ∧ j = k then x else f b j
def mx_lay : List Value → List Value
  | [] => []
  | .long x :: r => .long x :: mx_junk :: mx_lay r
  | .double x :: r => .double x :: mx_junk :: mx_lay r
  | v :: r => v :: mx_lay r
def mx_pad (n : Nat) (L : List Value) : List Value := L ++ List.replicate (n - L.length) mx_junk
def mx_rank (m : mx_M) (as : List Value) : Nat := match m.2.1 with
  | false => m.1
  | true => match as.getLast? with
    | some (.int x) => m.1 + 3 * (9 - x.toNatClampNeg)
    | _ => m.1 + 27
def mx_ent (m : mx_M) (as : List Value) : mx_F := (mx_rank m as, m, 0, mx_pad m.2.2.2.2.2.1 (mx_lay as), [])
def mx_tg (pc : Nat) (off : Int) : Option Nat := if 0 ≤ (pc : Int) + off then some ((pc : Int) + off).toNat else none
def mx_cmp (cd : ClassFile.Cond) (x y : Int32) : Bool := match cd with
  | .eq => decide (x = y)
  | .ne => decide (¬ x = y)
  | .lt => decide (x < y)
  | .ge => decide (y ≤ x)
  | .gt => decide (y < x)
  | .le => decide (x ≤ y)
abbrev vwCl : List vw_C := [(RX1, TX1, 7), (RX2, TX2, 5), (RX3, TX3, 6), (RX4, TX4, 12), (RX5, TX5, 10), (RX6, TX6, 14), (RX7, TX7, 5), (RX8, TX8, 6), (RX10, TX10, 11), (RX11, TX11, 41)]
def mx_shpL : List mx_Sh := [.inl (8, [.inl 1, .inl 6, .inl 11, .inl 18, .inl 22, .inl 28, .inl 33, .inl 46, .inr false, .inr false, .inr false]),
  .inl (7, [.inl 2, .inr false, .inl 3, .inl 4, .inl 5, .inr false]),
  .inr (1, 120),
  .inr (0, 121),
  .inr (0, 121),
  .inr (4, 121),
  .inl (6, [.inl 7, .inl 8, .inl 9, .inl 10, .inr false]),
  .inr (4, 180),
  .inr (0, 540),
  .inr (0, 360),
  .inr (0, 180),
  .inl (4, [.inl 12, .inl 13, .inr false, .inr false, .inl 14, .inr false, .inl 15, .inl 16, .inl 17, .inr false]),
  .inr (0, 8),
  .inr (0, 8),
  .inr (0, 12),
  .inr (0, 4),
  .inr (0, 4),
  .inr (0, 4),
  .inl (3, [.inl 1, .inl 6, .inl 11, .inr false, .inr false, .inr false, .inr false, .inr false, .inl 19, .inl 20, .inl 21, .inr false]),
  .inr (0, 27),
  .inr (0, 8),
  .inr (0, 8),
  .inl (2, [.inl 23, .inl 24, .inl 25, .inl 26, .inl 27, .inr false]),
  .inr (0, 1065),
  .inr (0, 1065),
  .inr (0, 1065),
  .inr (0, 1065),
  .inr (0, 1065),
  .inl (0, [.inl 6, .inl 22, .inl 29, .inr false, .inl 30, .inl 31, .inl 32]),
  .inr (0, 480),
  .inr (0, 4),
  .inr (0, 4),
  .inr (0, 4),
  .inl (5, [.inl 22, .inl 34, .inl 39, .inr false, .inl 40, .inl 41, .inl 42, .inl 43, .inl 44, .inr false, .inr false, .inr false, .inl 45, .inr false]),
  .inl (1, [.inl 35, .inl 36, .inr false, .inl 37, .inl 38]),
  .inr (0, 14828),
  .inr (0, 4517),
  .inr (0, 2130),
  .inr (0, 9032),
  .inr (0, 8),
  .inr (2, 1065),
  .inr (0, 1065),
  .inr (0, 1065),
  .inr (0, 1065),
  .inr (0, 1065),
  .inr (0, 8),
  .inr (0, 12),
  .inl (9, [.inl 48, .inr false, .inr false, .inr false, .inr false, .inr true, .inr true, .inr false, .inr false, .inr false, .inl 49, .inl 50, .inl 51, .inl 52, .inl 53, .inl 54, .inl 55, .inr false, .inr false, .inl 56, .inl 57, .inl 58, .inl 59, .inl 60, .inl 61, .inl 62, .inr false, .inr false, .inr false, .inl 63, .inl 64, .inr false, .inl 65, .inr false, .inl 66, .inl 67, .inl 68, .inl 69, .inr false, .inl 70, .inl 71]),
  .inr (0, 120),
  .inr (0, 130),
  .inr (0, 130),
  .inr (0, 130),
  .inr (0, 130),
  .inr (0, 130),
  .inr (0, 130),
  .inr (0, 130),
  .inr (0, 12),
  .inr (0, 12),
  .inr (0, 12),
  .inr (0, 36),
  .inr (0, 12),
  .inr (0, 12),
  .inr (3, 12),
  .inr (3, 12),
  .inr (0, 12),
  .inr (0, 12),
  .inr (0, 4),
  .inr (0, 4),
  .inr (0, 130),
  .inr (2, 3072),
  .inr (0, 12),
  .inr (2, 12)]
def mx_shp (a : Nat) : Option mx_Sh := mx_shpL[a]?
def mx_ci (o : Nat) : Nat := match o with
  | 1 => 0
  | 2 => 1
  | 3 => 2
  | 4 => 3
  | 5 => 4
  | 6 => 5
  | 7 => 6
  | 8 => 7
  | 10 => 8
  | 11 => 9
  | _ => 98
def mx_wn : List String := ["BOOL_SORT", "BIT_VEC", "ARRAY", "NUMBERED", "DECLARE", "ASSERT", "PUSH", "POP", "TRUTH", "FALSEHOOD", "LET", "NOT", "AND", "OR", "XOR", "IMPLIES", "EQUAL", "DISTINCT", "ITE", "BV_NOT", "BV_NEG", "BV_AND", "BV_OR", "BV_XOR", "BV_ADD", "BV_SUB", "BV_MUL", "BV_UDIV", "BV_UREM", "BV_SHL", "BV_LSHR", "BV_ASHR", "BV_ULT", "BV_ULE", "BV_SLT", "BV_SLE", "CONCAT", "EXTRACT", "ZERO_EXTEND", "SIGN_EXTEND", "SELECT", "STORE"]
def mx_txtL : List (List Nat) := [[66, 111, 111, 108], [66, 105, 116, 86, 101, 99], [65, 114, 114, 97, 121], [95], [100, 101, 99, 108, 97, 114, 101, 45, 99, 111, 110, 115, 116], [97, 115, 115, 101, 114, 116], [112, 117, 115, 104], [112, 111, 112], [116, 114, 117, 101], [102, 97, 108, 115, 101], [108, 101, 116], [110, 111, 116], [97, 110, 100], [111, 114], [120, 111, 114], [61, 62], [61], [100, 105, 115, 116, 105, 110, 99, 116], [105, 116, 101], [98, 118, 110, 111, 116], [98, 118, 110, 101, 103], [98, 118, 97, 110, 100], [98, 118, 111, 114], [98, 118, 120, 111, 114], [98, 118, 97, 100, 100], [98, 118, 115, 117, 98], [98, 118, 109, 117, 108], [98, 118, 117, 100, 105, 118], [98, 118, 117, 114, 101, 109], [98, 118, 115, 104, 108], [98, 118, 108, 115, 104, 114], [98, 118, 97, 115, 104, 114], [98, 118, 117, 108, 116], [98, 118, 117, 108, 101], [98, 118, 115, 108, 116], [98, 118, 115, 108, 101], [99, 111, 110, 99, 97, 116], [101, 120, 116, 114, 97, 99, 116], [122, 101, 114, 111, 95, 101, 120, 116, 101, 110, 100], [115, 105, 103, 110, 95, 101, 120, 116, 101, 110, 100], [115, 101, 108, 101, 99, 116], [115, 116, 111, 114, 101]]
def mx_txt (i : Nat) : List Nat := mx_txtL.getD i []
def mx_wsh : List (Int32 × Int32) := [(0, 0), (0, 0), (0, 0), (0, 0), (0, 0), (0, 0), (0, 0), (0, 0), (0, 0), (0, 0), (0, 0), (1, 1), (1, 2), (1, 2), (1, 2), (1, 2), (2, 2), (2, 2), (3, 3), (4, 1), (4, 1), (4, 2), (4, 2), (4, 2), (4, 2), (4, 2), (4, 2), (4, 2), (4, 2), (4, 2), (4, 2), (4, 2), (5, 2), (5, 2), (5, 2), (5, 2), (6, 2), (7, 1), (8, 1), (8, 1), (9, 2), (9, 3)]
def mx_wf (i k : Nat) : Option Value := match k with
  | 0 => some (.ref (3000 + i))
  | 1 => some (.int (mx_wsh.getD i (0, 0)).1)
  | 2 => some (.int (mx_wsh.getD i (0, 0)).2)
  | _ => none
def mx_swL : List Int32 := [0, 0, 0, 0, 1, 2, 3, 0, 0, 0, 0, 4, 5, 6, 7, 0, 0, 0, 0, 0, 8, 17, 18, 19, 9, 10, 11, 12, 13, 14, 15, 16, 0, 0, 0, 0, 0, 0, 0, 0, 0, 0]
def mx_swm (i : Nat) : Int32 := mx_swL.getD i 0
def mm_X1_bitOf : mx_M := (1, false, 1, yX1_bitOf, cX1_bitOf, 3, (some .int))
def mm_X1_set : mx_M := (1, false, 1, yX1_set, cX1_set, 3, none)
def mm_X1_grow : mx_M := (14, false, 1, yX1_grow, cX1_grow, 5, none)
def mm_X1_widthOf : mx_M := (3, false, 1, yX1_widthOf, cX1_widthOf, 2, (some .int))
def mm_X1_begin : mx_M := (4, false, 1, yX1_begin, cX1_begin, 4, none)
def mm_X1_logic : mx_M := (12, false, 1, yX1_logic, cX1_logic, 4, (some .int))
def mm_X1_equal : mx_M := (4, false, 1, yX1_equal, cX1_equal, 5, (some .int))
def mm_X1_choose : mx_M := (4, false, 1, yX1_choose, cX1_choose, 5, none)
def mm_X1_less : mx_M := (4, false, 1, yX1_less, cX1_less, 9, (some .int))
def mm_X1_place : mx_M := (4, false, 1, yX1_place, cX1_place, 9, none)
def mm_X1_reach : mx_M := (4, false, 1, yX1_reach, cX1_reach, 10, none)
def mm_X1_calculate : mx_M := (13, false, 1, yX1_calculate, cX1_calculate, 6, none)
def mm_X1_mix : mx_M := (12, false, 1, yX1_mix, cX1_mix, 6, none)
def mm_X1_loadLeft : mx_M := (2, false, 1, yX1_loadLeft, cX1_loadLeft, 4, none)
def mm_X1_loadRight : mx_M := (2, false, 1, yX1_loadRight, cX1_loadRight, 5, none)
def mm_X1_add : mx_M := (4, false, 1, yX1_add, cX1_add, 6, (some .int))
def mm_X1_multiply : mx_M := (5, false, 1, yX1_multiply, cX1_multiply, 6, none)
def mm_X1_divide : mx_M := (5, false, 1, yX1_divide, cX1_divide, 8, none)
def mm_X1_shift : mx_M := (4, false, 1, yX1_shift, cX1_shift, 11, none)
def mm_X2_clear : mx_M := (1, false, 2, yX2_clear, cX2_clear, 3, none)
def mm_X2_tell : mx_M := (4, false, 2, yX2_tell, cX2_tell, 6, none)
def mm_X2_add : mx_M := (3, false, 2, yX2_add, cX2_add, 4, none)
def mm_X2_gather : mx_M := (1, false, 2, yX2_gather, cX2_gather, 2, none)
def mm_X2_finish : mx_M := (2, false, 2, yX2_finish, cX2_finish, 2, (some .int))
def mm_X2_watched : mx_M := (1, false, 2, yX2_watched, cX2_watched, 2, (some .int))
def mm_X2_watch : mx_M := (1, false, 2, yX2_watch, cX2_watch, 3, none)
def mm_X2_exchange : mx_M := (2, false, 2, yX2_exchange, cX2_exchange, 5, none)
def mm_X3_and : mx_M := (2, false, 3, yX3_and, cX3_and, 3, (some .int))
def mm_X3_or : mx_M := (3, false, 3, yX3_or, cX3_or, 3, (some .int))
def mm_X3_xor : mx_M := (2, false, 3, yX3_xor, cX3_xor, 3, (some .int))
def mm_X3_mux : mx_M := (3, false, 3, yX3_mux, cX3_mux, 6, (some .int))
def mm_X3_put : mx_M := (1, false, 3, yX3_put, cX3_put, 5, (some .int))
def mm_X3_simulate : mx_M := (3, false, 3, yX3_simulate, cX3_simulate, 5, (some .int))
def mm_X3_simulateGate : mx_M := (2, false, 3, yX3_simulateGate, cX3_simulateGate, 4, (some .int))
def mm_X3_valueOf : mx_M := (1, false, 3, yX3_valueOf, cX3_valueOf, 2, (some .int))
def mm_X4_read : mx_M := (36, false, 4, yX4_read, cX4_read, 2, (some (.object "TermSolver$Word")))
def mm_X4_readBehind : mx_M := (35, false, 4, yX4_readBehind, cX4_readBehind, 4, (some .boolean))
def mm_X4_failAt : mx_M := (1, false, 4, yX4_failAt, cX4_failAt, 2, (some .boolean))
def mm_X4_noTermAt : mx_M := (1, false, 4, yX4_noTermAt, cX4_noTermAt, 2, (some .int))
def mm_X4_bracket : mx_M := (2, false, 4, yX4_bracket, cX4_bracket, 2, (some .boolean))
def mm_X4_word : mx_M := (3, false, 4, yX4_word, cX4_word, 2, (some .boolean))
def mm_X4_readNewName : mx_M := (4, false, 4, yX4_readNewName, cX4_readNewName, 1, (some .boolean))
def mm_X4_readSort : mx_M := (5, false, 4, yX4_readSort, cX4_readSort, 1, (some .boolean))
def mm_X4_readWidth : mx_M := (4, false, 4, yX4_readWidth, cX4_readWidth, 2, (some .boolean))
def mm_X4_readTerm : mx_M := (7, true, 4, yX4_readTerm, cX4_readTerm, 3, (some .int))
def mm_X4_readAtom : mx_M := (4, false, 4, yX4_readAtom, cX4_readAtom, 6, (some .int))
def mm_X4_meaningOf : mx_M := (2, false, 4, yX4_meaningOf, cX4_meaningOf, 3, (some .int))
def mm_X4_readLet : mx_M := (6, true, 4, yX4_readLet, cX4_readLet, 5, (some .int))
def mm_X4_readNumbered : mx_M := (6, true, 4, yX4_readNumbered, cX4_readNumbered, 5, (some .int))
def mm_X4_readParts : mx_M := (5, true, 4, yX4_readParts, cX4_readParts, 8, (some .int))
def mm_X4_fits : mx_M := (2, false, 4, yX4_fits, cX4_fits, 7, (some .boolean))
def mm_X4_resultSort : mx_M := (2, false, 4, yX4_resultSort, cX4_resultSort, 6, (some .int))
def mm_X5_hasConstant : mx_M := (1, false, 5, yX5_hasConstant, cX5_hasConstant, 2, (some .boolean))
def mm_X5_hasAssertion : mx_M := (1, false, 5, yX5_hasAssertion, cX5_hasAssertion, 2, (some .boolean))
def mm_X5_find : mx_M := (1, false, 5, yX5_find, cX5_find, 3, (some .int))
def mm_X5_declare : mx_M := (1, false, 5, yX5_declare, cX5_declare, 4, (some .int))
def mm_X5_claim : mx_M := (1, false, 5, yX5_claim, cX5_claim, 2, (some .int))
def mm_X5_open : mx_M := (1, false, 5, yX5_open, cX5_open, 1, (some .int))
def mm_X5_close : mx_M := (1, false, 5, yX5_close, cX5_close, 1, (some .int))
def mm_X6_forgetOrder : mx_M := (1, false, 6, yX6_forgetOrder, cX6_forgetOrder, 1, none)
def mm_X6_decideNext : mx_M := (1, false, 6, yX6_decideNext, cX6_decideNext, 2, none)
def mm_X6_inputs : mx_M := (1, false, 6, yX6_inputs, cX6_inputs, 3, (some .int))
def mm_X6_canHold : mx_M := (14, false, 6, yX6_canHold, cX6_canHold, 5, (some .boolean))
def mm_X6_begin : mx_M := (2, false, 6, yX6_begin, cX6_begin, 2, none)
def mm_X6_truthOf : mx_M := (1, false, 6, yX6_truthOf, cX6_truthOf, 3, (some .int))
def mm_X6_assign : mx_M := (1, false, 6, yX6_assign, cX6_assign, 4, none)
def mm_X6_loadMarked : mx_M := (5, false, 6, yX6_loadMarked, cX6_loadMarked, 5, none)
def mm_X6_propagate : mx_M := (4, false, 6, yX6_propagate, cX6_propagate, 2, (some .int))
def mm_X6_visit : mx_M := (3, false, 6, yX6_visit, cX6_visit, 9, (some .int))
def mm_X6_openPlace : mx_M := (2, false, 6, yX6_openPlace, cX6_openPlace, 3, (some .int))
def mm_X6_decide : mx_M := (2, false, 6, yX6_decide, cX6_decide, 2, (some .boolean))
def mm_X6_learnFrom : mx_M := (13, false, 6, yX6_learnFrom, cX6_learnFrom, 5, (some .boolean))
def mm_X6_collectDecisions : mx_M := (2, false, 6, yX6_collectDecisions, cX6_collectDecisions, 4, none)
def mm_X6_markClause : mx_M := (1, false, 6, yX6_markClause, cX6_markClause, 3, none)
def mm_X6_goBack : mx_M := (12, false, 6, yX6_goBack, cX6_goBack, 2, none)
def mm_X7_has : mx_M := (1, false, 7, yX7_has, cX7_has, 2, (some .boolean))
def mm_X7_opOf : mx_M := (2, false, 7, yX7_opOf, cX7_opOf, 2, (some (.object "TermSolver$Word")))
def mm_X7_partOf : mx_M := (2, false, 7, yX7_partOf, cX7_partOf, 3, (some .int))
def mm_X7_numberOf : mx_M := (2, false, 7, yX7_numberOf, cX7_numberOf, 3, (some .int))
def mm_X7_sortOf : mx_M := (1, false, 7, yX7_sortOf, cX7_sortOf, 2, (some .int))
def mm_X7_addConstant : mx_M := (2, false, 7, yX7_addConstant, cX7_addConstant, 3, (some .int))
def mm_X7_prepare : mx_M := (1, false, 7, yX7_prepare, cX7_prepare, 6, none)
def mm_X7_preparePart : mx_M := (1, false, 7, yX7_preparePart, cX7_preparePart, 3, none)
def mm_X7_make : mx_M := (2, false, 7, yX7_make, cX7_make, 2, (some .int))
def mm_X7_isPrepared : mx_M := (1, false, 7, yX7_isPrepared, cX7_isPrepared, 3, (some .boolean))
def mm_X7_add : mx_M := (1, false, 7, yX7_add, cX7_add, 1, (some .int))
def mm_X7_cut : mx_M := (1, false, 7, yX7_cut, cX7_cut, 2, none)
def mm_X7_heavyOnes : mx_M := (2, false, 7, yX7_heavyOnes, cX7_heavyOnes, 3, (some .int))
def mm_X8_append : mx_M := (2, false, 8, yX8_append, cX8_append, 5, (some .boolean))
def mm_X8_byteOf : mx_M := (1, false, 8, yX8_byteOf, cX8_byteOf, 2, (some .int))
def mm_X8_clear : mx_M := (1, false, 8, yX8_clear, cX8_clear, 1, none)
def mm_X8_split : mx_M := (15, false, 8, yX8_split, cX8_split, 3, none)
def mm_X8_addToken : mx_M := (14, false, 8, yX8_addToken, cX8_addToken, 3, none)
def mm_X8_findWord : mx_M := (13, false, 8, yX8_findWord, cX8_findWord, 7, (some (.object "TermSolver$Word")))
def mm_X8_isSpelled : mx_M := (12, false, 8, yX8_isSpelled, cX8_isSpelled, 5, (some .boolean))
def mm_X8_isOfSymbol : mx_M := (2, false, 8, yX8_isOfSymbol, cX8_isOfSymbol, 1, (some .boolean))
def mm_X8_isLetter : mx_M := (1, false, 8, yX8_isLetter, cX8_isLetter, 1, (some .boolean))
def mm_X8_isDigit : mx_M := (1, false, 8, yX8_isDigit, cX8_isDigit, 1, (some .boolean))
def mm_X8_hasToken : mx_M := (1, false, 8, yX8_hasToken, cX8_hasToken, 2, (some .boolean))
def mm_X8_sizeOf : mx_M := (2, false, 8, yX8_sizeOf, cX8_sizeOf, 2, (some .int))
def mm_X8_start : mx_M := (2, false, 8, yX8_start, cX8_start, 2, (some .int))
def mm_X8_isBracket : mx_M := (1, false, 8, yX8_isBracket, cX8_isBracket, 3, (some .boolean))
def mm_X8_isEnd : mx_M := (3, false, 8, yX8_isEnd, cX8_isEnd, 2, (some .boolean))
def mm_X8_wordAt : mx_M := (2, false, 8, yX8_wordAt, cX8_wordAt, 2, (some (.object "TermSolver$Word")))
def mm_X8_nameAt : mx_M := (3, false, 8, yX8_nameAt, cX8_nameAt, 5, (some .int))
def mm_X8_numberAt : mx_M := (3, false, 8, yX8_numberAt, cX8_numberAt, 5, (some .int))
def mm_X8_widthAt : mx_M := (3, false, 8, yX8_widthAt, cX8_widthAt, 4, (some .int))
def mm_X8_bitsAt : mx_M := (3, false, 8, yX8_bitsAt, cX8_bitsAt, 5, (some .int))
def mm_X9_isHeavy : mx_M := (1, false, 9, yX9_isHeavy, cX9_isHeavy, 1, (some .boolean))
def mm_X9_takesNumbers : mx_M := (1, false, 9, yX9_takesNumbers, cX9_takesNumbers, 1, (some .boolean))
def mm_X10_type : mx_M := (3, false, 10, yX10_type, cX10_type, 3, (some .boolean))
def mm_X10_command : mx_M := (37, false, 10, yX10_command, cX10_command, 6, (some .int))
def mm_X10_check : mx_M := (16, false, 10, yX10_check, cX10_check, 2, (some .int))
def mm_X10_value : mx_M := (3, false, 10, yX10_value, cX10_value, 4, (some .int))
def mm_X10_core : mx_M := (2, false, 10, yX10_core, cX10_core, 2, (some .boolean))
def mm_X10_holds : mx_M := (4, false, 10, yX10_holds, cX10_holds, 3, (some .int))
def mm_X10_terms : mx_M := (1, false, 10, yX10_terms, cX10_terms, 1, (some .int))
def mm_X10_count : mx_M := (1, false, 10, yX10_count, cX10_count, 2, (some .int))
def mm_X10_refusal : mx_M := (12, false, 10, yX10_refusal, cX10_refusal, 4, (some .int))
def mm_X10_perform : mx_M := (12, false, 10, yX10_perform, cX10_perform, 2, (some .int))
def mm_X10_gatherRoots : mx_M := (2, false, 10, yX10_gatherRoots, cX10_gatherRoots, 2, none)
def mm_X10_orderInputs : mx_M := (3, false, 10, yX10_orderInputs, cX10_orderInputs, 5, none)
def mm_X10_coreOf : mx_M := (15, false, 10, yX10_coreOf, cX10_coreOf, 5, (some .int))
def mm_X10_bitsOf : mx_M := (2, false, 10, yX10_bitsOf, cX10_bitsOf, 1, (some .int))
def mm_X10_isWord : mx_M := (1, false, 10, yX10_isWord, cX10_isWord, 1, (some .boolean))
def mm_X10_isArray : mx_M := (1, false, 10, yX10_isArray, cX10_isArray, 1, (some .boolean))
def mm_X11_in : mx_M := (1, false, 11, yX11_in, cX11_in, 3, (some .boolean))
def mm_X11_type : mx_M := (2, false, 11, yX11_type, cX11_type, 5, (some .boolean))
def mm_X11_isLetter : mx_M := (2, false, 11, yX11_isLetter, cX11_isLetter, 1, (some .boolean))
def mm_X11_isDigit : mx_M := (2, false, 11, yX11_isDigit, cX11_isDigit, 1, (some .boolean))
def mm_X11_isSign : mx_M := (3, false, 11, yX11_isSign, cX11_isSign, 1, (some .boolean))
def mm_X11_next : mx_M := (4, false, 11, yX11_next, cX11_next, 2, none)
def mm_X11_wrong : mx_M := (1, false, 11, yX11_wrong, cX11_wrong, 2, (some .boolean))
def mm_X11_pass : mx_M := (5, false, 11, yX11_pass, cX11_pass, 2, (some .boolean))
def mm_X11_word : mx_M := (6, false, 11, yX11_word, cX11_word, 5, (some .boolean))
def mm_X11_number : mx_M := (3, false, 11, yX11_number, cX11_number, 5, (some .int))
def mm_X11_kindOf : mx_M := (1, false, 11, yX11_kindOf, cX11_kindOf, 5, (some .int))
def mm_X11_isName : mx_M := (3, false, 11, yX11_isName, cX11_isName, 3, (some .boolean))
def mm_X11_readWidth : mx_M := (7, false, 11, yX11_readWidth, cX11_readWidth, 3, (some .int))
def mm_X11_readSort : mx_M := (8, false, 11, yX11_readSort, cX11_readSort, 2, (some .int))
def mm_X11_make : mx_M := (1, false, 11, yX11_make, cX11_make, 11, (some .int))
def mm_X11_atom : mx_M := (2, false, 11, yX11_atom, cX11_atom, 5, (some .int))
def mm_X11_push : mx_M := (1, false, 11, yX11_push, cX11_push, 3, none)
def mm_X11_readHead : mx_M := (8, false, 11, yX11_readHead, cX11_readHead, 3, (some .boolean))
def mm_X11_readIndexed : mx_M := (7, false, 11, yX11_readIndexed, cX11_readIndexed, 6, (some .boolean))
def mm_X11_parts : mx_M := (2, false, 11, yX11_parts, cX11_parts, 1, (some .int))
def mm_X11_fits : mx_M := (2, false, 11, yX11_fits, cX11_fits, 7, (some .boolean))
def mm_X11_build : mx_M := (3, false, 11, yX11_build, cX11_build, 10, (some .int))
def mm_X11_deliver : mx_M := (6, false, 11, yX11_deliver, cX11_deliver, 7, (some .int))
def mm_X11_readTerm : mx_M := (9, false, 11, yX11_readTerm, cX11_readTerm, 4, (some .boolean))
def mm_X11_isConstant : mx_M := (1, false, 11, yX11_isConstant, cX11_isConstant, 3, (some .boolean))
def mm_X11_bitsOf : mx_M := (1, false, 11, yX11_bitsOf, cX11_bitsOf, 1, (some .int))
def mm_X11_allBits : mx_M := (2, false, 11, yX11_allBits, cX11_allBits, 3, (some .int))
def mm_X11_tooMany : mx_M := (2, false, 11, yX11_tooMany, cX11_tooMany, 3, (some .boolean))
def mm_X11_ends : mx_M := (6, false, 11, yX11_ends, cX11_ends, 1, (some .boolean))
def mm_X11_declare : mx_M := (9, false, 11, yX11_declare, cX11_declare, 5, (some .int))
def mm_X11_claim : mx_M := (10, false, 11, yX11_claim, cX11_claim, 1, (some .int))
def mm_X11_open : mx_M := (7, false, 11, yX11_open, cX11_open, 1, (some .int))
def mm_X11_shut : mx_M := (7, false, 11, yX11_shut, cX11_shut, 1, (some .int))
def mm_X11_perform : mx_M := (11, false, 11, yX11_perform, cX11_perform, 3, (some .int))
def mm_X11_command : mx_M := (12, false, 11, yX11_command, cX11_command, 2, (some .int))
def mm_X11_sign : mx_M := (1, false, 11, yX11_sign, cX11_sign, 2, (some .int))
def mm_X11_onWords : mx_M := (2, false, 11, yX11_onWords, cX11_onWords, 5, (some .int))
def mm_X11_isTrue : mx_M := (2, false, 11, yX11_isTrue, cX11_isTrue, 4, (some .boolean))
def mm_X11_work : mx_M := (3, false, 11, yX11_work, cX11_work, 11, (some .int))
def mm_X11_workAll : mx_M := (4, false, 11, yX11_workAll, cX11_workAll, 2, none)
def mm_X11_holds : mx_M := (5, false, 11, yX11_holds, cX11_holds, 6, (some .int))
def mm_X11_deal : mx_M := (2, false, 11, yX11_deal, cX11_deal, 6, none)
def mm_X11_least : mx_M := (1, false, 11, yX11_least, cX11_least, 6, (some .int))
def mm_X11_check : mx_M := (5, false, 11, yX11_check, cX11_check, 4, (some .int))
def mm_X11_value : mx_M := (2, false, 11, yX11_value, cX11_value, 2, (some .int))
def mm_X11_core : mx_M := (2, false, 11, yX11_core, cX11_core, 2, (some .boolean))
def mm_X11_terms : mx_M := (1, false, 11, yX11_terms, cX11_terms, 1, (some .int))
def mm_X11_count : mx_M := (1, false, 11, yX11_count, cX11_count, 2, (some .int))
def mx_fld_1 : List (Nat × Nat × Nat) := [(11, (0, 2)), (15, (0, 4)), (18, (0, 5)), (21, (0, 6)), (24, (0, 0)), (28, (0, 1)), (32, (0, 3)), (36, (6, 4)), (49, (99, 1))]
def mx_fld_2 : List (Nat × Nat × Nat) := [(11, (1, 0)), (15, (1, 1)), (18, (1, 3)), (21, (1, 4)), (24, (1, 2))]
def mx_fld_3 : List (Nat × Nat × Nat) := [(9, (2, 0)), (15, (2, 1)), (18, (2, 2)), (21, (2, 3)), (24, (2, 4)), (27, (2, 5))]
def mx_fld_4 : List (Nat × Nat × Nat) := [(9, (3, 8)), (15, (3, 9)), (18, (3, 10)), (21, (3, 0)), (25, (3, 1)), (29, (3, 2)), (33, (3, 3)), (37, (3, 11)), (40, (3, 4)), (90, (3, 7)), (105, (3, 5)), (116, (3, 6)), (153, (99, 2)), (199, (99, 1))]
def mx_fld_5 : List (Nat × Nat × Nat) := [(9, (4, 0)), (15, (4, 1)), (18, (4, 4)), (21, (4, 6)), (24, (4, 7)), (27, (4, 8)), (30, (4, 2)), (34, (4, 5)), (37, (4, 3)), (40, (4, 9))]
def mx_fld_6 : List (Nat × Nat × Nat) := [(12, (5, 1)), (18, (5, 2)), (22, (5, 4)), (26, (5, 5)), (29, (5, 6)), (32, (5, 7)), (35, (5, 8)), (38, (5, 12)), (41, (5, 0)), (45, (5, 3)), (76, (2, 5)), (85, (5, 9)), (88, (5, 10)), (91, (5, 11)), (94, (2, 3)), (97, (2, 1)), (100, (2, 2)), (103, (2, 0)), (113, (1, 3)), (116, (1, 4)), (131, (1, 1)), (134, (1, 0)), (140, (5, 13))]
def mx_fld_7 : List (Nat × Nat × Nat) := [(13, (6, 0)), (17, (6, 1)), (21, (6, 2)), (24, (6, 3)), (27, (6, 4))]
def mx_fld_8 : List (Nat × Nat × Nat) := [(9, (7, 0)), (15, (7, 2)), (19, (7, 3)), (24, (7, 4)), (28, (7, 1)), (36, (7, 5)), (54, (99, 0))]
def mx_fld_9 : List (Nat × Nat × Nat) := [(155, (99, 1))]
def mx_fld_10 : List (Nat × Nat × Nat) := [(12, (8, 0)), (19, (8, 1)), (26, (8, 2)), (35, (8, 3)), (42, (8, 4)), (51, (8, 5)), (60, (8, 6)), (64, (8, 7)), (68, (8, 8)), (76, (6, 4)), (86, (3, 4)), (110, (4, 5)), (127, (8, 9)), (133, (8, 10)), (140, (4, 1)), (156, (4, 4)), (165, (4, 2)), (168, (4, 9)), (180, (4, 3)), (183, (3, 6)), (189, (3, 5)), (199, (3, 7))]
def mx_fld_11 : List (Nat × Nat × Nat) := [(7, (9, 0)), (13, (9, 10)), (16, (9, 11)), (19, (9, 12)), (22, (9, 13)), (25, (9, 14)), (28, (9, 15)), (31, (9, 16)), (34, (9, 19)), (37, (9, 20)), (40, (9, 21)), (43, (9, 22)), (46, (9, 23)), (49, (9, 24)), (52, (9, 25)), (56, (9, 29)), (59, (9, 30)), (62, (9, 32)), (65, (9, 34)), (68, (9, 35)), (71, (9, 36)), (74, (9, 37)), (78, (9, 39)), (81, (9, 40)), (88, (9, 1)), (99, (9, 4)), (102, (9, 3)), (105, (9, 5)), (109, (9, 6)), (115, (9, 2)), (118, (9, 7)), (219, (9, 9)), (228, (9, 28)), (231, (9, 18)), (262, (9, 26)), (265, (9, 27)), (293, (9, 17)), (302, (9, 31)), (305, (9, 33)), (326, (9, 8)), (332, (9, 38))]
def mx_fld (o ix : Nat) : Option (Nat × Nat) := match o with
  | 1 => mx_fld_1.lookup ix
  | 2 => mx_fld_2.lookup ix
  | 3 => mx_fld_3.lookup ix
  | 4 => mx_fld_4.lookup ix
  | 5 => mx_fld_5.lookup ix
  | 6 => mx_fld_6.lookup ix
  | 7 => mx_fld_7.lookup ix
  | 8 => mx_fld_8.lookup ix
  | 9 => mx_fld_9.lookup ix
  | 10 => mx_fld_10.lookup ix
  | 11 => mx_fld_11.lookup ix
  | _ => none
theorem mx_fld_1_11 : mx_fld 1 11 = some (0, 2) := rfl
theorem mx_fld_1_15 : mx_fld 1 15 = some (0, 4) := rfl
theorem mx_fld_1_18 : mx_fld 1 18 = some (0, 5) := rfl
theorem mx_fld_1_21 : mx_fld 1 21 = some (0, 6) := rfl
theorem mx_fld_1_24 : mx_fld 1 24 = some (0, 0) := rfl
theorem mx_fld_1_28 : mx_fld 1 28 = some (0, 1) := rfl
theorem mx_fld_1_32 : mx_fld 1 32 = some (0, 3) := rfl
theorem mx_fld_1_36 : mx_fld 1 36 = some (6, 4) := rfl
theorem mx_fld_1_49 : mx_fld 1 49 = some (99, 1) := rfl
theorem mx_fld_2_11 : mx_fld 2 11 = some (1, 0) := rfl
theorem mx_fld_2_15 : mx_fld 2 15 = some (1, 1) := rfl
theorem mx_fld_2_18 : mx_fld 2 18 = some (1, 3) := rfl
theorem mx_fld_2_21 : mx_fld 2 21 = some (1, 4) := rfl
theorem mx_fld_2_24 : mx_fld 2 24 = some (1, 2) := rfl
theorem mx_fld_3_9 : mx_fld 3 9 = some (2, 0) := rfl
theorem mx_fld_3_15 : mx_fld 3 15 = some (2, 1) := rfl
theorem mx_fld_3_18 : mx_fld 3 18 = some (2, 2) := rfl
theorem mx_fld_3_21 : mx_fld 3 21 = some (2, 3) := rfl
theorem mx_fld_3_24 : mx_fld 3 24 = some (2, 4) := rfl
theorem mx_fld_3_27 : mx_fld 3 27 = some (2, 5) := rfl
theorem mx_fld_4_9 : mx_fld 4 9 = some (3, 8) := rfl
theorem mx_fld_4_15 : mx_fld 4 15 = some (3, 9) := rfl
theorem mx_fld_4_18 : mx_fld 4 18 = some (3, 10) := rfl
theorem mx_fld_4_21 : mx_fld 4 21 = some (3, 0) := rfl
theorem mx_fld_4_25 : mx_fld 4 25 = some (3, 1) := rfl
theorem mx_fld_4_29 : mx_fld 4 29 = some (3, 2) := rfl
theorem mx_fld_4_33 : mx_fld 4 33 = some (3, 3) := rfl
theorem mx_fld_4_37 : mx_fld 4 37 = some (3, 11) := rfl
theorem mx_fld_4_40 : mx_fld 4 40 = some (3, 4) := rfl
theorem mx_fld_4_90 : mx_fld 4 90 = some (3, 7) := rfl
theorem mx_fld_4_105 : mx_fld 4 105 = some (3, 5) := rfl
theorem mx_fld_4_116 : mx_fld 4 116 = some (3, 6) := rfl
theorem mx_fld_4_153 : mx_fld 4 153 = some (99, 2) := rfl
theorem mx_fld_4_199 : mx_fld 4 199 = some (99, 1) := rfl
theorem mx_fld_5_9 : mx_fld 5 9 = some (4, 0) := rfl
theorem mx_fld_5_15 : mx_fld 5 15 = some (4, 1) := rfl
theorem mx_fld_5_18 : mx_fld 5 18 = some (4, 4) := rfl
theorem mx_fld_5_21 : mx_fld 5 21 = some (4, 6) := rfl
theorem mx_fld_5_24 : mx_fld 5 24 = some (4, 7) := rfl
theorem mx_fld_5_27 : mx_fld 5 27 = some (4, 8) := rfl
theorem mx_fld_5_30 : mx_fld 5 30 = some (4, 2) := rfl
theorem mx_fld_5_34 : mx_fld 5 34 = some (4, 5) := rfl
theorem mx_fld_5_37 : mx_fld 5 37 = some (4, 3) := rfl
theorem mx_fld_5_40 : mx_fld 5 40 = some (4, 9) := rfl
theorem mx_fld_6_12 : mx_fld 6 12 = some (5, 1) := rfl
theorem mx_fld_6_18 : mx_fld 6 18 = some (5, 2) := rfl
theorem mx_fld_6_22 : mx_fld 6 22 = some (5, 4) := rfl
theorem mx_fld_6_26 : mx_fld 6 26 = some (5, 5) := rfl
theorem mx_fld_6_29 : mx_fld 6 29 = some (5, 6) := rfl
theorem mx_fld_6_32 : mx_fld 6 32 = some (5, 7) := rfl
theorem mx_fld_6_35 : mx_fld 6 35 = some (5, 8) := rfl
theorem mx_fld_6_38 : mx_fld 6 38 = some (5, 12) := rfl
theorem mx_fld_6_41 : mx_fld 6 41 = some (5, 0) := rfl
theorem mx_fld_6_45 : mx_fld 6 45 = some (5, 3) := rfl
theorem mx_fld_6_76 : mx_fld 6 76 = some (2, 5) := rfl
theorem mx_fld_6_85 : mx_fld 6 85 = some (5, 9) := rfl
theorem mx_fld_6_88 : mx_fld 6 88 = some (5, 10) := rfl
theorem mx_fld_6_91 : mx_fld 6 91 = some (5, 11) := rfl
theorem mx_fld_6_94 : mx_fld 6 94 = some (2, 3) := rfl
theorem mx_fld_6_97 : mx_fld 6 97 = some (2, 1) := rfl
theorem mx_fld_6_100 : mx_fld 6 100 = some (2, 2) := rfl
theorem mx_fld_6_103 : mx_fld 6 103 = some (2, 0) := rfl
theorem mx_fld_6_113 : mx_fld 6 113 = some (1, 3) := rfl
theorem mx_fld_6_116 : mx_fld 6 116 = some (1, 4) := rfl
theorem mx_fld_6_131 : mx_fld 6 131 = some (1, 1) := rfl
theorem mx_fld_6_134 : mx_fld 6 134 = some (1, 0) := rfl
theorem mx_fld_6_140 : mx_fld 6 140 = some (5, 13) := rfl
theorem mx_fld_7_13 : mx_fld 7 13 = some (6, 0) := rfl
theorem mx_fld_7_17 : mx_fld 7 17 = some (6, 1) := rfl
theorem mx_fld_7_21 : mx_fld 7 21 = some (6, 2) := rfl
theorem mx_fld_7_24 : mx_fld 7 24 = some (6, 3) := rfl
theorem mx_fld_7_27 : mx_fld 7 27 = some (6, 4) := rfl
theorem mx_fld_8_9 : mx_fld 8 9 = some (7, 0) := rfl
theorem mx_fld_8_15 : mx_fld 8 15 = some (7, 2) := rfl
theorem mx_fld_8_19 : mx_fld 8 19 = some (7, 3) := rfl
theorem mx_fld_8_24 : mx_fld 8 24 = some (7, 4) := rfl
theorem mx_fld_8_28 : mx_fld 8 28 = some (7, 1) := rfl
theorem mx_fld_8_36 : mx_fld 8 36 = some (7, 5) := rfl
theorem mx_fld_8_54 : mx_fld 8 54 = some (99, 0) := rfl
theorem mx_fld_9_155 : mx_fld 9 155 = some (99, 1) := rfl
theorem mx_fld_10_12 : mx_fld 10 12 = some (8, 0) := rfl
theorem mx_fld_10_19 : mx_fld 10 19 = some (8, 1) := rfl
theorem mx_fld_10_26 : mx_fld 10 26 = some (8, 2) := rfl
theorem mx_fld_10_35 : mx_fld 10 35 = some (8, 3) := rfl
theorem mx_fld_10_42 : mx_fld 10 42 = some (8, 4) := rfl
theorem mx_fld_10_51 : mx_fld 10 51 = some (8, 5) := rfl
theorem mx_fld_10_60 : mx_fld 10 60 = some (8, 6) := rfl
theorem mx_fld_10_64 : mx_fld 10 64 = some (8, 7) := rfl
theorem mx_fld_10_68 : mx_fld 10 68 = some (8, 8) := rfl
theorem mx_fld_10_76 : mx_fld 10 76 = some (6, 4) := rfl
theorem mx_fld_10_86 : mx_fld 10 86 = some (3, 4) := rfl
theorem mx_fld_10_110 : mx_fld 10 110 = some (4, 5) := rfl
theorem mx_fld_10_127 : mx_fld 10 127 = some (8, 9) := rfl
theorem mx_fld_10_133 : mx_fld 10 133 = some (8, 10) := rfl
theorem mx_fld_10_140 : mx_fld 10 140 = some (4, 1) := rfl
theorem mx_fld_10_156 : mx_fld 10 156 = some (4, 4) := rfl
theorem mx_fld_10_165 : mx_fld 10 165 = some (4, 2) := rfl
theorem mx_fld_10_168 : mx_fld 10 168 = some (4, 9) := rfl
theorem mx_fld_10_180 : mx_fld 10 180 = some (4, 3) := rfl
theorem mx_fld_10_183 : mx_fld 10 183 = some (3, 6) := rfl
theorem mx_fld_10_189 : mx_fld 10 189 = some (3, 5) := rfl
theorem mx_fld_10_199 : mx_fld 10 199 = some (3, 7) := rfl
theorem mx_fld_11_7 : mx_fld 11 7 = some (9, 0) := rfl
theorem mx_fld_11_13 : mx_fld 11 13 = some (9, 10) := rfl
theorem mx_fld_11_16 : mx_fld 11 16 = some (9, 11) := rfl
theorem mx_fld_11_19 : mx_fld 11 19 = some (9, 12) := rfl
theorem mx_fld_11_22 : mx_fld 11 22 = some (9, 13) := rfl
theorem mx_fld_11_25 : mx_fld 11 25 = some (9, 14) := rfl
theorem mx_fld_11_28 : mx_fld 11 28 = some (9, 15) := rfl
theorem mx_fld_11_31 : mx_fld 11 31 = some (9, 16) := rfl
theorem mx_fld_11_34 : mx_fld 11 34 = some (9, 19) := rfl
theorem mx_fld_11_37 : mx_fld 11 37 = some (9, 20) := rfl
theorem mx_fld_11_40 : mx_fld 11 40 = some (9, 21) := rfl
theorem mx_fld_11_43 : mx_fld 11 43 = some (9, 22) := rfl
theorem mx_fld_11_46 : mx_fld 11 46 = some (9, 23) := rfl
theorem mx_fld_11_49 : mx_fld 11 49 = some (9, 24) := rfl
theorem mx_fld_11_52 : mx_fld 11 52 = some (9, 25) := rfl
theorem mx_fld_11_56 : mx_fld 11 56 = some (9, 29) := rfl
theorem mx_fld_11_59 : mx_fld 11 59 = some (9, 30) := rfl
theorem mx_fld_11_62 : mx_fld 11 62 = some (9, 32) := rfl
theorem mx_fld_11_65 : mx_fld 11 65 = some (9, 34) := rfl
theorem mx_fld_11_68 : mx_fld 11 68 = some (9, 35) := rfl
theorem mx_fld_11_71 : mx_fld 11 71 = some (9, 36) := rfl
theorem mx_fld_11_74 : mx_fld 11 74 = some (9, 37) := rfl
theorem mx_fld_11_78 : mx_fld 11 78 = some (9, 39) := rfl
theorem mx_fld_11_81 : mx_fld 11 81 = some (9, 40) := rfl
theorem mx_fld_11_88 : mx_fld 11 88 = some (9, 1) := rfl
theorem mx_fld_11_99 : mx_fld 11 99 = some (9, 4) := rfl
theorem mx_fld_11_102 : mx_fld 11 102 = some (9, 3) := rfl
theorem mx_fld_11_105 : mx_fld 11 105 = some (9, 5) := rfl
theorem mx_fld_11_109 : mx_fld 11 109 = some (9, 6) := rfl
theorem mx_fld_11_115 : mx_fld 11 115 = some (9, 2) := rfl
theorem mx_fld_11_118 : mx_fld 11 118 = some (9, 7) := rfl
theorem mx_fld_11_219 : mx_fld 11 219 = some (9, 9) := rfl
theorem mx_fld_11_228 : mx_fld 11 228 = some (9, 28) := rfl
theorem mx_fld_11_231 : mx_fld 11 231 = some (9, 18) := rfl
theorem mx_fld_11_262 : mx_fld 11 262 = some (9, 26) := rfl
theorem mx_fld_11_265 : mx_fld 11 265 = some (9, 27) := rfl
theorem mx_fld_11_293 : mx_fld 11 293 = some (9, 17) := rfl
theorem mx_fld_11_302 : mx_fld 11 302 = some (9, 31) := rfl
theorem mx_fld_11_305 : mx_fld 11 305 = some (9, 33) := rfl
theorem mx_fld_11_326 : mx_fld 11 326 = some (9, 8) := rfl
theorem mx_fld_11_332 : mx_fld 11 332 = some (9, 38) := rfl
def mx_sta_1 : List (Nat × Nat) := [(65, 1016), (104, 1008), (107, 1009), (113, 1004), (116, 2001), (140, 1034), (143, 1035), (146, 1033), (149, 1036), (152, 1037), (155, 1039), (158, 1040), (188, 1027), (191, 1028), (194, 1031), (197, 1029)]
def mx_sta_4 : List (Nat × Nat) := [(64, 1006), (70, 1007), (73, 1004), (83, 1005), (113, 1000), (119, 1002), (125, 1003), (131, 1001), (147, 1010), (162, 1008), (165, 1009), (185, 1037), (208, 1041)]
def mx_sta_7 : List (Nat × Nat) := [(35, 1004)]
def mx_sta_8 : List (Nat × Nat) := [(51, 2000)]
def mx_sta_9 : List (Nat × Nat) := [(84, 1026), (87, 1027), (90, 1028)]
def mx_sta_10 : List (Nat × Nat) := [(170, 2001)]
def mx_sta (o ix : Nat) : Option (Nat) := match o with
  | 1 => mx_sta_1.lookup ix
  | 4 => mx_sta_4.lookup ix
  | 7 => mx_sta_7.lookup ix
  | 8 => mx_sta_8.lookup ix
  | 9 => mx_sta_9.lookup ix
  | 10 => mx_sta_10.lookup ix
  | _ => none
theorem mx_sta_1_65 : mx_sta 1 65 = some 1016 := rfl
theorem mx_sta_1_104 : mx_sta 1 104 = some 1008 := rfl
theorem mx_sta_1_107 : mx_sta 1 107 = some 1009 := rfl
theorem mx_sta_1_113 : mx_sta 1 113 = some 1004 := rfl
theorem mx_sta_1_116 : mx_sta 1 116 = some 2001 := rfl
theorem mx_sta_1_140 : mx_sta 1 140 = some 1034 := rfl
theorem mx_sta_1_143 : mx_sta 1 143 = some 1035 := rfl
theorem mx_sta_1_146 : mx_sta 1 146 = some 1033 := rfl
theorem mx_sta_1_149 : mx_sta 1 149 = some 1036 := rfl
theorem mx_sta_1_152 : mx_sta 1 152 = some 1037 := rfl
theorem mx_sta_1_155 : mx_sta 1 155 = some 1039 := rfl
theorem mx_sta_1_158 : mx_sta 1 158 = some 1040 := rfl
theorem mx_sta_1_188 : mx_sta 1 188 = some 1027 := rfl
theorem mx_sta_1_191 : mx_sta 1 191 = some 1028 := rfl
theorem mx_sta_1_194 : mx_sta 1 194 = some 1031 := rfl
theorem mx_sta_1_197 : mx_sta 1 197 = some 1029 := rfl
theorem mx_sta_4_64 : mx_sta 4 64 = some 1006 := rfl
theorem mx_sta_4_70 : mx_sta 4 70 = some 1007 := rfl
theorem mx_sta_4_73 : mx_sta 4 73 = some 1004 := rfl
theorem mx_sta_4_83 : mx_sta 4 83 = some 1005 := rfl
theorem mx_sta_4_113 : mx_sta 4 113 = some 1000 := rfl
theorem mx_sta_4_119 : mx_sta 4 119 = some 1002 := rfl
theorem mx_sta_4_125 : mx_sta 4 125 = some 1003 := rfl
theorem mx_sta_4_131 : mx_sta 4 131 = some 1001 := rfl
theorem mx_sta_4_147 : mx_sta 4 147 = some 1010 := rfl
theorem mx_sta_4_162 : mx_sta 4 162 = some 1008 := rfl
theorem mx_sta_4_165 : mx_sta 4 165 = some 1009 := rfl
theorem mx_sta_4_185 : mx_sta 4 185 = some 1037 := rfl
theorem mx_sta_4_208 : mx_sta 4 208 = some 1041 := rfl
theorem mx_sta_7_35 : mx_sta 7 35 = some 1004 := rfl
theorem mx_sta_8_51 : mx_sta 8 51 = some 2000 := rfl
theorem mx_sta_9_84 : mx_sta 9 84 = some 1026 := rfl
theorem mx_sta_9_87 : mx_sta 9 87 = some 1027 := rfl
theorem mx_sta_9_90 : mx_sta 9 90 = some 1028 := rfl
theorem mx_sta_10_170 : mx_sta 10 170 = some 2001 := rfl
def mx_inv_1 : List (Nat × Nat × Nat × mx_M) := [(41, (0, 1, mm_X7_opOf)), (45, (0, 2, mm_X7_partOf)), (54, (0, 2, mm_X1_bitOf)), (57, (0, 3, mm_X1_logic)), (61, (0, 2, mm_X1_set)), (69, (0, 2, mm_X1_equal)), (72, (0, 3, mm_X1_choose)), (76, (0, 3, mm_X1_calculate)), (80, (0, 3, mm_X1_less)), (83, (0, 3, mm_X1_place)), (86, (0, 4, mm_X1_reach)), (90, (0, 1, mm_X1_begin)), (94, (0, 1, mm_X7_sortOf)), (98, (1, 1, mm_X10_bitsOf)), (101, (0, 2, mm_X7_numberOf)), (110, (0, 1, mm_X1_widthOf)), (121, (10, 0, mm_X9_isHeavy)), (125, (0, 2, mm_X3_and)), (130, (0, 2, mm_X3_or)), (133, (0, 2, mm_X3_xor)), (136, (0, 3, mm_X3_mux)), (161, (13, 2, mm_X9_isHeavy)), (166, (0, 2, mm_X1_loadLeft)), (169, (0, 3, mm_X1_loadRight)), (173, (0, 2, mm_X1_add)), (176, (0, 3, mm_X1_multiply)), (179, (0, 4, mm_X1_divide)), (182, (0, 4, mm_X1_shift)), (185, (0, 4, mm_X1_mix))]
def mx_inv_2 : List (Nat × Nat × Nat × mx_M) := [(28, (0, 3, mm_X2_add)), (32, (0, 1, mm_X2_gather)), (36, (0, 0, mm_X2_finish)), (40, (0, 1, mm_X2_watch))]
def mx_inv_3 : List (Nat × Nat × Nat × mx_M) := [(31, (0, 4, mm_X3_put)), (35, (0, 2, mm_X3_and)), (39, (0, 1, mm_X3_simulateGate)), (43, (0, 1, mm_X3_valueOf))]
def mx_inv_4 : List (Nat × Nat × Nat × mx_M) := [(43, (0, 1, mm_X4_bracket)), (47, (0, 1, mm_X8_wordAt)), (53, (0, 1, mm_X4_readBehind)), (57, (0, 1, mm_X8_isEnd)), (61, (0, 1, mm_X4_failAt)), (76, (0, 0, mm_X4_readNewName)), (80, (0, 0, mm_X4_readSort)), (86, (0, 1, mm_X4_readTerm)), (93, (0, 1, mm_X7_sortOf)), (98, (0, 2, mm_X8_isBracket)), (102, (0, 1, mm_X8_nameAt)), (108, (0, 1, mm_X5_find)), (122, (0, 1, mm_X4_readWidth)), (128, (0, 1, mm_X4_word)), (134, (0, 1, mm_X8_numberAt)), (137, (0, 1, mm_X4_noTermAt)), (140, (0, 0, mm_X4_readAtom)), (144, (0, 1, mm_X4_readNumbered)), (150, (0, 1, mm_X4_readLet)), (155, (2, 0, mm_X9_takesNumbers)), (158, (0, 4, mm_X4_readParts)), (168, (0, 4, mm_X7_prepare)), (172, (0, 0, mm_X7_make)), (175, (0, 1, mm_X8_widthAt)), (178, (0, 2, mm_X8_bitsAt)), (182, (0, 1, mm_X4_meaningOf)), (188, (0, 4, mm_X4_fits)), (192, (0, 4, mm_X4_resultSort)), (195, (0, 2, mm_X7_preparePart)), (202, (1, 1, mm_X10_isWord)), (205, (1, 1, mm_X10_isArray))]
def mx_inv_6 : List (Nat × Nat × Nat × mx_M) := [(49, (0, 0, mm_X6_begin)), (52, (0, 1, mm_X6_truthOf)), (56, (0, 2, mm_X6_assign)), (60, (0, 0, mm_X6_loadMarked)), (64, (0, 0, mm_X6_propagate)), (68, (0, 0, mm_X6_decide)), (72, (0, 1, mm_X6_learnFrom)), (81, (0, 1, mm_X2_clear)), (106, (0, 5, mm_X2_tell)), (110, (0, 1, mm_X6_visit)), (119, (0, 1, mm_X2_watched)), (122, (0, 1, mm_X6_openPlace)), (125, (0, 2, mm_X2_exchange)), (128, (0, 1, mm_X2_watch)), (137, (0, 1, mm_X6_collectDecisions)), (143, (0, 1, mm_X2_gather)), (146, (0, 0, mm_X2_finish)), (149, (0, 1, mm_X6_goBack)), (152, (0, 1, mm_X6_markClause)), (155, (13, 2, mm_X9_isHeavy))]
def mx_inv_7 : List (Nat × Nat × Nat × mx_M) := [(31, (0, 1, mm_X7_has)), (39, (0, 4, mm_X7_prepare)), (43, (0, 0, mm_X7_add)), (47, (0, 1, mm_X7_isPrepared)), (50, (2, 0, mm_X9_isHeavy))]
def mx_inv_8 : List (Nat × Nat × Nat × mx_M) := [(32, (1, 2, mm_X8_byteOf)), (39, (1, 1, mm_X8_isOfSymbol)), (43, (0, 2, mm_X8_addToken)), (47, (0, 2, mm_X8_findWord)), (58, (0, 3, mm_X8_isSpelled)), (62, (11, 0, mm_X9_isHeavy)), (67, (12, 1, mm_X9_isHeavy)), (71, (1, 1, mm_X8_isLetter)), (74, (1, 1, mm_X8_isDigit)), (77, (0, 1, mm_X8_hasToken)), (81, (0, 1, mm_X8_sizeOf))]
def mx_inv_10 : List (Nat × Nat × Nat × mx_M) := [(72, (0, 2, mm_X8_append)), (79, (0, 0, mm_X8_split)), (82, (0, 0, mm_X4_read)), (89, (0, 1, mm_X8_start)), (93, (0, 0, mm_X8_clear)), (96, (0, 1, mm_X7_cut)), (100, (0, 1, mm_X10_refusal)), (104, (0, 1, mm_X10_perform)), (107, (0, 0, mm_X1_grow)), (113, (0, 0, mm_X10_gatherRoots)), (116, (0, 0, mm_X10_orderInputs)), (119, (0, 2, mm_X6_canHold)), (123, (0, 0, mm_X6_inputs)), (130, (0, 1, mm_X10_coreOf)), (136, (0, 1, mm_X5_hasConstant)), (143, (0, 1, mm_X7_sortOf)), (146, (1, 1, mm_X10_bitsOf)), (149, (0, 2, mm_X7_numberOf)), (153, (0, 1, mm_X5_hasAssertion)), (159, (0, 2, mm_X1_bitOf)), (162, (0, 2, mm_X3_simulate)), (175, (10, 0, mm_X9_isHeavy)), (186, (0, 0, mm_X7_heavyOnes)), (192, (0, 2, mm_X7_addConstant)), (195, (0, 3, mm_X5_declare)), (202, (0, 1, mm_X5_claim)), (205, (0, 0, mm_X5_open)), (208, (0, 0, mm_X5_close)), (211, (0, 0, mm_X6_forgetOrder)), (214, (0, 1, mm_X6_decideNext)), (217, (1, 1, mm_X10_isWord))]
def mx_inv_11 : List (Nat × Nat × Nat × mx_M) := [(84, (1, 3, mm_X11_in)), (92, (1, 1, mm_X11_isLetter)), (96, (1, 1, mm_X11_isDigit)), (112, (1, 1, mm_X11_isSign)), (121, (0, 1, mm_X11_wrong)), (124, (0, 0, mm_X11_next)), (127, (0, 1, mm_X11_pass)), (189, (1, 2, mm_X11_kindOf)), (203, (0, 2, mm_X11_word)), (209, (0, 0, mm_X11_number)), (215, (0, 1, mm_X11_readWidth)), (222, (0, 7, mm_X11_make)), (234, (0, 1, mm_X11_readIndexed)), (237, (0, 0, mm_X11_isName)), (241, (0, 2, mm_X11_push)), (253, (1, 1, mm_X11_parts)), (256, (0, 3, mm_X11_fits)), (259, (0, 1, mm_X11_build)), (268, (0, 1, mm_X11_readHead)), (271, (0, 0, mm_X11_atom)), (274, (0, 2, mm_X11_deliver)), (278, (1, 1, mm_X11_bitsOf)), (281, (0, 0, mm_X11_isConstant)), (284, (0, 0, mm_X11_readSort)), (287, (0, 0, mm_X11_ends)), (290, (0, 0, mm_X11_allBits)), (296, (0, 0, mm_X11_tooMany)), (299, (0, 0, mm_X11_readTerm)), (314, (0, 0, mm_X11_declare)), (317, (0, 0, mm_X11_claim)), (320, (0, 0, mm_X11_open)), (323, (0, 0, mm_X11_shut)), (329, (0, 0, mm_X11_perform)), (335, (1, 2, mm_X11_sign)), (338, (1, 4, mm_X11_isTrue)), (342, (1, 4, mm_X11_onWords)), (346, (0, 1, mm_X11_work)), (349, (0, 0, mm_X11_workAll)), (352, (0, 2, mm_X11_deal)), (355, (0, 1, mm_X11_least))]
def mx_inv (o ix : Nat) : Option (Nat × Nat × mx_M) := match o with
  | 1 => mx_inv_1.lookup ix
  | 2 => mx_inv_2.lookup ix
  | 3 => mx_inv_3.lookup ix
  | 4 => mx_inv_4.lookup ix
  | 6 => mx_inv_6.lookup ix
  | 7 => mx_inv_7.lookup ix
  | 8 => mx_inv_8.lookup ix
  | 10 => mx_inv_10.lookup ix
  | 11 => mx_inv_11.lookup ix
  | _ => none
theorem mx_inv_1_41 : mx_inv 1 41 = some (0, 1, mm_X7_opOf) := rfl
theorem mx_inv_1_45 : mx_inv 1 45 = some (0, 2, mm_X7_partOf) := rfl
theorem mx_inv_1_54 : mx_inv 1 54 = some (0, 2, mm_X1_bitOf) := rfl
theorem mx_inv_1_57 : mx_inv 1 57 = some (0, 3, mm_X1_logic) := rfl
theorem mx_inv_1_61 : mx_inv 1 61 = some (0, 2, mm_X1_set) := rfl
theorem mx_inv_1_69 : mx_inv 1 69 = some (0, 2, mm_X1_equal) := rfl
theorem mx_inv_1_72 : mx_inv 1 72 = some (0, 3, mm_X1_choose) := rfl
theorem mx_inv_1_76 : mx_inv 1 76 = some (0, 3, mm_X1_calculate) := rfl
theorem mx_inv_1_80 : mx_inv 1 80 = some (0, 3, mm_X1_less) := rfl
theorem mx_inv_1_83 : mx_inv 1 83 = some (0, 3, mm_X1_place) := rfl
theorem mx_inv_1_86 : mx_inv 1 86 = some (0, 4, mm_X1_reach) := rfl
theorem mx_inv_1_90 : mx_inv 1 90 = some (0, 1, mm_X1_begin) := rfl
theorem mx_inv_1_94 : mx_inv 1 94 = some (0, 1, mm_X7_sortOf) := rfl
theorem mx_inv_1_98 : mx_inv 1 98 = some (1, 1, mm_X10_bitsOf) := rfl
theorem mx_inv_1_101 : mx_inv 1 101 = some (0, 2, mm_X7_numberOf) := rfl
theorem mx_inv_1_110 : mx_inv 1 110 = some (0, 1, mm_X1_widthOf) := rfl
theorem mx_inv_1_121 : mx_inv 1 121 = some (10, 0, mm_X9_isHeavy) := rfl
theorem mx_inv_1_125 : mx_inv 1 125 = some (0, 2, mm_X3_and) := rfl
theorem mx_inv_1_130 : mx_inv 1 130 = some (0, 2, mm_X3_or) := rfl
theorem mx_inv_1_133 : mx_inv 1 133 = some (0, 2, mm_X3_xor) := rfl
theorem mx_inv_1_136 : mx_inv 1 136 = some (0, 3, mm_X3_mux) := rfl
theorem mx_inv_1_161 : mx_inv 1 161 = some (13, 2, mm_X9_isHeavy) := rfl
theorem mx_inv_1_166 : mx_inv 1 166 = some (0, 2, mm_X1_loadLeft) := rfl
theorem mx_inv_1_169 : mx_inv 1 169 = some (0, 3, mm_X1_loadRight) := rfl
theorem mx_inv_1_173 : mx_inv 1 173 = some (0, 2, mm_X1_add) := rfl
theorem mx_inv_1_176 : mx_inv 1 176 = some (0, 3, mm_X1_multiply) := rfl
theorem mx_inv_1_179 : mx_inv 1 179 = some (0, 4, mm_X1_divide) := rfl
theorem mx_inv_1_182 : mx_inv 1 182 = some (0, 4, mm_X1_shift) := rfl
theorem mx_inv_1_185 : mx_inv 1 185 = some (0, 4, mm_X1_mix) := rfl
theorem mx_inv_2_28 : mx_inv 2 28 = some (0, 3, mm_X2_add) := rfl
theorem mx_inv_2_32 : mx_inv 2 32 = some (0, 1, mm_X2_gather) := rfl
theorem mx_inv_2_36 : mx_inv 2 36 = some (0, 0, mm_X2_finish) := rfl
theorem mx_inv_2_40 : mx_inv 2 40 = some (0, 1, mm_X2_watch) := rfl
theorem mx_inv_3_31 : mx_inv 3 31 = some (0, 4, mm_X3_put) := rfl
theorem mx_inv_3_35 : mx_inv 3 35 = some (0, 2, mm_X3_and) := rfl
theorem mx_inv_3_39 : mx_inv 3 39 = some (0, 1, mm_X3_simulateGate) := rfl
theorem mx_inv_3_43 : mx_inv 3 43 = some (0, 1, mm_X3_valueOf) := rfl
theorem mx_inv_4_43 : mx_inv 4 43 = some (0, 1, mm_X4_bracket) := rfl
theorem mx_inv_4_47 : mx_inv 4 47 = some (0, 1, mm_X8_wordAt) := rfl
theorem mx_inv_4_53 : mx_inv 4 53 = some (0, 1, mm_X4_readBehind) := rfl
theorem mx_inv_4_57 : mx_inv 4 57 = some (0, 1, mm_X8_isEnd) := rfl
theorem mx_inv_4_61 : mx_inv 4 61 = some (0, 1, mm_X4_failAt) := rfl
theorem mx_inv_4_76 : mx_inv 4 76 = some (0, 0, mm_X4_readNewName) := rfl
theorem mx_inv_4_80 : mx_inv 4 80 = some (0, 0, mm_X4_readSort) := rfl
theorem mx_inv_4_86 : mx_inv 4 86 = some (0, 1, mm_X4_readTerm) := rfl
theorem mx_inv_4_93 : mx_inv 4 93 = some (0, 1, mm_X7_sortOf) := rfl
theorem mx_inv_4_98 : mx_inv 4 98 = some (0, 2, mm_X8_isBracket) := rfl
theorem mx_inv_4_102 : mx_inv 4 102 = some (0, 1, mm_X8_nameAt) := rfl
theorem mx_inv_4_108 : mx_inv 4 108 = some (0, 1, mm_X5_find) := rfl
theorem mx_inv_4_122 : mx_inv 4 122 = some (0, 1, mm_X4_readWidth) := rfl
theorem mx_inv_4_128 : mx_inv 4 128 = some (0, 1, mm_X4_word) := rfl
theorem mx_inv_4_134 : mx_inv 4 134 = some (0, 1, mm_X8_numberAt) := rfl
theorem mx_inv_4_137 : mx_inv 4 137 = some (0, 1, mm_X4_noTermAt) := rfl
theorem mx_inv_4_140 : mx_inv 4 140 = some (0, 0, mm_X4_readAtom) := rfl
theorem mx_inv_4_144 : mx_inv 4 144 = some (0, 1, mm_X4_readNumbered) := rfl
theorem mx_inv_4_150 : mx_inv 4 150 = some (0, 1, mm_X4_readLet) := rfl
theorem mx_inv_4_155 : mx_inv 4 155 = some (2, 0, mm_X9_takesNumbers) := rfl
theorem mx_inv_4_158 : mx_inv 4 158 = some (0, 4, mm_X4_readParts) := rfl
theorem mx_inv_4_168 : mx_inv 4 168 = some (0, 4, mm_X7_prepare) := rfl
theorem mx_inv_4_172 : mx_inv 4 172 = some (0, 0, mm_X7_make) := rfl
theorem mx_inv_4_175 : mx_inv 4 175 = some (0, 1, mm_X8_widthAt) := rfl
theorem mx_inv_4_178 : mx_inv 4 178 = some (0, 2, mm_X8_bitsAt) := rfl
theorem mx_inv_4_182 : mx_inv 4 182 = some (0, 1, mm_X4_meaningOf) := rfl
theorem mx_inv_4_188 : mx_inv 4 188 = some (0, 4, mm_X4_fits) := rfl
theorem mx_inv_4_192 : mx_inv 4 192 = some (0, 4, mm_X4_resultSort) := rfl
theorem mx_inv_4_195 : mx_inv 4 195 = some (0, 2, mm_X7_preparePart) := rfl
theorem mx_inv_4_202 : mx_inv 4 202 = some (1, 1, mm_X10_isWord) := rfl
theorem mx_inv_4_205 : mx_inv 4 205 = some (1, 1, mm_X10_isArray) := rfl
theorem mx_inv_6_49 : mx_inv 6 49 = some (0, 0, mm_X6_begin) := rfl
theorem mx_inv_6_52 : mx_inv 6 52 = some (0, 1, mm_X6_truthOf) := rfl
theorem mx_inv_6_56 : mx_inv 6 56 = some (0, 2, mm_X6_assign) := rfl
theorem mx_inv_6_60 : mx_inv 6 60 = some (0, 0, mm_X6_loadMarked) := rfl
theorem mx_inv_6_64 : mx_inv 6 64 = some (0, 0, mm_X6_propagate) := rfl
theorem mx_inv_6_68 : mx_inv 6 68 = some (0, 0, mm_X6_decide) := rfl
theorem mx_inv_6_72 : mx_inv 6 72 = some (0, 1, mm_X6_learnFrom) := rfl
theorem mx_inv_6_81 : mx_inv 6 81 = some (0, 1, mm_X2_clear) := rfl
theorem mx_inv_6_106 : mx_inv 6 106 = some (0, 5, mm_X2_tell) := rfl
theorem mx_inv_6_110 : mx_inv 6 110 = some (0, 1, mm_X6_visit) := rfl
theorem mx_inv_6_119 : mx_inv 6 119 = some (0, 1, mm_X2_watched) := rfl
theorem mx_inv_6_122 : mx_inv 6 122 = some (0, 1, mm_X6_openPlace) := rfl
theorem mx_inv_6_125 : mx_inv 6 125 = some (0, 2, mm_X2_exchange) := rfl
theorem mx_inv_6_128 : mx_inv 6 128 = some (0, 1, mm_X2_watch) := rfl
theorem mx_inv_6_137 : mx_inv 6 137 = some (0, 1, mm_X6_collectDecisions) := rfl
theorem mx_inv_6_143 : mx_inv 6 143 = some (0, 1, mm_X2_gather) := rfl
theorem mx_inv_6_146 : mx_inv 6 146 = some (0, 0, mm_X2_finish) := rfl
theorem mx_inv_6_149 : mx_inv 6 149 = some (0, 1, mm_X6_goBack) := rfl
theorem mx_inv_6_152 : mx_inv 6 152 = some (0, 1, mm_X6_markClause) := rfl
theorem mx_inv_6_155 : mx_inv 6 155 = some (13, 2, mm_X9_isHeavy) := rfl
theorem mx_inv_7_31 : mx_inv 7 31 = some (0, 1, mm_X7_has) := rfl
theorem mx_inv_7_39 : mx_inv 7 39 = some (0, 4, mm_X7_prepare) := rfl
theorem mx_inv_7_43 : mx_inv 7 43 = some (0, 0, mm_X7_add) := rfl
theorem mx_inv_7_47 : mx_inv 7 47 = some (0, 1, mm_X7_isPrepared) := rfl
theorem mx_inv_7_50 : mx_inv 7 50 = some (2, 0, mm_X9_isHeavy) := rfl
theorem mx_inv_8_32 : mx_inv 8 32 = some (1, 2, mm_X8_byteOf) := rfl
theorem mx_inv_8_39 : mx_inv 8 39 = some (1, 1, mm_X8_isOfSymbol) := rfl
theorem mx_inv_8_43 : mx_inv 8 43 = some (0, 2, mm_X8_addToken) := rfl
theorem mx_inv_8_47 : mx_inv 8 47 = some (0, 2, mm_X8_findWord) := rfl
theorem mx_inv_8_58 : mx_inv 8 58 = some (0, 3, mm_X8_isSpelled) := rfl
theorem mx_inv_8_62 : mx_inv 8 62 = some (11, 0, mm_X9_isHeavy) := rfl
theorem mx_inv_8_67 : mx_inv 8 67 = some (12, 1, mm_X9_isHeavy) := rfl
theorem mx_inv_8_71 : mx_inv 8 71 = some (1, 1, mm_X8_isLetter) := rfl
theorem mx_inv_8_74 : mx_inv 8 74 = some (1, 1, mm_X8_isDigit) := rfl
theorem mx_inv_8_77 : mx_inv 8 77 = some (0, 1, mm_X8_hasToken) := rfl
theorem mx_inv_8_81 : mx_inv 8 81 = some (0, 1, mm_X8_sizeOf) := rfl
theorem mx_inv_10_72 : mx_inv 10 72 = some (0, 2, mm_X8_append) := rfl
theorem mx_inv_10_79 : mx_inv 10 79 = some (0, 0, mm_X8_split) := rfl
theorem mx_inv_10_82 : mx_inv 10 82 = some (0, 0, mm_X4_read) := rfl
theorem mx_inv_10_89 : mx_inv 10 89 = some (0, 1, mm_X8_start) := rfl
theorem mx_inv_10_93 : mx_inv 10 93 = some (0, 0, mm_X8_clear) := rfl
theorem mx_inv_10_96 : mx_inv 10 96 = some (0, 1, mm_X7_cut) := rfl
theorem mx_inv_10_100 : mx_inv 10 100 = some (0, 1, mm_X10_refusal) := rfl
theorem mx_inv_10_104 : mx_inv 10 104 = some (0, 1, mm_X10_perform) := rfl
theorem mx_inv_10_107 : mx_inv 10 107 = some (0, 0, mm_X1_grow) := rfl
theorem mx_inv_10_113 : mx_inv 10 113 = some (0, 0, mm_X10_gatherRoots) := rfl
theorem mx_inv_10_116 : mx_inv 10 116 = some (0, 0, mm_X10_orderInputs) := rfl
theorem mx_inv_10_119 : mx_inv 10 119 = some (0, 2, mm_X6_canHold) := rfl
theorem mx_inv_10_123 : mx_inv 10 123 = some (0, 0, mm_X6_inputs) := rfl
theorem mx_inv_10_130 : mx_inv 10 130 = some (0, 1, mm_X10_coreOf) := rfl
theorem mx_inv_10_136 : mx_inv 10 136 = some (0, 1, mm_X5_hasConstant) := rfl
theorem mx_inv_10_143 : mx_inv 10 143 = some (0, 1, mm_X7_sortOf) := rfl
theorem mx_inv_10_146 : mx_inv 10 146 = some (1, 1, mm_X10_bitsOf) := rfl
theorem mx_inv_10_149 : mx_inv 10 149 = some (0, 2, mm_X7_numberOf) := rfl
theorem mx_inv_10_153 : mx_inv 10 153 = some (0, 1, mm_X5_hasAssertion) := rfl
theorem mx_inv_10_159 : mx_inv 10 159 = some (0, 2, mm_X1_bitOf) := rfl
theorem mx_inv_10_162 : mx_inv 10 162 = some (0, 2, mm_X3_simulate) := rfl
theorem mx_inv_10_175 : mx_inv 10 175 = some (10, 0, mm_X9_isHeavy) := rfl
theorem mx_inv_10_186 : mx_inv 10 186 = some (0, 0, mm_X7_heavyOnes) := rfl
theorem mx_inv_10_192 : mx_inv 10 192 = some (0, 2, mm_X7_addConstant) := rfl
theorem mx_inv_10_195 : mx_inv 10 195 = some (0, 3, mm_X5_declare) := rfl
theorem mx_inv_10_202 : mx_inv 10 202 = some (0, 1, mm_X5_claim) := rfl
theorem mx_inv_10_205 : mx_inv 10 205 = some (0, 0, mm_X5_open) := rfl
theorem mx_inv_10_208 : mx_inv 10 208 = some (0, 0, mm_X5_close) := rfl
theorem mx_inv_10_211 : mx_inv 10 211 = some (0, 0, mm_X6_forgetOrder) := rfl
theorem mx_inv_10_214 : mx_inv 10 214 = some (0, 1, mm_X6_decideNext) := rfl
theorem mx_inv_10_217 : mx_inv 10 217 = some (1, 1, mm_X10_isWord) := rfl
theorem mx_inv_11_84 : mx_inv 11 84 = some (1, 3, mm_X11_in) := rfl
theorem mx_inv_11_92 : mx_inv 11 92 = some (1, 1, mm_X11_isLetter) := rfl
theorem mx_inv_11_96 : mx_inv 11 96 = some (1, 1, mm_X11_isDigit) := rfl
theorem mx_inv_11_112 : mx_inv 11 112 = some (1, 1, mm_X11_isSign) := rfl
theorem mx_inv_11_121 : mx_inv 11 121 = some (0, 1, mm_X11_wrong) := rfl
theorem mx_inv_11_124 : mx_inv 11 124 = some (0, 0, mm_X11_next) := rfl
theorem mx_inv_11_127 : mx_inv 11 127 = some (0, 1, mm_X11_pass) := rfl
theorem mx_inv_11_189 : mx_inv 11 189 = some (1, 2, mm_X11_kindOf) := rfl
theorem mx_inv_11_203 : mx_inv 11 203 = some (0, 2, mm_X11_word) := rfl
theorem mx_inv_11_209 : mx_inv 11 209 = some (0, 0, mm_X11_number) := rfl
theorem mx_inv_11_215 : mx_inv 11 215 = some (0, 1, mm_X11_readWidth) := rfl
theorem mx_inv_11_222 : mx_inv 11 222 = some (0, 7, mm_X11_make) := rfl
theorem mx_inv_11_234 : mx_inv 11 234 = some (0, 1, mm_X11_readIndexed) := rfl
theorem mx_inv_11_237 : mx_inv 11 237 = some (0, 0, mm_X11_isName) := rfl
theorem mx_inv_11_241 : mx_inv 11 241 = some (0, 2, mm_X11_push) := rfl
theorem mx_inv_11_253 : mx_inv 11 253 = some (1, 1, mm_X11_parts) := rfl
theorem mx_inv_11_256 : mx_inv 11 256 = some (0, 3, mm_X11_fits) := rfl
theorem mx_inv_11_259 : mx_inv 11 259 = some (0, 1, mm_X11_build) := rfl
theorem mx_inv_11_268 : mx_inv 11 268 = some (0, 1, mm_X11_readHead) := rfl
theorem mx_inv_11_271 : mx_inv 11 271 = some (0, 0, mm_X11_atom) := rfl
theorem mx_inv_11_274 : mx_inv 11 274 = some (0, 2, mm_X11_deliver) := rfl
theorem mx_inv_11_278 : mx_inv 11 278 = some (1, 1, mm_X11_bitsOf) := rfl
theorem mx_inv_11_281 : mx_inv 11 281 = some (0, 0, mm_X11_isConstant) := rfl
theorem mx_inv_11_284 : mx_inv 11 284 = some (0, 0, mm_X11_readSort) := rfl
theorem mx_inv_11_287 : mx_inv 11 287 = some (0, 0, mm_X11_ends) := rfl
theorem mx_inv_11_290 : mx_inv 11 290 = some (0, 0, mm_X11_allBits) := rfl
theorem mx_inv_11_296 : mx_inv 11 296 = some (0, 0, mm_X11_tooMany) := rfl
theorem mx_inv_11_299 : mx_inv 11 299 = some (0, 0, mm_X11_readTerm) := rfl
theorem mx_inv_11_314 : mx_inv 11 314 = some (0, 0, mm_X11_declare) := rfl
theorem mx_inv_11_317 : mx_inv 11 317 = some (0, 0, mm_X11_claim) := rfl
theorem mx_inv_11_320 : mx_inv 11 320 = some (0, 0, mm_X11_open) := rfl
theorem mx_inv_11_323 : mx_inv 11 323 = some (0, 0, mm_X11_shut) := rfl
theorem mx_inv_11_329 : mx_inv 11 329 = some (0, 0, mm_X11_perform) := rfl
theorem mx_inv_11_335 : mx_inv 11 335 = some (1, 2, mm_X11_sign) := rfl
theorem mx_inv_11_338 : mx_inv 11 338 = some (1, 4, mm_X11_isTrue) := rfl
theorem mx_inv_11_342 : mx_inv 11 342 = some (1, 4, mm_X11_onWords) := rfl
theorem mx_inv_11_346 : mx_inv 11 346 = some (0, 1, mm_X11_work) := rfl
theorem mx_inv_11_349 : mx_inv 11 349 = some (0, 0, mm_X11_workAll) := rfl
theorem mx_inv_11_352 : mx_inv 11 352 = some (0, 2, mm_X11_deal) := rfl
theorem mx_inv_11_355 : mx_inv 11 355 = some (0, 1, mm_X11_least) := rfl
def mx_ldc_6 : List (Nat × Int32) := [(63, (1000000))]
def mx_ldc (o ix : Nat) : Option (Int32) := match o with
  | 6 => mx_ldc_6.lookup ix
  | _ => none
theorem mx_ldc_6_63 : mx_ldc 6 63 = some (1000000) := rfl
def mx_ldc2_11 : List (Nat × Int64) := [(131, (7630702)), (133, (6581857)), (135, (29295)), (137, (7499640)), (139, (15933)), (141, (61)), (143, (8386668330298337636)), (145, (6648937)), (147, (500085716578)), (149, (444083369570)), (151, (431348610658)), (153, (1919907426)), (155, (491496437346)), (157, (431180838498)), (159, (422877296226)), (161, (465826575970)), (163, (130195029063266)), (165, (120282479425122)), (167, (465608865378)), (169, (125792938653282)), (171, (125792937932386)), (173, (500035843682)), (175, (435611334242)), (177, (500035712610)), (179, (435611203170)), (181, (127961628831587)), (183, (127970252186995)), (185, (435711603827)), (187, (7628140)), (193, (1819242306)), (195, (1752397168)), (197, (7368560)), (199, (1702195828)), (201, (95)), (207, (109286893316418)), (213, (521325933121)), (226, (435728179558)), (245, (32760367481649253)), (247, (8392569366170985850)), (249, (6581861)), (251, (8392569366153488755)), (308, (3271146467110380900)), (310, (500152823651)), (312, (128034677158753))]
def mx_ldc2 (o ix : Nat) : Option (Int64) := match o with
  | 11 => mx_ldc2_11.lookup ix
  | _ => none
theorem mx_ldc2_11_131 : mx_ldc2 11 131 = some (7630702) := rfl
theorem mx_ldc2_11_133 : mx_ldc2 11 133 = some (6581857) := rfl
theorem mx_ldc2_11_135 : mx_ldc2 11 135 = some (29295) := rfl
theorem mx_ldc2_11_137 : mx_ldc2 11 137 = some (7499640) := rfl
theorem mx_ldc2_11_139 : mx_ldc2 11 139 = some (15933) := rfl
theorem mx_ldc2_11_141 : mx_ldc2 11 141 = some (61) := rfl
theorem mx_ldc2_11_143 : mx_ldc2 11 143 = some (8386668330298337636) := rfl
theorem mx_ldc2_11_145 : mx_ldc2 11 145 = some (6648937) := rfl
theorem mx_ldc2_11_147 : mx_ldc2 11 147 = some (500085716578) := rfl
theorem mx_ldc2_11_149 : mx_ldc2 11 149 = some (444083369570) := rfl
theorem mx_ldc2_11_151 : mx_ldc2 11 151 = some (431348610658) := rfl
theorem mx_ldc2_11_153 : mx_ldc2 11 153 = some (1919907426) := rfl
theorem mx_ldc2_11_155 : mx_ldc2 11 155 = some (491496437346) := rfl
theorem mx_ldc2_11_157 : mx_ldc2 11 157 = some (431180838498) := rfl
theorem mx_ldc2_11_159 : mx_ldc2 11 159 = some (422877296226) := rfl
theorem mx_ldc2_11_161 : mx_ldc2 11 161 = some (465826575970) := rfl
theorem mx_ldc2_11_163 : mx_ldc2 11 163 = some (130195029063266) := rfl
theorem mx_ldc2_11_165 : mx_ldc2 11 165 = some (120282479425122) := rfl
theorem mx_ldc2_11_167 : mx_ldc2 11 167 = some (465608865378) := rfl
theorem mx_ldc2_11_169 : mx_ldc2 11 169 = some (125792938653282) := rfl
theorem mx_ldc2_11_171 : mx_ldc2 11 171 = some (125792937932386) := rfl
theorem mx_ldc2_11_173 : mx_ldc2 11 173 = some (500035843682) := rfl
theorem mx_ldc2_11_175 : mx_ldc2 11 175 = some (435611334242) := rfl
theorem mx_ldc2_11_177 : mx_ldc2 11 177 = some (500035712610) := rfl
theorem mx_ldc2_11_179 : mx_ldc2 11 179 = some (435611203170) := rfl
theorem mx_ldc2_11_181 : mx_ldc2 11 181 = some (127961628831587) := rfl
theorem mx_ldc2_11_183 : mx_ldc2 11 183 = some (127970252186995) := rfl
theorem mx_ldc2_11_185 : mx_ldc2 11 185 = some (435711603827) := rfl
theorem mx_ldc2_11_187 : mx_ldc2 11 187 = some (7628140) := rfl
theorem mx_ldc2_11_193 : mx_ldc2 11 193 = some (1819242306) := rfl
theorem mx_ldc2_11_195 : mx_ldc2 11 195 = some (1752397168) := rfl
theorem mx_ldc2_11_197 : mx_ldc2 11 197 = some (7368560) := rfl
theorem mx_ldc2_11_199 : mx_ldc2 11 199 = some (1702195828) := rfl
theorem mx_ldc2_11_201 : mx_ldc2 11 201 = some (95) := rfl
theorem mx_ldc2_11_207 : mx_ldc2 11 207 = some (109286893316418) := rfl
theorem mx_ldc2_11_213 : mx_ldc2 11 213 = some (521325933121) := rfl
theorem mx_ldc2_11_226 : mx_ldc2 11 226 = some (435728179558) := rfl
theorem mx_ldc2_11_245 : mx_ldc2 11 245 = some (32760367481649253) := rfl
theorem mx_ldc2_11_247 : mx_ldc2 11 247 = some (8392569366170985850) := rfl
theorem mx_ldc2_11_249 : mx_ldc2 11 249 = some (6581861) := rfl
theorem mx_ldc2_11_251 : mx_ldc2 11 251 = some (8392569366153488755) := rfl
theorem mx_ldc2_11_308 : mx_ldc2 11 308 = some (3271146467110380900) := rfl
theorem mx_ldc2_11_310 : mx_ldc2 11 310 = some (500152823651) := rfl
theorem mx_ldc2_11_312 : mx_ldc2 11 312 = some (128034677158753) := rfl
