abbrev mx_R : Type := Option (mx_O ⊕ (mx_F × mx_H) ⊕ (mx_M × List Value × mx_F))
def mx_go (rk : Nat) (m : mx_M) (pc : Nat) (L S : List Value) (h : mx_H) : mx_R := some (.inr (.inl ((rk, m, pc, L, S), h)))
def mx_jmp (rk : Nat) (m : mx_M) (pc : Nat) (off : Int) (L S : List Value) (h : mx_H) : mx_R := match mx_tg pc off with
  | some t => mx_go rk m t L S h
  | none => none
def mx_br (b : Bool) (rk : Nat) (m : mx_M) (pc : Nat) (off : Int) (L S : List Value) (h : mx_H) : mx_R := match mx_tg pc off with
  | some t => mx_go rk m (if b = true then t else pc + 3) L S h
  | none => none
/-- arrays: kind 0 int, 1 char, 2 boolean, 3 long, 4 references to words -/
def mx_arr (a : Nat) : Option (Nat × Nat) := match mx_shp a with
  | some (.inr q) => some q
  | _ => none
def mx_getf (h : mx_H) (a ci k : Nat) : Option Value :=
  if ci = 99 then (if 1000 ≤ a ∧ a < 1042 then mx_wf (a - 1000) k else none)
  else match mx_shp a with
    | some (.inl (c, fk)) => if c = ci then (match fk[k]? with
      | some (.inl j) => some (.ref j)
      | some (.inr false) => some (.int (h.1 a k))
      | some (.inr true) => some (.long (h.2.1 a k))
      | none => none) else none
    | _ => none
def mx_putf (h : mx_H) (a ci k : Nat) (v : Value) : Option mx_H := match mx_shp a with
  | some (.inl (c, fk)) => if c = ci then (match fk[k]?, v with
    | some (.inr false), .int x => some (mx_u h.1 a k x, h.2)
    | some (.inr true), .long x => some (h.1, mx_u h.2.1 a k x, h.2.2)
    | _, _ => none) else none
  | _ => none
def mx_in (x : Int32) (n : Nat) : Bool := decide (0 ≤ x.toInt ∧ x.toInt < (n : Int))
theorem mx_in_iff {x : Int32} {n : Nat} : mx_in x n = true ↔ vp_in x n := by
  rw [vp_in_iff, mx_in, decide_eq_true_iff]
def mx_val (h : mx_H) (k a j : Nat) : Value := match k with
  | 3 => .long (h.2.1 a j)
  | 4 => mx_rf (h.2.2 a j)
  | _ => .int (h.1 a j)
def mx_ld (w : Nat) (h : mx_H) (a : Nat) (x : Int32) : Option Value :=
  if a = 2000 then (if w = 4 ∧ mx_in x 42 = true then some (.ref (1000 + x.toNatClampNeg)) else none)
  else if a = 2001 then (if w = 0 ∧ mx_in x 42 = true then some (.int (mx_swm x.toNatClampNeg)) else none)
  else match mx_arr a with
    | some (k, n) => if w = k ∧ mx_in x n = true then some (mx_val h k a x.toNatClampNeg) else none
    | _ => none
def mx_put (h : mx_H) (k a j : Nat) (v : Value) : Option mx_H := match k, v with
  | 0, .int y => some (mx_u h.1 a j y, h.2)
  | 1, .int y => some (mx_u h.1 a j (vp_nar .char y), h.2)
  | 2, .int y => some (mx_u h.1 a j (vp_nar .boolean y), h.2)
  | 3, .long y => some (h.1, mx_u h.2.1 a j y, h.2.2)
  | 4, .null => some (h.1, h.2.1, mx_u h.2.2 a j none)
  | 4, .ref b => if 1000 ≤ b ∧ b < 1042 then some (h.1, h.2.1, mx_u h.2.2 a j (some b)) else none
  | _, _ => none
def mx_sto (w : Nat) (h : mx_H) (a : Nat) (x : Int32) (v : Value) : Option mx_H := match mx_arr a with
  | some (k, n) => if w = k ∧ mx_in x n = true then mx_put h k a x.toNatClampNeg v else none
  | _ => none
def mx_len (a : Nat) : Option Int32 := if a = 2000 then some 42 else match mx_arr a with
  | some (_, n) => some (Int32.ofNat n)
  | none => none
def mx_cat1 (v : Value) : Bool := match v with
  | .long _ => false
  | .double _ => false
  | _ => true
/-- how much of the stack these take -/
def mx_ws8 : List Value → Nat
  | [] => 0
  | v :: r => (match mx_cat1 v with | true => 1 | false => 2) + mx_ws8 r
/-- a call: its kind (0 on an object of the callee's class, 1 static, 2 on a word, 10 a word's ordinal, 11 a text's length, 12 its charAt) -/
def mx_call (kd p : Nat) (y : mx_M) (rk : Nat) (m : mx_M) (pc : Nat) (L S : List Value) : mx_R :=
  let q := if kd = 1 then p else p + 1
  if q ≤ S.length ∧ mx_ws8 (S.drop q) ≤ 8 ∧ (mx_lay (S.take q).reverse).length ≤ y.2.2.2.2.2.1 ∧ mx_rank y (S.take q).reverse < rk then
    (match kd, (S.take q).reverse with
    | 1, as => some (.inr (.inr (y, as, (rk, m, pc + 3, L, S.drop q))))
    | 0, .ref a :: as => (match mx_shp a with
      | some (.inl (c, _)) => if mx_ci y.2.2.1 = c then some (.inr (.inr (y, .ref a :: as, (rk, m, pc + 3, L, S.drop q)))) else none
      | _ => none)
    | 2, .ref a :: as => if 1000 ≤ a ∧ a < 1042 then some (.inr (.inr (y, .ref a :: as, (rk, m, pc + 3, L, S.drop q)))) else none
    | _, _ => none)
  else none
/-- what the text's and the word's own methods answer -/
def mx_bi (kd : Nat) (h : mx_H) (rk : Nat) (m : mx_M) (pc : Nat) (L S : List Value) : mx_R := match kd, S with
  | 10, .ref a :: r => if 1000 ≤ a ∧ a < 1042 ∧ r.length ≤ 4 ∧ 12 ≤ rk then mx_go rk m (pc + 3) L (.int (Int32.ofNat (a - 1000)) :: r) h else none
  | 11, .ref a :: r => if 3000 ≤ a ∧ a < 3042 ∧ r.length ≤ 4 ∧ 12 ≤ rk then mx_go rk m (pc + 3) L (.int (Int32.ofNat (mx_txt (a - 3000)).length) :: r) h else none
  | 12, .int x :: .ref a :: r => if 3000 ≤ a ∧ a < 3042 ∧ r.length ≤ 4 ∧ 12 ≤ rk ∧ mx_in x (mx_txt (a - 3000)).length = true then mx_go rk m (pc + 3) L (.int (Int32.ofNat ((mx_txt (a - 3000)).getD x.toNatClampNeg 0)) :: r) h else none
  | 13, .int y :: .int x :: r => if r.length ≤ 4 ∧ 12 ≤ rk then mx_go rk m (pc + 3) L (.int (if y < x then y else x) :: r) h else none
  | _, _ => none
def mx_inv' (kd0 : Nat) (ix : Nat) (rk : Nat) (m : mx_M) (pc : Nat) (L S : List Value) (h : mx_H) : mx_R := match mx_inv m.2.2.1 ix with
  | some (kd, p, y) => if 10 ≤ kd then (if (kd = 13 ↔ kd0 = 1) then mx_bi kd h rk m pc L S else none) else if (kd = 1 ↔ kd0 = 1) then mx_call kd p y rk m pc L S else none
  | none => none
def mx_load (v : Option Value) (w : Nat) (n rk : Nat) (m : mx_M) (pc : Nat) (L S : List Value) (h : mx_H) : mx_R := match w, v with
  | 0, some (.int x) => mx_go rk m (pc + n) L (.int x :: S) h
  | 1, some (.long x) => mx_go rk m (pc + n) L (.long x :: S) h
  | 2, some v => if mx_ar v = true then mx_go rk m (pc + n) L (v :: S) h else none
  | _, _ => none
def mx_store (i : Nat) (w : Nat) (n rk : Nat) (m : mx_M) (pc : Nat) (L S : List Value) (h : mx_H) : mx_R := match w, S with
  | 0, .int x :: r => if i < L.length then mx_go rk m (pc + n) (mx_st1 L i (.int x)) r h else none
  | 1, .long x :: r => if i + 1 < L.length then mx_go rk m (pc + n) (mx_st2 L i (.long x)) r h else none
  | 2, v :: r => if mx_ar v = true ∧ i < L.length then mx_go rk m (pc + n) (mx_st1 L i v) r h else none
  | _, _ => none
def mx_bin (f : Int32 → Int32 → Int32) (rk : Nat) (m : mx_M) (pc : Nat) (L S : List Value) (h : mx_H) : mx_R := match S with
  | .int y :: .int x :: r => mx_go rk m (pc + 1) L (.int (f x y) :: r) h
  | _ => none
def mx_swo (d lo hi : Int) (offs : Array Int) (x : Int) : Option Int := if x < lo ∨ hi < x then some d else offs[(x - lo).toNat]?
def mx_ex (i : Instr) (n rk : Nat) (m : mx_M) (pc : Nat) (L S : List Value) (h : mx_H) : mx_R := match i with
  | .aload_n k => if n = 1 then mx_load L[k.val]? 2 1 rk m pc L S h else none
  | .aload k => if n = 2 then mx_load L[k]? 2 2 rk m pc L S h else none
  | .iload_n k => if n = 1 then mx_load L[k.val]? 0 1 rk m pc L S h else none
  | .iload k => if n = 2 then mx_load L[k]? 0 2 rk m pc L S h else none
  | .lload_n k => if n = 1 then mx_load L[k.val]? 1 1 rk m pc L S h else none
  | .istore_n k => if n = 1 then mx_store k.val 0 1 rk m pc L S h else none
  | .istore k => if n = 2 then mx_store k 0 2 rk m pc L S h else none
  | .astore_n k => if n = 1 then mx_store k.val 2 1 rk m pc L S h else none
  | .astore k => if n = 2 then mx_store k 2 2 rk m pc L S h else none
  | .lstore_n k => if n = 1 then mx_store k.val 1 1 rk m pc L S h else none
  | .iconst k => if n = 1 then mx_go rk m (pc + 1) L (.int (Int32.ofInt k) :: S) h else none
  | .bipush k => if n = 2 then mx_go rk m (pc + 2) L (.int ((Int8.ofInt k).toInt32) :: S) h else none
  | .sipush k => if n = 3 then mx_go rk m (pc + 3) L (.int ((Int16.ofInt k).toInt32) :: S) h else none
  | .lconst k => if n = 1 then mx_go rk m (pc + 1) L (.long (Int64.ofNat k.val) :: S) h else none
  | .aconst_null => if n = 1 then mx_go rk m (pc + 1) L (.null :: S) h else none
  | .ldc k => if n = 2 then (match mx_ldc m.2.2.1 k with | some x => mx_go rk m (pc + 2) L (.int x :: S) h | none => none) else none
  | .ldc2_w k => if n = 3 then (match mx_ldc2 m.2.2.1 k with | some x => mx_go rk m (pc + 3) L (.long x :: S) h | none => none) else none
  | .getfield ix => if n = 3 then (match mx_fld m.2.2.1 ix, S with
    | some (ci, k), .ref a :: r => (match mx_getf h a ci k with | some v => mx_go rk m (pc + 3) L (v :: r) h | none => none)
    | _, _ => none) else none
  | .putfield ix => if n = 3 then (match mx_fld m.2.2.1 ix, S with
    | some (ci, k), v :: .ref a :: r => (match mx_putf h a ci k v with | some h1 => mx_go rk m (pc + 3) L r h1 | none => none)
    | _, _ => none) else none
  | .getstatic ix => if n = 3 then (match mx_sta m.2.2.1 ix with | some a => mx_go rk m (pc + 3) L (.ref a :: S) h | none => none) else none
  | .iaload => if n = 1 then (match S with | .int x :: .ref a :: r => (match mx_ld 0 h a x with | some v => mx_go rk m (pc + 1) L (v :: r) h | none => none) | _ => none) else none
  | .caload => if n = 1 then (match S with | .int x :: .ref a :: r => (match mx_ld 1 h a x with | some v => mx_go rk m (pc + 1) L (v :: r) h | none => none) | _ => none) else none
  | .baload => if n = 1 then (match S with | .int x :: .ref a :: r => (match mx_ld 2 h a x with | some v => mx_go rk m (pc + 1) L (v :: r) h | none => none) | _ => none) else none
  | .laload => if n = 1 then (match S with | .int x :: .ref a :: r => (match mx_ld 3 h a x with | some v => mx_go rk m (pc + 1) L (v :: r) h | none => none) | _ => none) else none
  | .aaload => if n = 1 then (match S with | .int x :: .ref a :: r => (match mx_ld 4 h a x with | some v => mx_go rk m (pc + 1) L (v :: r) h | none => none) | _ => none) else none
  | .iastore => if n = 1 then (match S with | v :: .int x :: .ref a :: r => (match mx_sto 0 h a x v with | some h1 => mx_go rk m (pc + 1) L r h1 | none => none) | _ => none) else none
  | .castore => if n = 1 then (match S with | v :: .int x :: .ref a :: r => (match mx_sto 1 h a x v with | some h1 => mx_go rk m (pc + 1) L r h1 | none => none) | _ => none) else none
  | .bastore => if n = 1 then (match S with | v :: .int x :: .ref a :: r => (match mx_sto 2 h a x v with | some h1 => mx_go rk m (pc + 1) L r h1 | none => none) | _ => none) else none
  | .lastore => if n = 1 then (match S with | v :: .int x :: .ref a :: r => (match mx_sto 3 h a x v with | some h1 => mx_go rk m (pc + 1) L r h1 | none => none) | _ => none) else none
  | .aastore => if n = 1 then (match S with | v :: .int x :: .ref a :: r => (match mx_sto 4 h a x v with | some h1 => mx_go rk m (pc + 1) L r h1 | none => none) | _ => none) else none
  | .arraylength => if n = 1 then (match S with | .ref a :: r => (match mx_len a with | some x => mx_go rk m (pc + 1) L (.int x :: r) h | none => none) | _ => none) else none
  | .iinc k d => if n = 3 then (match L[k]? with | some (.int x) => mx_go rk m (pc + 3) (mx_st1 L k (.int (x + Int32.ofInt d))) S h | _ => none) else none
  | .iadd => if n = 1 then mx_bin (fun x y => x + y) rk m pc L S h else none
  | .isub => if n = 1 then mx_bin (fun x y => x - y) rk m pc L S h else none
  | .imul => if n = 1 then mx_bin (fun x y => x * y) rk m pc L S h else none
  | .iand => if n = 1 then mx_bin (fun x y => x &&& y) rk m pc L S h else none
  | .ior => if n = 1 then mx_bin (fun x y => x ||| y) rk m pc L S h else none
  | .ixor => if n = 1 then mx_bin (fun x y => x ^^^ y) rk m pc L S h else none
  | .ishl => if n = 1 then mx_bin (fun x y => x <<< (y &&& 31)) rk m pc L S h else none
  | .ishr => if n = 1 then mx_bin (fun x y => x >>> (y &&& 31)) rk m pc L S h else none
  | .idiv => if n = 1 then (match S with | .int y :: .int x :: r => if y = 0 then none else mx_go rk m (pc + 1) L (.int (x / y) :: r) h | _ => none) else none
  | .irem => if n = 1 then (match S with | .int y :: .int x :: r => if y = 0 then none else mx_go rk m (pc + 1) L (.int (x - x / y * y) :: r) h | _ => none) else none
  | .ineg => if n = 1 then (match S with | .int x :: r => mx_go rk m (pc + 1) L (.int (-x) :: r) h | _ => none) else none
  | .i2c => if n = 1 then (match S with | .int x :: r => mx_go rk m (pc + 1) L (.int ((x.toUInt32 % 65536).toInt32) :: r) h | _ => none) else none
  | .i2l => if n = 1 then (match S with | .int x :: r => mx_go rk m (pc + 1) L (.long x.toInt64 :: r) h | _ => none) else none
  | .lor => if n = 1 then (match S with | .long y :: .long x :: r => mx_go rk m (pc + 1) L (.long (x ||| y) :: r) h | _ => none) else none
  | .lshl => if n = 1 then (match S with | .int y :: .long x :: r => mx_go rk m (pc + 1) L (.long (x <<< (y.toInt64 &&& 63)) :: r) h | _ => none) else none
  | .lcmp => if n = 1 then (match S with | .long y :: .long x :: r => mx_go rk m (pc + 1) L (.int (lg_cmp x y) :: r) h | _ => none) else none
  | .dup => if n = 1 then (match S with | v :: r => if mx_cat1 v = true then mx_go rk m (pc + 1) L (v :: v :: r) h else none | _ => none) else none
  | .dup2 => if n = 1 then (match S with | v :: w :: r => if mx_cat1 v = true ∧ mx_cat1 w = true then mx_go rk m (pc + 1) L (v :: w :: v :: w :: r) h else none | _ => none) else none
  | .pop => if n = 1 then (match S with | v :: r => if mx_cat1 v = true then mx_go rk m (pc + 1) L r h else none | _ => none) else none
  | .goto off => if n = 3 then mx_jmp rk m pc off L S h else none
  | .ifCond cd off => if n = 3 then (match S with | .int x :: r => mx_br (mx_cmp cd x 0) rk m pc off L r h | _ => none) else none
  | .if_icmp cd off => if n = 3 then (match S with | .int y :: .int x :: r => mx_br (mx_cmp cd x y) rk m pc off L r h | _ => none) else none
  | .if_acmp .eq off => if n = 3 then (match S with | w :: v :: r => if mx_wr v = true ∧ mx_wr w = true then mx_br (decide (v = w)) rk m pc off L r h else none | _ => none) else none
  | .if_acmp .ne off => if n = 3 then (match S with | w :: v :: r => if mx_wr v = true ∧ mx_wr w = true then mx_br (decide (¬ v = w)) rk m pc off L r h else none | _ => none) else none
  | .ifnull off => if n = 3 then (match S with | v :: r => if mx_ar v = true then mx_br (decide (v = .null)) rk m pc off L r h else none | _ => none) else none
  | .ifnonnull off => if n = 3 then (match S with | v :: r => if mx_ar v = true then mx_br (decide (¬ v = .null)) rk m pc off L r h else none | _ => none) else none
  | .tableswitch d lo hi offs => (match S with | .int x :: r => (match mx_swo d lo hi offs x.toInt with | some off => mx_jmp rk m pc off L r h | none => none) | _ => none)
  | .lookupswitch d ps => (match S with | .int x :: r => if (ps.toList.zip (ps.toList.drop 1)).all (fun (a, next) => a.1 < next.1) = true then mx_jmp rk m pc (Op.lookupswitch.offset ps.toList d x.toInt) L r h else none | _ => none)
  | .invokevirtual ix => if n = 3 then mx_inv' 0 ix rk m pc L S h else none
  | .invokestatic ix => if n = 3 then mx_inv' 1 ix rk m pc L S h else none
  | .ireturn => if n = 1 then (match S, m.2.2.2.2.2.2 with | [.int x], some ty => if narrow ty (.int x) = .int x then some (.inl (some (.int x), h)) else none | _, _ => none) else none
  | .areturn => if n = 1 then (match S, m.2.2.2.2.2.2 with | [v], some (.object _) => if mx_ar v = true then some (.inl (some v, h)) else none | _, _ => none) else none
  | .return_ => if n = 1 then (match S, m.2.2.2.2.2.2 with | [], none => some (.inl (none, h)) | _, _ => none) else none
  | _ => none
def mx_step (F : mx_F) (h : mx_H) : mx_R := match decode F.2.1.2.2.2.2.1 F.2.2.1 with
  | .ok (i, n) => mx_ex i n F.1 F.2.1 F.2.2.1 F.2.2.2.1 F.2.2.2.2 h
  | .error _ => none
def mx_push (r : Option Value) (F : mx_F) : mx_F := (F.1, F.2.1, F.2.2.1, F.2.2.2.1, r.toList ++ F.2.2.2.2)
def mx_run : Nat → mx_F → mx_H → Option mx_O
  | 0, _, _ => none
  | n + 1, F, h => match mx_step F h with
    | none => none
    | some (.inl o) => some o
    | some (.inr (.inl (F', h'))) => mx_run n F' h'
    | some (.inr (.inr (y, as, F'))) => match mx_run n (mx_ent y as) h with
      | none => none
      | some o => mx_run n (mx_push o.1 F') o.2
theorem mx_run_s : ∀ (n : Nat) (F : mx_F) (h : mx_H) (o : mx_O), mx_run n F h = some o → mx_run (n + 1) F h = some o := by
  intro n
  induction n with
  | zero => intro F h o q; cases q
  | succ n ih =>
    intro F h o q
    rw [mx_run] at q ⊢
    cases hs : mx_step F h with
    | none => rw [hs] at q; cases q
    | some r =>
      rw [hs] at q
      rcases r with o' | ⟨F', h'⟩ | ⟨y, as, F'⟩
      · exact q
      · exact ih F' h' o q
      · dsimp only at q ⊢
        cases hc : mx_run n (mx_ent y as) h with
        | none => rw [hc] at q; cases q
        | some o1 =>
          rw [hc] at q
          rw [ih _ _ _ hc]
          exact ih _ _ _ q
theorem mx_run_le {n m : Nat} (hm : n ≤ m) {F : mx_F} {h : mx_H} {o : mx_O} (q : mx_run n F h = some o) : mx_run m F h = some o := by
  induction hm with
  | refl => exact q
  | step _ ih => exact mx_run_s _ _ _ _ ih
section
variable (F : mx_F) (h : mx_H)
/-- what a frame comes to -/
noncomputable def mx_D : Option mx_O := Classical.epsilon (fun r : Option mx_O => (∃ n o, mx_run n F h = some o ∧ r = some o) ∨ ((∀ n o, ¬ mx_run n F h = some o) ∧ r = none))
end
theorem mx_D_spec (F : mx_F) (h : mx_H) : (∃ n o, mx_run n F h = some o ∧ mx_D F h = some o) ∨ ((∀ n o, ¬ mx_run n F h = some o) ∧ mx_D F h = none) := by
  have hx : ∃ r : Option mx_O, (∃ n o, mx_run n F h = some o ∧ r = some o) ∨ ((∀ n o, ¬ mx_run n F h = some o) ∧ r = none) := by
    by_cases q : ∃ n o, mx_run n F h = some o
    · obtain ⟨n, o, q⟩ := q
      exact ⟨some o, Or.inl ⟨n, o, q, rfl⟩⟩
    · exact ⟨none, Or.inr ⟨fun n o z => q ⟨n, o, z⟩, rfl⟩⟩
  exact Classical.epsilon_spec hx
theorem mx_D_of {n : Nat} {F : mx_F} {h : mx_H} {o : mx_O} (q : mx_run n F h = some o) : mx_D F h = some o := by
  rcases mx_D_spec F h with ⟨n1, o1, q1, e⟩ | ⟨z, -⟩
  · rw [e]
    have a := mx_run_le (Nat.le_max_left n n1) q
    have b := mx_run_le (Nat.le_max_right n n1) q1
    rw [a] at b
    exact b.symm
  · exact absurd q (z n o)
theorem mx_D_to {F : mx_F} {h : mx_H} {o : mx_O} (q : mx_D F h = some o) : ∃ n, mx_run n F h = some o := by
  rcases mx_D_spec F h with ⟨n1, o1, q1, e⟩ | ⟨-, e⟩
  · rw [e] at q
    cases q
    exact ⟨n1, q1⟩
  · rw [e] at q
    cases q
theorem mx_D_none {F : mx_F} {h : mx_H} (q : ∀ n o, ¬ mx_run n F h = some o) : mx_D F h = none := by
  rcases mx_D_spec F h with ⟨n1, o1, q1, -⟩ | ⟨-, e⟩
  · exact absurd q1 (q n1 o1)
  · exact e
theorem mx_D_eq {F F' : mx_F} {h h' : mx_H} (q : ∀ o, (∃ n, mx_run n F h = some o) ↔ ∃ n, mx_run n F' h' = some o) : mx_D F h = mx_D F' h' := by
  cases e : mx_D F' h' with
  | some o =>
    obtain ⟨n, z⟩ := (q o).mpr (mx_D_to e)
    exact mx_D_of z
  | none =>
    refine mx_D_none fun n o z => ?_
    obtain ⟨n', z'⟩ := (q o).mp ⟨n, z⟩
    rw [mx_D_of z'] at e
    cases e
theorem mx_D_go {F F' : mx_F} {h h' : mx_H} (q : mx_step F h = some (.inr (.inl (F', h')))) : mx_D F h = mx_D F' h' := by
  refine mx_D_eq fun o => ⟨fun ⟨n, z⟩ => ?_, fun ⟨n, z⟩ => ⟨n + 1, by rw [mx_run, q]; exact z⟩⟩
  cases n with
  | zero => cases z
  | succ n => rw [mx_run, q] at z; exact ⟨n, z⟩
theorem mx_D_ret {F : mx_F} {h : mx_H} {o : mx_O} (q : mx_step F h = some (.inl o)) : mx_D F h = some o := mx_D_of (n := 1) (by rw [mx_run, q])
theorem mx_D_bad {F : mx_F} {h : mx_H} (q : mx_step F h = none) : mx_D F h = none := mx_D_none fun n o z => by
  cases n with
  | zero => cases z
  | succ n => rw [mx_run, q] at z; cases z
noncomputable def mx_C (y : mx_M) (as : List Value) (h : mx_H) : Option mx_O := mx_D (mx_ent y as) h
theorem mx_D_call {F F' : mx_F} {h : mx_H} {y : mx_M} {as : List Value} (q : mx_step F h = some (.inr (.inr (y, as, F')))) : mx_D F h = (mx_C y as h).bind (fun o => mx_D (mx_push o.1 F') o.2) := by
  cases e : mx_C y as h with
  | none =>
    refine mx_D_none fun n o z => ?_
    cases n with
    | zero => cases z
    | succ n =>
      rw [mx_run, q] at z
      dsimp only at z
      cases hc : mx_run n (mx_ent y as) h with
      | none => rw [hc] at z; cases z
      | some o1 =>
        have := mx_D_of hc
        unfold mx_C at e
        rw [this] at e
        cases e
  | some o1 =>
    obtain ⟨n1, z1⟩ := mx_D_to e
    show mx_D F h = mx_D (mx_push o1.1 F') o1.2
    refine mx_D_eq fun o => ⟨fun ⟨n, z⟩ => ?_, fun ⟨n, z⟩ => ⟨max n n1 + 1, ?_⟩⟩
    · cases n with
      | zero => cases z
      | succ n =>
        rw [mx_run, q] at z
        dsimp only at z
        cases hc : mx_run n (mx_ent y as) h with
        | none => rw [hc] at z; cases z
        | some o2 =>
          rw [hc] at z
          have a := mx_D_of hc
          unfold mx_C at e
          rw [a] at e
          cases e
          exact ⟨n, z⟩
    · rw [mx_run, q]
      dsimp only
      rw [mx_run_le (Nat.le_max_right n n1) z1]
      exact mx_run_le (Nat.le_max_left n n1) z
