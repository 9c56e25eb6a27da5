/-! what MINI's frames come to, an instruction a row -/
theorem mx_s {rk : Nat} {m : mx_M} {pc : Nat} {L S : List Value} {h : mx_H} {i : Instr} {n : Nat} {r : mx_R} (hd : decode m.2.2.2.2.1 pc = .ok (i, n)) (hx : mx_ex i n rk m pc L S h = r) : mx_step (rk, m, pc, L, S) h = r := by
  unfold mx_step
  dsimp only
  rw [hd]
  exact hx
theorem q_ite {α : Type} {c : Prop} [Decidable c] {a a' b : α} (h : a = a') : (if c then a else b) = if c then a' else b := by rw [h]
theorem q_ite2 {α : Type} {c : Prop} [Decidable c] {a a' b b' : α} (h : a = a') (h' : b = b') : (if c then a else b) = if c then a' else b' := by rw [h, h']
section Q
variable {rk : Nat} {m : mx_M} {pc : Nat} {L S : List Value} {h : mx_H}
theorem q_aload_n {k : Fin 4} {v : Value} (hd : decode m.2.2.2.2.1 pc = .ok (.aload_n k, 1)) (hl : L[k.val]? = some v) (hv : mx_ar v = true) : mx_D (rk, m, pc, L, S) h = mx_D (rk, m, pc + 1, L, v :: S) h := mx_D_go (mx_s hd (by show (if (1 : Nat) = 1 then mx_load L[k.val]? 2 1 rk m pc L S h else none) = _; rw [if_pos rfl, hl]; show (if mx_ar v = true then _ else _) = _; rw [if_pos hv]; rfl))
theorem q_aload {k : Nat} {v : Value} (hd : decode m.2.2.2.2.1 pc = .ok (.aload k, 2)) (hl : L[k]? = some v) (hv : mx_ar v = true) : mx_D (rk, m, pc, L, S) h = mx_D (rk, m, pc + 2, L, v :: S) h := mx_D_go (mx_s hd (by show (if (2 : Nat) = 2 then mx_load L[k]? 2 2 rk m pc L S h else none) = _; rw [if_pos rfl, hl]; show (if mx_ar v = true then _ else _) = _; rw [if_pos hv]; rfl))
theorem q_iload_n {k : Fin 4} {x : Int32} (hd : decode m.2.2.2.2.1 pc = .ok (.iload_n k, 1)) (hl : L[k.val]? = some (.int x)) : mx_D (rk, m, pc, L, S) h = mx_D (rk, m, pc + 1, L, .int x :: S) h := mx_D_go (mx_s hd (by show (if (1 : Nat) = 1 then mx_load L[k.val]? 0 1 rk m pc L S h else none) = _; rw [if_pos rfl, hl]; rfl))
theorem q_iload {k : Nat} {x : Int32} (hd : decode m.2.2.2.2.1 pc = .ok (.iload k, 2)) (hl : L[k]? = some (.int x)) : mx_D (rk, m, pc, L, S) h = mx_D (rk, m, pc + 2, L, .int x :: S) h := mx_D_go (mx_s hd (by show (if (2 : Nat) = 2 then mx_load L[k]? 0 2 rk m pc L S h else none) = _; rw [if_pos rfl, hl]; rfl))
theorem q_lload_n {k : Fin 4} {x : Int64} (hd : decode m.2.2.2.2.1 pc = .ok (.lload_n k, 1)) (hl : L[k.val]? = some (.long x)) : mx_D (rk, m, pc, L, S) h = mx_D (rk, m, pc + 1, L, .long x :: S) h := mx_D_go (mx_s hd (by show (if (1 : Nat) = 1 then mx_load L[k.val]? 1 1 rk m pc L S h else none) = _; rw [if_pos rfl, hl]; rfl))
theorem q_istore_n {k : Fin 4} {x : Int32} {L' : List Value} (hd : decode m.2.2.2.2.1 pc = .ok (.istore_n k, 1)) (hi : k.val < L.length) (hl : mx_st1 L k.val (.int x) = L') : mx_D (rk, m, pc, L, .int x :: S) h = mx_D (rk, m, pc + 1, L', S) h := mx_D_go (mx_s hd (by show (if (1 : Nat) = 1 then (if k.val < L.length then _ else _) else none) = _; rw [if_pos rfl, if_pos hi, hl]; rfl))
theorem q_istore {k : Nat} {x : Int32} {L' : List Value} (hd : decode m.2.2.2.2.1 pc = .ok (.istore k, 2)) (hi : k < L.length) (hl : mx_st1 L k (.int x) = L') : mx_D (rk, m, pc, L, .int x :: S) h = mx_D (rk, m, pc + 2, L', S) h := mx_D_go (mx_s hd (by show (if (2 : Nat) = 2 then (if k < L.length then _ else _) else none) = _; rw [if_pos rfl, if_pos hi, hl]; rfl))
theorem q_astore_n {k : Fin 4} {v : Value} {L' : List Value} (hd : decode m.2.2.2.2.1 pc = .ok (.astore_n k, 1)) (hv : mx_ar v = true) (hi : k.val < L.length) (hl : mx_st1 L k.val v = L') : mx_D (rk, m, pc, L, v :: S) h = mx_D (rk, m, pc + 1, L', S) h := mx_D_go (mx_s hd (by show (if (1 : Nat) = 1 then (if mx_ar v = true ∧ k.val < L.length then _ else _) else none) = _; rw [if_pos rfl, if_pos ⟨hv, hi⟩, hl]; rfl))
theorem q_astore {k : Nat} {v : Value} {L' : List Value} (hd : decode m.2.2.2.2.1 pc = .ok (.astore k, 2)) (hv : mx_ar v = true) (hi : k < L.length) (hl : mx_st1 L k v = L') : mx_D (rk, m, pc, L, v :: S) h = mx_D (rk, m, pc + 2, L', S) h := mx_D_go (mx_s hd (by show (if (2 : Nat) = 2 then (if mx_ar v = true ∧ k < L.length then _ else _) else none) = _; rw [if_pos rfl, if_pos ⟨hv, hi⟩, hl]; rfl))
theorem q_lstore_n {k : Fin 4} {x : Int64} {L' : List Value} (hd : decode m.2.2.2.2.1 pc = .ok (.lstore_n k, 1)) (hi : k.val + 1 < L.length) (hl : mx_st2 L k.val (.long x) = L') : mx_D (rk, m, pc, L, .long x :: S) h = mx_D (rk, m, pc + 1, L', S) h := mx_D_go (mx_s hd (by show (if (1 : Nat) = 1 then (if k.val + 1 < L.length then _ else _) else none) = _; rw [if_pos rfl, if_pos hi, hl]; rfl))
theorem q_iconst {k : Int} {x : Int32} (hd : decode m.2.2.2.2.1 pc = .ok (.iconst k, 1)) (hx : Int32.ofInt k = x) : mx_D (rk, m, pc, L, S) h = mx_D (rk, m, pc + 1, L, .int x :: S) h := by subst hx; exact mx_D_go (mx_s hd rfl)
theorem q_bipush {k : Int} {x : Int32} (hd : decode m.2.2.2.2.1 pc = .ok (.bipush k, 2)) (hx : (Int8.ofInt k).toInt32 = x) : mx_D (rk, m, pc, L, S) h = mx_D (rk, m, pc + 2, L, .int x :: S) h := by subst hx; exact mx_D_go (mx_s hd rfl)
theorem q_sipush {k : Int} {x : Int32} (hd : decode m.2.2.2.2.1 pc = .ok (.sipush k, 3)) (hx : (Int16.ofInt k).toInt32 = x) : mx_D (rk, m, pc, L, S) h = mx_D (rk, m, pc + 3, L, .int x :: S) h := by subst hx; exact mx_D_go (mx_s hd rfl)
theorem q_lconst {k : Fin 2} {x : Int64} (hd : decode m.2.2.2.2.1 pc = .ok (.lconst k, 1)) (hx : Int64.ofNat k.val = x) : mx_D (rk, m, pc, L, S) h = mx_D (rk, m, pc + 1, L, .long x :: S) h := by subst hx; exact mx_D_go (mx_s hd rfl)
theorem q_null (hd : decode m.2.2.2.2.1 pc = .ok (.aconst_null, 1)) : mx_D (rk, m, pc, L, S) h = mx_D (rk, m, pc + 1, L, .null :: S) h := mx_D_go (mx_s hd rfl)
theorem q_ldc {k : Nat} {x : Int32} (hd : decode m.2.2.2.2.1 pc = .ok (.ldc k, 2)) (hx : mx_ldc m.2.2.1 k = some x) : mx_D (rk, m, pc, L, S) h = mx_D (rk, m, pc + 2, L, .int x :: S) h := mx_D_go (mx_s hd (by show (if (2 : Nat) = 2 then (match mx_ldc m.2.2.1 k with | some x => _ | none => none) else none) = _; rw [if_pos rfl, hx]; rfl))
theorem q_ldc2 {k : Nat} {x : Int64} (hd : decode m.2.2.2.2.1 pc = .ok (.ldc2_w k, 3)) (hx : mx_ldc2 m.2.2.1 k = some x) : mx_D (rk, m, pc, L, S) h = mx_D (rk, m, pc + 3, L, .long x :: S) h := mx_D_go (mx_s hd (by show (if (3 : Nat) = 3 then (match mx_ldc2 m.2.2.1 k with | some x => _ | none => none) else none) = _; rw [if_pos rfl, hx]; rfl))
theorem q_getf {ix a ci k : Nat} {v : Value} (hd : decode m.2.2.2.2.1 pc = .ok (.getfield ix, 3)) (hf : mx_fld m.2.2.1 ix = some (ci, k)) (hg : mx_getf h a ci k = some v) : mx_D (rk, m, pc, L, .ref a :: S) h = mx_D (rk, m, pc + 3, L, v :: S) h := mx_D_go (mx_s hd (by simp only [mx_ex, if_true, hf, hg]; rfl))
theorem q_putf {ix a ci k : Nat} {v : Value} {h1 : mx_H} (hd : decode m.2.2.2.2.1 pc = .ok (.putfield ix, 3)) (hf : mx_fld m.2.2.1 ix = some (ci, k)) (hg : mx_putf h a ci k v = some h1) : mx_D (rk, m, pc, L, v :: .ref a :: S) h = mx_D (rk, m, pc + 3, L, S) h1 := mx_D_go (mx_s hd (by simp only [mx_ex, if_true, hf, hg]; rfl))
theorem q_gets {ix a : Nat} (hd : decode m.2.2.2.2.1 pc = .ok (.getstatic ix, 3)) (hf : mx_sta m.2.2.1 ix = some a) : mx_D (rk, m, pc, L, S) h = mx_D (rk, m, pc + 3, L, .ref a :: S) h := mx_D_go (mx_s hd (by simp only [mx_ex, if_true, hf]; rfl))
theorem q_ld {w a : Nat} {x : Int32} {v : Value} {c : Prop} [Decidable c] (hw : w < 5) (hd : decode m.2.2.2.2.1 pc = .ok (mx_ldI w, 1)) (hl : mx_ld w h a x = if c then some v else none) : mx_D (rk, m, pc, L, .int x :: .ref a :: S) h = if c then mx_D (rk, m, pc + 1, L, v :: S) h else none := by
  have e0 : mx_ex (mx_ldI w) 1 rk m pc L (.int x :: .ref a :: S) h = (match mx_ld w h a x with | some v => mx_go rk m (pc + 1) L (v :: S) h | none => none) := by
    match w, hw with
    | 0, _ => rfl
    | 1, _ => rfl
    | 2, _ => rfl
    | 3, _ => rfl
    | 4, _ => rfl
  by_cases hc : c
  · rw [if_pos hc]
    rw [hl, if_pos hc] at e0
    exact mx_D_go (mx_s hd e0)
  · rw [if_neg hc]
    rw [hl, if_neg hc] at e0
    exact mx_D_bad (mx_s hd e0)
theorem q_st {w a : Nat} {x : Int32} {v : Value} {h1 : mx_H} {c : Prop} [Decidable c] (hw : w < 5) (hd : decode m.2.2.2.2.1 pc = .ok (mx_stI w, 1)) (hl : mx_sto w h a x v = if c then some h1 else none) : mx_D (rk, m, pc, L, v :: .int x :: .ref a :: S) h = if c then mx_D (rk, m, pc + 1, L, S) h1 else none := by
  have e0 : mx_ex (mx_stI w) 1 rk m pc L (v :: .int x :: .ref a :: S) h = (match mx_sto w h a x v with | some h1 => mx_go rk m (pc + 1) L S h1 | none => none) := by
    match w, hw with
    | 0, _ => rfl
    | 1, _ => rfl
    | 2, _ => rfl
    | 3, _ => rfl
    | 4, _ => rfl
  by_cases hc : c
  · rw [if_pos hc]
    rw [hl, if_pos hc] at e0
    exact mx_D_go (mx_s hd e0)
  · rw [if_neg hc]
    rw [hl, if_neg hc] at e0
    exact mx_D_bad (mx_s hd e0)
theorem q_len {a : Nat} {x : Int32} (hd : decode m.2.2.2.2.1 pc = .ok (.arraylength, 1)) (hl : mx_len a = some x) : mx_D (rk, m, pc, L, .ref a :: S) h = mx_D (rk, m, pc + 1, L, .int x :: S) h := mx_D_go (mx_s hd (by simp only [mx_ex, if_true, hl]; rfl))
theorem q_iinc {k : Nat} {d : Int} {x x' : Int32} {L' : List Value} (hd : decode m.2.2.2.2.1 pc = .ok (.iinc k d, 3)) (hi : L[k]? = some (.int x)) (hx : Int32.ofInt d = x') (hl : mx_st1 L k (.int (x + x')) = L') : mx_D (rk, m, pc, L, S) h = mx_D (rk, m, pc + 3, L', S) h := by subst hx; exact mx_D_go (mx_s hd (by simp only [mx_ex, if_true, hi, hl]; rfl))
theorem q_iadd {x y : Int32} (hd : decode m.2.2.2.2.1 pc = .ok (.iadd, 1)) : mx_D (rk, m, pc, L, .int y :: .int x :: S) h = mx_D (rk, m, pc + 1, L, .int (x + y) :: S) h := mx_D_go (mx_s hd rfl)
theorem q_isub {x y : Int32} (hd : decode m.2.2.2.2.1 pc = .ok (.isub, 1)) : mx_D (rk, m, pc, L, .int y :: .int x :: S) h = mx_D (rk, m, pc + 1, L, .int (x - y) :: S) h := mx_D_go (mx_s hd rfl)
theorem q_imul {x y : Int32} (hd : decode m.2.2.2.2.1 pc = .ok (.imul, 1)) : mx_D (rk, m, pc, L, .int y :: .int x :: S) h = mx_D (rk, m, pc + 1, L, .int (x * y) :: S) h := mx_D_go (mx_s hd rfl)
theorem q_iand {x y : Int32} (hd : decode m.2.2.2.2.1 pc = .ok (.iand, 1)) : mx_D (rk, m, pc, L, .int y :: .int x :: S) h = mx_D (rk, m, pc + 1, L, .int (x &&& y) :: S) h := mx_D_go (mx_s hd rfl)
theorem q_ior {x y : Int32} (hd : decode m.2.2.2.2.1 pc = .ok (.ior, 1)) : mx_D (rk, m, pc, L, .int y :: .int x :: S) h = mx_D (rk, m, pc + 1, L, .int (x ||| y) :: S) h := mx_D_go (mx_s hd rfl)
theorem q_ixor {x y : Int32} (hd : decode m.2.2.2.2.1 pc = .ok (.ixor, 1)) : mx_D (rk, m, pc, L, .int y :: .int x :: S) h = mx_D (rk, m, pc + 1, L, .int (x ^^^ y) :: S) h := mx_D_go (mx_s hd rfl)
theorem q_ishl {x y : Int32} (hd : decode m.2.2.2.2.1 pc = .ok (.ishl, 1)) : mx_D (rk, m, pc, L, .int y :: .int x :: S) h = mx_D (rk, m, pc + 1, L, .int (x <<< (y &&& 31)) :: S) h := mx_D_go (mx_s hd rfl)
theorem q_ishr {x y : Int32} (hd : decode m.2.2.2.2.1 pc = .ok (.ishr, 1)) : mx_D (rk, m, pc, L, .int y :: .int x :: S) h = mx_D (rk, m, pc + 1, L, .int (x >>> (y &&& 31)) :: S) h := mx_D_go (mx_s hd rfl)
theorem q_idiv {x y : Int32} (hd : decode m.2.2.2.2.1 pc = .ok (.idiv, 1)) : mx_D (rk, m, pc, L, .int y :: .int x :: S) h = if y = 0 then none else mx_D (rk, m, pc + 1, L, .int (x / y) :: S) h := by
  by_cases hc : y = 0
  · rw [if_pos hc]; exact mx_D_bad (mx_s hd (by simp only [mx_ex, if_true, if_pos hc]))
  · rw [if_neg hc]; exact mx_D_go (mx_s hd (by simp only [mx_ex, if_true, if_neg hc]; rfl))
theorem q_irem {x y : Int32} (hd : decode m.2.2.2.2.1 pc = .ok (.irem, 1)) : mx_D (rk, m, pc, L, .int y :: .int x :: S) h = if y = 0 then none else mx_D (rk, m, pc + 1, L, .int (x - x / y * y) :: S) h := by
  by_cases hc : y = 0
  · rw [if_pos hc]; exact mx_D_bad (mx_s hd (by simp only [mx_ex, if_true, if_pos hc]))
  · rw [if_neg hc]; exact mx_D_go (mx_s hd (by simp only [mx_ex, if_true, if_neg hc]; rfl))
theorem q_ineg {x : Int32} (hd : decode m.2.2.2.2.1 pc = .ok (.ineg, 1)) : mx_D (rk, m, pc, L, .int x :: S) h = mx_D (rk, m, pc + 1, L, .int (-x) :: S) h := mx_D_go (mx_s hd rfl)
theorem q_i2c {x : Int32} (hd : decode m.2.2.2.2.1 pc = .ok (.i2c, 1)) : mx_D (rk, m, pc, L, .int x :: S) h = mx_D (rk, m, pc + 1, L, .int ((x.toUInt32 % 65536).toInt32) :: S) h := mx_D_go (mx_s hd rfl)
theorem q_i2l {x : Int32} (hd : decode m.2.2.2.2.1 pc = .ok (.i2l, 1)) : mx_D (rk, m, pc, L, .int x :: S) h = mx_D (rk, m, pc + 1, L, .long x.toInt64 :: S) h := mx_D_go (mx_s hd rfl)
theorem q_lor {x y : Int64} (hd : decode m.2.2.2.2.1 pc = .ok (.lor, 1)) : mx_D (rk, m, pc, L, .long y :: .long x :: S) h = mx_D (rk, m, pc + 1, L, .long (x ||| y) :: S) h := mx_D_go (mx_s hd rfl)
theorem q_lshl {x : Int64} {y : Int32} (hd : decode m.2.2.2.2.1 pc = .ok (.lshl, 1)) : mx_D (rk, m, pc, L, .int y :: .long x :: S) h = mx_D (rk, m, pc + 1, L, .long (x <<< (y.toInt64 &&& 63)) :: S) h := mx_D_go (mx_s hd rfl)
theorem q_lcmp {x y : Int64} (hd : decode m.2.2.2.2.1 pc = .ok (.lcmp, 1)) : mx_D (rk, m, pc, L, .long y :: .long x :: S) h = mx_D (rk, m, pc + 1, L, .int (lg_cmp x y) :: S) h := mx_D_go (mx_s hd rfl)
theorem q_dup {v : Value} (hd : decode m.2.2.2.2.1 pc = .ok (.dup, 1)) (hv : mx_cat1 v = true) : mx_D (rk, m, pc, L, v :: S) h = mx_D (rk, m, pc + 1, L, v :: v :: S) h := mx_D_go (mx_s hd (by simp only [mx_ex, if_true, if_pos hv]; rfl))
theorem q_dup2 {v w : Value} (hd : decode m.2.2.2.2.1 pc = .ok (.dup2, 1)) (hv : mx_cat1 v = true) (hw : mx_cat1 w = true) : mx_D (rk, m, pc, L, v :: w :: S) h = mx_D (rk, m, pc + 1, L, v :: w :: v :: w :: S) h := mx_D_go (mx_s hd (by simp only [mx_ex, if_true, if_pos (And.intro hv hw)]; rfl))
theorem q_pop {v : Value} (hd : decode m.2.2.2.2.1 pc = .ok (.pop, 1)) (hv : mx_cat1 v = true) : mx_D (rk, m, pc, L, v :: S) h = mx_D (rk, m, pc + 1, L, S) h := mx_D_go (mx_s hd (by simp only [mx_ex, if_true, if_pos hv]; rfl))
theorem q_tg {pc t : Nat} {off : Int} (h : (pc : Int) + off = (t : Int)) : mx_tg pc off = some t := by
  unfold mx_tg
  rw [if_pos (by omega), h]
  rfl
theorem q_goto {off : Int} (t : Nat) (hd : decode m.2.2.2.2.1 pc = .ok (.goto off, 3)) (ht : (pc : Int) + off = (t : Int)) : mx_D (rk, m, pc, L, S) h = mx_D (rk, m, t, L, S) h := mx_D_go (mx_s hd (by simp only [mx_ex, if_true, mx_jmp, q_tg ht]; rfl))
theorem q_br {b : Bool} {off : Int} {t : Nat} {i : Instr} {S' : List Value} {c : Prop} [Decidable c] (hd : decode m.2.2.2.2.1 pc = .ok (i, 3)) (hx : mx_ex i 3 rk m pc L S' h = mx_br b rk m pc off L S h) (ht : (pc : Int) + off = (t : Int)) (hb : b = true ↔ c) : mx_D (rk, m, pc, L, S') h = if c then mx_D (rk, m, t, L, S) h else mx_D (rk, m, pc + 3, L, S) h := by
  have e0 : mx_br b rk m pc off L S h = mx_go rk m (if b = true then t else pc + 3) L S h := by unfold mx_br; rw [q_tg ht]
  rw [mx_D_go (mx_s hd (hx.trans e0))]
  by_cases hc : c
  · rw [if_pos hc, if_pos (hb.mpr hc)]
  · rw [if_neg hc, if_neg (fun z => hc (hb.mp z))]
theorem q_if_eq {off : Int} {x : Int32} (t : Nat) (hd : decode m.2.2.2.2.1 pc = .ok (.ifCond .eq off, 3)) (ht : (pc : Int) + off = (t : Int)) : mx_D (rk, m, pc, L, .int x :: S) h = if x = 0 then mx_D (rk, m, t, L, S) h else mx_D (rk, m, pc + 3, L, S) h := q_br hd rfl ht decide_eq_true_iff
theorem q_if_ne {off : Int} {x : Int32} (t : Nat) (hd : decode m.2.2.2.2.1 pc = .ok (.ifCond .ne off, 3)) (ht : (pc : Int) + off = (t : Int)) : mx_D (rk, m, pc, L, .int x :: S) h = if x = 0 then mx_D (rk, m, pc + 3, L, S) h else mx_D (rk, m, t, L, S) h := by
  rw [q_br (t := t) (c := ¬ x = 0) hd rfl ht decide_eq_true_iff]
  by_cases hc : x = 0
  · rw [if_neg (fun z => z hc), if_pos hc]
  · rw [if_pos hc, if_neg hc]
theorem q_if_lt {off : Int} {x : Int32} (t : Nat) (hd : decode m.2.2.2.2.1 pc = .ok (.ifCond .lt off, 3)) (ht : (pc : Int) + off = (t : Int)) : mx_D (rk, m, pc, L, .int x :: S) h = if x < 0 then mx_D (rk, m, t, L, S) h else mx_D (rk, m, pc + 3, L, S) h := q_br hd rfl ht decide_eq_true_iff
theorem q_if_ge {off : Int} {x : Int32} (t : Nat) (hd : decode m.2.2.2.2.1 pc = .ok (.ifCond .ge off, 3)) (ht : (pc : Int) + off = (t : Int)) : mx_D (rk, m, pc, L, .int x :: S) h = if 0 ≤ x then mx_D (rk, m, t, L, S) h else mx_D (rk, m, pc + 3, L, S) h := q_br hd rfl ht decide_eq_true_iff
theorem q_if_gt {off : Int} {x : Int32} (t : Nat) (hd : decode m.2.2.2.2.1 pc = .ok (.ifCond .gt off, 3)) (ht : (pc : Int) + off = (t : Int)) : mx_D (rk, m, pc, L, .int x :: S) h = if 0 < x then mx_D (rk, m, t, L, S) h else mx_D (rk, m, pc + 3, L, S) h := q_br hd rfl ht decide_eq_true_iff
theorem q_if_le {off : Int} {x : Int32} (t : Nat) (hd : decode m.2.2.2.2.1 pc = .ok (.ifCond .le off, 3)) (ht : (pc : Int) + off = (t : Int)) : mx_D (rk, m, pc, L, .int x :: S) h = if x ≤ 0 then mx_D (rk, m, t, L, S) h else mx_D (rk, m, pc + 3, L, S) h := q_br hd rfl ht decide_eq_true_iff
theorem q_icmp_eq {off : Int} {x y : Int32} (t : Nat) (hd : decode m.2.2.2.2.1 pc = .ok (.if_icmp .eq off, 3)) (ht : (pc : Int) + off = (t : Int)) : mx_D (rk, m, pc, L, .int y :: .int x :: S) h = if x = y then mx_D (rk, m, t, L, S) h else mx_D (rk, m, pc + 3, L, S) h := q_br hd rfl ht decide_eq_true_iff
theorem q_icmp_ne {off : Int} {x y : Int32} (t : Nat) (hd : decode m.2.2.2.2.1 pc = .ok (.if_icmp .ne off, 3)) (ht : (pc : Int) + off = (t : Int)) : mx_D (rk, m, pc, L, .int y :: .int x :: S) h = if x = y then mx_D (rk, m, pc + 3, L, S) h else mx_D (rk, m, t, L, S) h := by
  rw [q_br (t := t) (c := ¬ x = y) hd rfl ht decide_eq_true_iff]
  by_cases hc : x = y
  · rw [if_neg (fun z => z hc), if_pos hc]
  · rw [if_pos hc, if_neg hc]
theorem q_icmp_lt {off : Int} {x y : Int32} (t : Nat) (hd : decode m.2.2.2.2.1 pc = .ok (.if_icmp .lt off, 3)) (ht : (pc : Int) + off = (t : Int)) : mx_D (rk, m, pc, L, .int y :: .int x :: S) h = if x < y then mx_D (rk, m, t, L, S) h else mx_D (rk, m, pc + 3, L, S) h := q_br hd rfl ht decide_eq_true_iff
theorem q_icmp_ge {off : Int} {x y : Int32} (t : Nat) (hd : decode m.2.2.2.2.1 pc = .ok (.if_icmp .ge off, 3)) (ht : (pc : Int) + off = (t : Int)) : mx_D (rk, m, pc, L, .int y :: .int x :: S) h = if y ≤ x then mx_D (rk, m, t, L, S) h else mx_D (rk, m, pc + 3, L, S) h := q_br hd rfl ht decide_eq_true_iff
theorem q_icmp_gt {off : Int} {x y : Int32} (t : Nat) (hd : decode m.2.2.2.2.1 pc = .ok (.if_icmp .gt off, 3)) (ht : (pc : Int) + off = (t : Int)) : mx_D (rk, m, pc, L, .int y :: .int x :: S) h = if y < x then mx_D (rk, m, t, L, S) h else mx_D (rk, m, pc + 3, L, S) h := q_br hd rfl ht decide_eq_true_iff
theorem q_icmp_le {off : Int} {x y : Int32} (t : Nat) (hd : decode m.2.2.2.2.1 pc = .ok (.if_icmp .le off, 3)) (ht : (pc : Int) + off = (t : Int)) : mx_D (rk, m, pc, L, .int y :: .int x :: S) h = if x ≤ y then mx_D (rk, m, t, L, S) h else mx_D (rk, m, pc + 3, L, S) h := q_br hd rfl ht decide_eq_true_iff
theorem q_acmp_eq {off : Int} {v w : Value} (t : Nat) (hd : decode m.2.2.2.2.1 pc = .ok (.if_acmp .eq off, 3)) (hv : mx_wr v = true) (hw : mx_wr w = true) (ht : (pc : Int) + off = (t : Int)) : mx_D (rk, m, pc, L, w :: v :: S) h = if v = w then mx_D (rk, m, t, L, S) h else mx_D (rk, m, pc + 3, L, S) h := q_br (b := decide (v = w)) hd (by simp only [mx_ex, if_true, if_pos (And.intro hv hw)]) ht decide_eq_true_iff
theorem q_acmp_ne {off : Int} {v w : Value} (t : Nat) (hd : decode m.2.2.2.2.1 pc = .ok (.if_acmp .ne off, 3)) (hv : mx_wr v = true) (hw : mx_wr w = true) (ht : (pc : Int) + off = (t : Int)) : mx_D (rk, m, pc, L, w :: v :: S) h = if v = w then mx_D (rk, m, pc + 3, L, S) h else mx_D (rk, m, t, L, S) h := by
  rw [q_br (b := decide (¬ v = w)) (t := t) (c := ¬ v = w) (S := S) hd (by show (if (3 : Nat) = 3 then (if mx_wr v = true ∧ mx_wr w = true then _ else none) else none) = _; rw [if_pos rfl, if_pos ⟨hv, hw⟩]) ht decide_eq_true_iff]
  by_cases hc : v = w
  · rw [if_neg (fun z => z hc), if_pos hc]
  · rw [if_pos hc, if_neg hc]
theorem q_ifnull {off : Int} {v : Value} (t : Nat) (hd : decode m.2.2.2.2.1 pc = .ok (.ifnull off, 3)) (hv : mx_ar v = true) (ht : (pc : Int) + off = (t : Int)) : mx_D (rk, m, pc, L, v :: S) h = if v = .null then mx_D (rk, m, t, L, S) h else mx_D (rk, m, pc + 3, L, S) h := q_br (b := decide (v = .null)) hd (by simp only [mx_ex, if_true, if_pos hv]) ht decide_eq_true_iff
theorem q_ifnonnull {off : Int} {v : Value} (t : Nat) (hd : decode m.2.2.2.2.1 pc = .ok (.ifnonnull off, 3)) (hv : mx_ar v = true) (ht : (pc : Int) + off = (t : Int)) : mx_D (rk, m, pc, L, v :: S) h = if v = .null then mx_D (rk, m, pc + 3, L, S) h else mx_D (rk, m, t, L, S) h := by
  rw [q_br (b := decide (¬ v = .null)) (t := t) (c := ¬ v = .null) (S := S) hd (by show (if (3 : Nat) = 3 then (if mx_ar v = true then _ else none) else none) = _; rw [if_pos rfl, if_pos hv]) ht decide_eq_true_iff]
  by_cases hc : v = .null
  · rw [if_neg (fun z => z hc), if_pos hc]
  · rw [if_pos hc, if_neg hc]
theorem q_tsw {d lo hi off : Int} {offs : Array Int} {n : Nat} {x : Int32} (t : Nat) (hd : decode m.2.2.2.2.1 pc = .ok (.tableswitch d lo hi offs, n)) (ho : mx_swo d lo hi offs x.toInt = some off) (ht : (pc : Int) + off = (t : Int)) : mx_D (rk, m, pc, L, .int x :: S) h = mx_D (rk, m, t, L, S) h := mx_D_go (mx_s hd (by simp only [mx_ex, ho, mx_jmp, q_tg ht]; rfl))
theorem q_lsw {d off : Int} {ps : Array (Int × Int)} {n : Nat} {x : Int32} (t : Nat) (hd : decode m.2.2.2.2.1 pc = .ok (.lookupswitch d ps, n)) (hp : (ps.toList.zip (ps.toList.drop 1)).all (fun (a, next) => a.1 < next.1) = true) (ho : Op.lookupswitch.offset ps.toList d x.toInt = off) (ht : (pc : Int) + off = (t : Int)) : mx_D (rk, m, pc, L, .int x :: S) h = mx_D (rk, m, t, L, S) h := mx_D_go (mx_s hd (by simp only [mx_ex, if_pos hp, ho, mx_jmp, q_tg ht]; rfl))
theorem q_ret {x : Int32} {ty : FieldType} (hd : decode m.2.2.2.2.1 pc = .ok (.ireturn, 1)) (hr : m.2.2.2.2.2.2 = some ty) : mx_D (rk, m, pc, L, [.int x]) h = if narrow ty (.int x) = .int x then some (some (.int x), h) else none := by
  by_cases hc : narrow ty (.int x) = .int x
  · rw [if_pos hc]; exact mx_D_ret (mx_s hd (by simp only [mx_ex, if_true, hr, if_pos hc]))
  · rw [if_neg hc]; exact mx_D_bad (mx_s hd (by simp only [mx_ex, if_true, hr, if_neg hc]))
theorem q_retI {x : Int32} (hd : decode m.2.2.2.2.1 pc = .ok (.ireturn, 1)) (hr : m.2.2.2.2.2.2 = some .int) : mx_D (rk, m, pc, L, [.int x]) h = some (some (.int x), h) := by
  rw [q_ret hd hr, if_pos (vp_nar_int x)]
theorem q_retA {v : Value} {cn : String} (hd : decode m.2.2.2.2.1 pc = .ok (.areturn, 1)) (hr : m.2.2.2.2.2.2 = some (.object cn)) (hv : mx_ar v = true) : mx_D (rk, m, pc, L, [v]) h = some (some v, h) := mx_D_ret (mx_s hd (by simp only [mx_ex, if_true, hr, if_pos hv]))
theorem q_retV (hd : decode m.2.2.2.2.1 pc = .ok (.return_, 1)) (hr : m.2.2.2.2.2.2 = none) : mx_D (rk, m, pc, L, []) h = some (none, h) := mx_D_ret (mx_s hd (by simp only [mx_ex, if_true, hr]))
theorem q_callV {ix kd np : Nat} {y : mx_M} {as rest : List Value} (hd : decode m.2.2.2.2.1 pc = .ok (.invokevirtual ix, 3)) (hi : mx_inv m.2.2.1 ix = some (kd, np, y)) (hk : kd = 0 ∨ kd = 2) (hc : mx_call kd np y rk m pc L S = some (.inr (.inr (y, as, (rk, m, pc + 3, L, rest))))) : mx_D (rk, m, pc, L, S) h = (mx_C y as h).bind (fun o => mx_D (rk, m, pc + 3, L, o.1.toList ++ rest) o.2) := mx_D_call (mx_s hd (by
  simp only [mx_ex, if_true, mx_inv', hi]
  rw [if_neg (by omega), if_pos (by omega)]
  exact hc))
theorem q_callS {ix np : Nat} {y : mx_M} {as rest : List Value} (hd : decode m.2.2.2.2.1 pc = .ok (.invokestatic ix, 3)) (hi : mx_inv m.2.2.1 ix = some (1, np, y)) (hc : mx_call 1 np y rk m pc L S = some (.inr (.inr (y, as, (rk, m, pc + 3, L, rest))))) : mx_D (rk, m, pc, L, S) h = (mx_C y as h).bind (fun o => mx_D (rk, m, pc + 3, L, o.1.toList ++ rest) o.2) := by
  have e0 : mx_inv' 1 ix rk m pc L S h = mx_call 1 np y rk m pc L S := by
    unfold mx_inv'
    rw [hi]
    show (if 10 ≤ 1 then _ else if ((1 : Nat) = 1 ↔ (1 : Nat) = 1) then _ else none) = _
    rw [if_neg (by decide), if_pos (by decide)]
  exact mx_D_call (mx_s hd (e0.trans hc))
theorem q_bi {ix kd np : Nat} {y : mx_M} {S' : List Value} {c : Prop} [Decidable c] (hd : decode m.2.2.2.2.1 pc = .ok (.invokevirtual ix, 3)) (hi : mx_inv m.2.2.1 ix = some (kd, np, y)) (hk : 10 ≤ kd ∧ kd < 13) (hc : mx_bi kd h rk m pc L S = if c then mx_go rk m (pc + 3) L S' h else none) : mx_D (rk, m, pc, L, S) h = if c then mx_D (rk, m, pc + 3, L, S') h else none := by
  have e0 : mx_ex (.invokevirtual ix) 3 rk m pc L S h = mx_bi kd h rk m pc L S := by
    simp only [mx_ex, if_true, mx_inv', hi]
    rw [if_pos hk.1, if_pos (by omega)]
  by_cases z : c
  · rw [if_pos z]; rw [hc, if_pos z] at e0; exact mx_D_go (mx_s hd e0)
  · rw [if_neg z]; rw [hc, if_neg z] at e0; exact mx_D_bad (mx_s hd e0)
theorem q_biS {ix np : Nat} {y : mx_M} {x z : Int32} (hd : decode m.2.2.2.2.1 pc = .ok (.invokestatic ix, 3)) (hi : mx_inv m.2.2.1 ix = some (13, np, y)) (hr : S.length ≤ 4 ∧ 12 ≤ rk) : mx_D (rk, m, pc, L, .int z :: .int x :: S) h = mx_D (rk, m, pc + 3, L, .int (if z < x then z else x) :: S) h := by
  have e0 : mx_inv' 1 ix rk m pc L (.int z :: .int x :: S) h = mx_go rk m (pc + 3) L (.int (if z < x then z else x) :: S) h := by
    unfold mx_inv'
    rw [hi]
    show (if 10 ≤ 13 then (if ((13 : Nat) = 13 ↔ (1 : Nat) = 1) then (if S.length ≤ 4 ∧ 12 ≤ rk then _ else none) else none) else _) = _
    rw [if_pos (by decide), if_pos (by decide), if_pos hr]
  exact mx_D_go (mx_s hd e0)
end Q
