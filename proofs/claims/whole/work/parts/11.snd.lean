/-! MINI and the machine: each instruction -/
def mx_Fx (p : Program) (s : State) (m : MethodId) (args : Array Value) (meth : Method) (c : Code) (g : mx_G) (y : mx_M) : Prop :=
  p.tables.exec = Jvm.exec ∧ c.code = y.2.2.2.2.1 ∧ c.maxLocals = y.2.2.2.2.2.1 ∧ meth.sig.returnType = y.2.2.2.2.2.2 ∧ s.vm.findClass (mx_cn y.2.2.1) = some m.cls ∧ (∀ w ∈ mx_gw, w.before args s = true) ∧ meth.locks = false ∧ va_K (g.1, g.2.1) vwCl (mx_tys g.2.2.1) s ∧ mx_St1 g.2.2.2.1 (mx_A g.2.2.2.2) s s.heap ∧ mx_St2 s ∧ mx_Inj g.2.2.2.1 ∧ g.2.2.2.2 ≤ s.heap.size
def mx_Ok (p : Program) (l : Launch) (e : Env) (s : State) (m : MethodId) (args : Array Value) (below : List Frame) (meth : Method) (c : Code) (g : mx_G) (o : mx_O) (rk : Nat) (y : mx_M) (pc : Nat) (L S : List Value) (h : mx_H) : Prop :=
  ∀ (H : Heap) (locs : List Loc) (ls : Array Slot), va_P (g.1, g.2.1) vwCl (mx_W g.2.2.1 g.2.2.2.1 h) H → va_D (mx_A g.2.2.2.2) (mx_W g.2.2.1 g.2.2.2.1 h) → va_S (mx_A g.2.2.2.2) s.heap H locs → lv_has ls y.2.2.2.2.2.1 (mx_lv g.2.2.2.1 0 L) → L.length = y.2.2.2.2.2.1 → W p l e (mx_rm rk) s m args below meth c H locs 0 0 (MQ below (mx_Post g o) args s 0 0 (mx_A g.2.2.2.2)) (F0 m pc ls (S.map (mx_v g.2.2.2.1)))
theorem mx_gw_of {w : Cond} (h : w ∈ lw_tbl) (hg : goodWord w = true) : w ∈ mx_gw := List.mem_filter.mpr ⟨h, hg⟩
theorem mx_gw_use {w : Cond} {args : Array Value} {s : State} (hts : ∀ w ∈ mx_gw, w.before args s = true) (h : w ∈ lw_tbl) (hg : goodWord w = true) : w.before args s = true := hts w (mx_gw_of h hg)
section SND
variable {p : Program} {l : Launch} {e : Env} {s : State} {m : MethodId} {args : Array Value} {below : List Frame} {meth : Method} {c : Code} {g : mx_G} {o : mx_O} {rk : Nat} {y : mx_M} {pc : Nat} {L S : List Value} {h : mx_H}
theorem mx_ok_load_i (X : mx_Fx p s m args meth c g y) {i n : Nat} {x : Int32} (hi : L[i]? = some (.int x)) (hd : (∃ k : Fin 4, k.val = i ∧ n = 1 ∧ decode y.2.2.2.2.1 pc = .ok (.iload_n k, 1)) ∨ (n = 2 ∧ decode y.2.2.2.2.1 pc = .ok (.iload i, 2))) (k : mx_Ok p l e s m args below meth c g o rk y (pc + n) L (.int x :: S) h) : mx_Ok p l e s m args below meth c g o rk y pc L S h := by
  intro H locs ls hP hD hS hl hn
  rcases hd with ⟨k4, e1, rfl, hd⟩ | ⟨rfl, hd⟩
  · exact lv_iload_n X.1 X.2.1 hd e1 (mx_lv_at hl hi rfl) (k H locs ls hP hD hS hl hn)
  · exact lv_iload X.1 X.2.1 hd (mx_lv_at hl hi rfl) (k H locs ls hP hD hS hl hn)
theorem mx_ok_load_l (X : mx_Fx p s m args meth c g y) {i : Nat} {x : Int64} (hi : L[i]? = some (.long x)) {k4 : Fin 4} (e1 : k4.val = i) (hd : decode y.2.2.2.2.1 pc = .ok (.lload_n k4, 1)) (k : mx_Ok p l e s m args below meth c g o rk y (pc + 1) L (.long x :: S) h) : mx_Ok p l e s m args below meth c g o rk y pc L S h :=
  fun H locs ls hP hD hS hl hn => lv_lload_n X.1 X.2.1 hd e1 (mx_lv_at hl hi rfl) (k H locs ls hP hD hS hl hn)
theorem mx_ok_load_a (X : mx_Fx p s m args meth c g y) {i n : Nat} {v : Value} (hi : L[i]? = some v) (hv : mx_ar v = true) (hd : (∃ k : Fin 4, k.val = i ∧ n = 1 ∧ decode y.2.2.2.2.1 pc = .ok (.aload_n k, 1)) ∨ (n = 2 ∧ decode y.2.2.2.2.1 pc = .ok (.aload i, 2))) (k : mx_Ok p l e s m args below meth c g o rk y (pc + n) L (v :: S) h) : mx_Ok p l e s m args below meth c g o rk y pc L S h := by
  intro H locs ls hP hD hS hl hn
  have kk := k H locs ls hP hD hS hl hn
  cases v with
  | ref a =>
    rcases hd with ⟨k4, e1, rfl, hd⟩ | ⟨rfl, hd⟩
    · exact lv_aload_n X.1 X.2.1 hd e1 (mx_lv_at hl hi rfl) kk
    · exact lv_aload X.1 X.2.1 hd (mx_lv_at hl hi rfl) kk
  | null =>
    rcases hd with ⟨k4, e1, rfl, hd⟩ | ⟨rfl, hd⟩
    · exact lv_aload_nN X.1 X.2.1 hd e1 (mx_lv_at hl hi rfl) kk
    · exact lv_aloadN X.1 X.2.1 hd (mx_lv_at hl hi rfl) kk
  | _ => cases hv
theorem mx_ok_store_i (X : mx_Fx p s m args meth c g y) {i n : Nat} {x : Int32} (hi : i < L.length) (hd : (∃ k : Fin 4, k.val = i ∧ n = 1 ∧ decode y.2.2.2.2.1 pc = .ok (.istore_n k, 1)) ∨ (n = 2 ∧ decode y.2.2.2.2.1 pc = .ok (.istore i, 2))) (k : mx_Ok p l e s m args below meth c g o rk y (pc + n) (mx_st1 L i (.int x)) S h) : mx_Ok p l e s m args below meth c g o rk y pc L (.int x :: S) h := by
  intro H locs ls hP hD hS hl hn
  have kk : ∀ ls', lv_has ls' _ _ → _ := fun ls' (h' : lv_has ls' y.2.2.2.2.2.1 ((i, mx_v g.2.2.2.1 (.int x)) :: (mx_lv g.2.2.2.1 0 L).filter (fun q => !(q.1 == i) && !(q.1 + 1 == i && q.2.category == 2)))) => k H locs ls' hP hD hS (mx_lv_st1 h') (by rw [mx_st1_len]; exact hn)
  rcases hd with ⟨k4, e1, rfl, hd⟩ | ⟨rfl, hd⟩
  · exact lv_istore_n X.1 X.2.1 hd e1 hl (by omega) rfl kk
  · exact lv_istore X.1 X.2.1 hd hl (by omega) rfl kk
theorem mx_ok_store_l (X : mx_Fx p s m args meth c g y) {i : Nat} {x : Int64} (hi : i + 1 < L.length) {k4 : Fin 4} (e1 : k4.val = i) (hd : decode y.2.2.2.2.1 pc = .ok (.lstore_n k4, 1)) (k : mx_Ok p l e s m args below meth c g o rk y (pc + 1) (mx_st2 L i (.long x)) S h) : mx_Ok p l e s m args below meth c g o rk y pc L (.long x :: S) h :=
  fun H locs ls hP hD hS hl hn => lv_lstore_n X.1 X.2.1 hd e1 hl (by omega) rfl (fun ls' h' => k H locs ls' hP hD hS (mx_lv_st2 h') (by rw [mx_st2_len]; exact hn))
theorem mx_ok_store_a (X : mx_Fx p s m args meth c g y) {i n : Nat} {v : Value} (hv : mx_ar v = true) (hi : i < L.length) (hd : (∃ k : Fin 4, k.val = i ∧ n = 1 ∧ decode y.2.2.2.2.1 pc = .ok (.astore_n k, 1)) ∨ (n = 2 ∧ decode y.2.2.2.2.1 pc = .ok (.astore i, 2))) (k : mx_Ok p l e s m args below meth c g o rk y (pc + n) (mx_st1 L i v) S h) : mx_Ok p l e s m args below meth c g o rk y pc L (v :: S) h := by
  intro H locs ls hP hD hS hl hn
  have kk : ∀ ls', lv_has ls' _ _ → _ := fun ls' (h' : lv_has ls' y.2.2.2.2.2.1 ((i, mx_v g.2.2.2.1 v) :: (mx_lv g.2.2.2.1 0 L).filter (fun q => !(q.1 == i) && !(q.1 + 1 == i && q.2.category == 2)))) => k H locs ls' hP hD hS (mx_lv_st1 h') (by rw [mx_st1_len]; exact hn)
  cases v with
  | ref a =>
    rcases hd with ⟨k4, e1, rfl, hd⟩ | ⟨rfl, hd⟩
    · exact lv_astore_n X.1 X.2.1 hd e1 hl (by omega) rfl kk
    · exact lv_astore X.1 X.2.1 hd hl (by omega) rfl kk
  | null =>
    rcases hd with ⟨k4, e1, rfl, hd⟩ | ⟨rfl, hd⟩
    · exact lv_astore_nN X.1 X.2.1 hd e1 hl (by omega) rfl kk
    · exact lv_astoreN X.1 X.2.1 hd hl (by omega) rfl kk
  | _ => cases hv
theorem mx_ok_iinc (X : mx_Fx p s m args meth c g y) {i : Nat} {x : Int32} {d : Int} (hi : L[i]? = some (.int x)) (hd : decode y.2.2.2.2.1 pc = .ok (.iinc i d, 3)) (k : mx_Ok p l e s m args below meth c g o rk y (pc + 3) (mx_st1 L i (.int (x + Int32.ofInt d))) S h) : mx_Ok p l e s m args below meth c g o rk y pc L S h := by
  intro H locs ls hP hD hS hl hn
  have hil : i < L.length := (List.getElem?_eq_some_iff.mp hi).1
  have hm : (i, Value.int x) ∈ mx_lv g.2.2.2.1 0 L := mx_lv_mem.mpr ⟨i, .int x, hi, rfl, by rw [Nat.zero_add]; rfl⟩
  obtain ⟨k9, hk9⟩ := List.getElem?_of_mem hm
  exact lv_iinc X.1 X.2.1 hd hl hk9 rfl (by omega) rfl (fun ls' h' => k H locs ls' hP hD hS (mx_lv_st1 h') (by rw [mx_st1_len]; exact hn))
theorem mx_ok_goto (X : mx_Fx p s m args meth c g y) {off : Int} {t : Nat} (ht : (pc : Int) + off = (t : Int)) (hd : decode y.2.2.2.2.1 pc = .ok (.goto off, 3)) (k : mx_Ok p l e s m args below meth c g o rk y t L S h) : mx_Ok p l e s m args below meth c g o rk y pc L S h :=
  fun H locs ls hP hD hS hl hn => lv_goto X.1 X.2.1 hd ht (k H locs ls hP hD hS hl hn)
theorem mx_ok_if (X : mx_Fx p s m args meth c g y) {cd : ClassFile.Cond} {off : Int} {t : Nat} {x : Int32} (ht : (pc : Int) + off = (t : Int)) (hd : decode y.2.2.2.2.1 pc = .ok (.ifCond cd off, 3)) (k : mx_Ok p l e s m args below meth c g o rk y (if mx_cmp cd x 0 = true then t else pc + 3) L S h) : mx_Ok p l e s m args below meth c g o rk y pc L (.int x :: S) h := by
  intro H locs ls hP hD hS hl hn
  have kk := k H locs ls hP hD hS hl hn
  cases cd <;> simp only [mx_cmp, decide_eq_true_eq] at kk
  · exact lv_if_eq X.1 X.2.1 hd ht (fun z => by rw [if_pos z] at kk; exact kk) (fun z => by rw [if_neg z] at kk; exact kk)
  · exact lv_if_ne X.1 X.2.1 hd ht (fun z => by rw [if_pos z] at kk; exact kk) (fun z => by rw [if_neg (fun q => q z)] at kk; exact kk)
  · exact lv_if_lt X.1 X.2.1 hd ht (fun z => by rw [if_pos z] at kk; exact kk) (fun z => by rw [if_neg z] at kk; exact kk)
  · exact lv_if_ge X.1 X.2.1 hd ht (fun z => by rw [if_pos z] at kk; exact kk) (fun z => by rw [if_neg z] at kk; exact kk)
  · exact lv_if_gt X.1 X.2.1 hd ht (fun z => by rw [if_pos z] at kk; exact kk) (fun z => by rw [if_neg z] at kk; exact kk)
  · exact lv_if_le X.1 X.2.1 hd ht (fun z => by rw [if_pos z] at kk; exact kk) (fun z => by rw [if_neg z] at kk; exact kk)
theorem mx_ok_icmp (X : mx_Fx p s m args meth c g y) {cd : ClassFile.Cond} {off : Int} {t : Nat} {x z9 : Int32} (ht : (pc : Int) + off = (t : Int)) (hd : decode y.2.2.2.2.1 pc = .ok (.if_icmp cd off, 3)) (k : mx_Ok p l e s m args below meth c g o rk y (if mx_cmp cd x z9 = true then t else pc + 3) L S h) : mx_Ok p l e s m args below meth c g o rk y pc L (.int z9 :: .int x :: S) h := by
  intro H locs ls hP hD hS hl hn
  have kk := k H locs ls hP hD hS hl hn
  cases cd <;> simp only [mx_cmp, decide_eq_true_eq] at kk
  · exact lv_icmp_eq X.1 X.2.1 hd ht (fun z => by rw [if_pos z] at kk; exact kk) (fun z => by rw [if_neg z] at kk; exact kk)
  · exact lv_icmp_ne X.1 X.2.1 hd ht (fun z => by rw [if_pos z] at kk; exact kk) (fun z => by rw [if_neg (fun q => q z)] at kk; exact kk)
  · exact lv_icmp_lt X.1 X.2.1 hd ht (fun z => by rw [if_pos z] at kk; exact kk) (fun z => by rw [if_neg z] at kk; exact kk)
  · exact lv_icmp_ge X.1 X.2.1 hd ht (fun z => by rw [if_pos z] at kk; exact kk) (fun z => by rw [if_neg z] at kk; exact kk)
  · exact lv_icmp_gt X.1 X.2.1 hd ht (fun z => by rw [if_pos z] at kk; exact kk) (fun z => by rw [if_neg z] at kk; exact kk)
  · exact lv_icmp_le X.1 X.2.1 hd ht (fun z => by rw [if_pos z] at kk; exact kk) (fun z => by rw [if_neg z] at kk; exact kk)
theorem mx_ok_ifnull (X : mx_Fx p s m args meth c g y) {off : Int} {t : Nat} {v : Value} (hv : mx_ar v = true) (ht : (pc : Int) + off = (t : Int)) (hd : decode y.2.2.2.2.1 pc = .ok (.ifnull off, 3)) (k : mx_Ok p l e s m args below meth c g o rk y (if decide (v = .null) = true then t else pc + 3) L S h) : mx_Ok p l e s m args below meth c g o rk y pc L (v :: S) h := by
  intro H locs ls hP hD hS hl hn
  have kk := k H locs ls hP hD hS hl hn
  cases v with
  | ref a => exact lv_ifnull X.1 X.2.1 hd (by simpa using kk)
  | null => exact lv_ifnullN X.1 X.2.1 hd ht (by simpa using kk)
  | _ => cases hv
theorem mx_ok_ifnonnull (X : mx_Fx p s m args meth c g y) {off : Int} {t : Nat} {v : Value} (hv : mx_ar v = true) (ht : (pc : Int) + off = (t : Int)) (hd : decode y.2.2.2.2.1 pc = .ok (.ifnonnull off, 3)) (k : mx_Ok p l e s m args below meth c g o rk y (if decide (¬ v = .null) = true then t else pc + 3) L S h) : mx_Ok p l e s m args below meth c g o rk y pc L (v :: S) h := by
  intro H locs ls hP hD hS hl hn
  have kk := k H locs ls hP hD hS hl hn
  cases v with
  | ref a => exact lv_ifnonnull X.1 X.2.1 hd ht (by simpa using kk)
  | null => exact lv_ifnonnullN X.1 X.2.1 hd (by simpa using kk)
  | _ => cases hv
theorem mx_wr_rf {g : mx_G} {v : Value} (hv : mx_wr v = true) : ∃ q : Option Nat, mx_v g.2.2.2.1 v = va_rf q ∧ (v = .null ∧ q = none ∨ ∃ i, i < 42 ∧ v = .ref (1000 + i) ∧ q = some (g.2.2.2.1 (1000 + i))) := by
  cases v with
  | null => exact ⟨none, rfl, Or.inl ⟨rfl, rfl⟩⟩
  | ref a =>
    have h : 1000 ≤ a ∧ a < 1042 := of_decide_eq_true hv
    have key : ∀ b : Nat, (1000 ≤ b ∧ b < 1042) → 1000 + (b - 1000) = b ∧ b - 1000 < 42 := by omega
    obtain ⟨ea, eb⟩ := key a h
    refine ⟨some (g.2.2.2.1 a), rfl, Or.inr ⟨a - 1000, eb, ?_, ?_⟩⟩
    · rw [ea]
    · rw [ea]
  | _ => cases hv
theorem mx_wr_eq {g : mx_G} (hI : mx_Inj g.2.2.2.1) {v w : Value} {q1 q2 : Option Nat} (h1 : v = .null ∧ q1 = none ∨ ∃ i, i < 42 ∧ v = .ref (1000 + i) ∧ q1 = some (g.2.2.2.1 (1000 + i))) (h2 : w = .null ∧ q2 = none ∨ ∃ i, i < 42 ∧ w = .ref (1000 + i) ∧ q2 = some (g.2.2.2.1 (1000 + i))) : (q1 = q2) ↔ (v = w) := by
  rcases h1 with ⟨rfl, rfl⟩ | ⟨i, hi, rfl, rfl⟩ <;> rcases h2 with ⟨rfl, rfl⟩ | ⟨j, hj, rfl, rfl⟩
  · simp
  · simp
  · simp
  · constructor
    · intro z
      rw [hI i j hi hj (Option.some.inj z)]
    · intro z
      have := Value.ref.inj z
      rw [this]
theorem mx_ok_acmp_eq (X : mx_Fx p s m args meth c g y) {off : Int} {t : Nat} {v w : Value} (hv : mx_wr v = true) (hw : mx_wr w = true) (ht : (pc : Int) + off = (t : Int)) (hd : decode y.2.2.2.2.1 pc = .ok (.if_acmp .eq off, 3)) (k : mx_Ok p l e s m args below meth c g o rk y (if decide (v = w) = true then t else pc + 3) L S h) : mx_Ok p l e s m args below meth c g o rk y pc L (w :: v :: S) h := by
  intro H locs ls hP hD hS hl hn
  have kk := k H locs ls hP hD hS hl hn
  obtain ⟨q1, e1, f1⟩ := mx_wr_rf (g := g) hv
  obtain ⟨q2, e2, f2⟩ := mx_wr_rf (g := g) hw
  have hiff := mx_wr_eq X.2.2.2.2.2.2.2.2.2.2.1 f1 f2
  simp only [decide_eq_true_eq] at kk
  show W p l e (mx_rm rk) s m args below meth c H locs 0 0 _ (F0 m pc ls (mx_v _ w :: mx_v _ v :: S.map _))
  rw [e1, e2]
  exact lv_acmp_eq X.1 X.2.1 hd ht (fun z => by rw [if_pos (hiff.mp z)] at kk; exact kk) (fun z => by rw [if_neg (fun z2 => z (hiff.mpr z2))] at kk; exact kk)
theorem mx_ok_acmp_ne (X : mx_Fx p s m args meth c g y) {off : Int} {t : Nat} {v w : Value} (hv : mx_wr v = true) (hw : mx_wr w = true) (ht : (pc : Int) + off = (t : Int)) (hd : decode y.2.2.2.2.1 pc = .ok (.if_acmp .ne off, 3)) (k : mx_Ok p l e s m args below meth c g o rk y (if decide (¬ v = w) = true then t else pc + 3) L S h) : mx_Ok p l e s m args below meth c g o rk y pc L (w :: v :: S) h := by
  intro H locs ls hP hD hS hl hn
  have kk := k H locs ls hP hD hS hl hn
  obtain ⟨q1, e1, f1⟩ := mx_wr_rf (g := g) hv
  obtain ⟨q2, e2, f2⟩ := mx_wr_rf (g := g) hw
  have hiff := mx_wr_eq X.2.2.2.2.2.2.2.2.2.2.1 f1 f2
  simp only [decide_eq_true_eq] at kk
  show W p l e (mx_rm rk) s m args below meth c H locs 0 0 _ (F0 m pc ls (mx_v _ w :: mx_v _ v :: S.map _))
  rw [e1, e2]
  exact lv_acmp_ne X.1 X.2.1 hd ht (fun z => by rw [if_pos (fun z2 => z (hiff.mpr z2))] at kk; exact kk) (fun z => by rw [if_neg (fun z2 => z2 (hiff.mp z))] at kk; exact kk)
end SND
