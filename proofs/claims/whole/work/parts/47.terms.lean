/-! the terms, in the class's cells -/
abbrev Tm : Type := Int × Int × Int × Int × Int × Int × Int × Int
def tk (t : Tm) : Int := t.1
def tS (t : Tm) : Int := t.2.1
def tx (t : Tm) : Int := t.2.2.1
def ty (t : Tm) : Int := t.2.2.2.1
def tz (t : Tm) : Int := t.2.2.2.2.1
def tp (t : Tm) : Int := t.2.2.2.2.2.1
def tq (t : Tm) : Int := t.2.2.2.2.2.2.1
def to (t : Tm) : Int := t.2.2.2.2.2.2.2
theorem tm_ext {a b : Tm} (h : tk a = tk b ∧ tS a = tS b ∧ tx a = tx b ∧ ty a = ty b ∧ tz a = tz b ∧ tp a = tp b ∧ tq a = tq b ∧ to a = to b) : a = b := by
  obtain ⟨a1, a2, a3, a4, a5, a6, a7, a8⟩ := a
  obtain ⟨b1, b2, b3, b4, b5, b6, b7, b8⟩ := b
  simp only [tk, tS, tx, ty, tz, tp, tq, to] at h
  obtain ⟨rfl, rfl, rfl, rfl, rfl, rfl, rfl, rfl⟩ := h
  rfl
def tmE (a b : Tm) : Bool := decide (tk a = tk b ∧ tS a = tS b ∧ tx a = tx b ∧ ty a = ty b ∧ tz a = tz b ∧ tp a = tp b ∧ tq a = tq b ∧ to a = to b)
theorem tmE_t {a b : Tm} (h : a = b) : tmE a b = true := by rw [h]; exact decide_eq_true ⟨rfl, rfl, rfl, rfl, rfl, rfl, rfl, rfl⟩
theorem tmE_e {a b : Tm} (h : tmE a b = true) : a = b := tm_ext (of_decide_eq_true h)
theorem tmE_f {a b : Tm} (h : a ≠ b) : tmE a b = false := by
  cases q : tmE a b with
  | false => rfl
  | true => exact absurd (tmE_e q) h
/-- the word of a kind -/
def wk (k : Int) : Nat := if k = 0 then 4 else if k = 1 then 8 else if k = 2 then 9 else if k = 3 then 1 else (k + 7).toNat
/-- how many parts -/
def np (k : Int) : Int := if k ≤ 3 then 0 else if k = 4 ∨ k = 12 ∨ k = 13 ∨ (30 ≤ k ∧ k ≤ 32) then 1 else if k = 11 ∨ k = 34 then 3 else 2
def cp (x : Int) : Int := if x < 0 then 0 else x
def cn1 (t : Tm) : Int := if tk t = 3 then tq t else if tk t = 0 then to t else tp t
def cn2 (t : Tm) : Int := if tk t = 3 ∨ tk t = 0 then 0 else tq t
/-- a term's form -/
def shp (t : Tm) : Prop := (0 ≤ tk t ∧ tk t ≤ 34) ∧ (0 ≤ tS t ∧ tS t ≤ 8) ∧ (-1 ≤ tx t ∧ tx t < 1000) ∧ (-1 ≤ ty t ∧ ty t < 1000) ∧ (-1 ≤ tz t ∧ tz t < 1000) ∧ (1 ≤ np (tk t) ↔ 0 ≤ tx t) ∧ (2 ≤ np (tk t) ↔ 0 ≤ ty t) ∧ (3 ≤ np (tk t) ↔ 0 ≤ tz t) ∧ (0 ≤ tp t ∧ tp t < 100000) ∧ (0 ≤ tq t ∧ tq t < 1000) ∧ (0 ≤ to t ∧ to t ≤ 8) ∧ (tk t = 3 → tp t = tS t) ∧ (tk t = 0 → tq t = 0) ∧ (tk t ≠ 0 → to t = 0)
theorem wk_inj {a b : Int} (ha : 0 ≤ a ∧ a ≤ 34) (hb : 0 ≤ b ∧ b ≤ 34) (h : wk a = wk b) : a = b := by
  unfold wk at h
  split at h <;> split at h <;> (try split at h) <;> (try split at h) <;> (try split at h) <;> (try split at h) <;> (try split at h) <;> (try split at h) <;> omega
theorem wk_lt {a : Int} (ha : 0 ≤ a ∧ a ≤ 34) : wk a < 42 := by
  unfold wk
  split <;> (try split) <;> (try split) <;> (try split) <;> omega
theorem ck_inj {a b : Tm} (ha : shp a) (hb : shp b) (k0 : tk b ≠ 0) (h : wk (tk a) = wk (tk b)) (hS : tS a = tS b) (h1 : cp (tx a) = cp (tx b)) (h2 : cp (ty a) = cp (ty b)) (h3 : cp (tz a) = cp (tz b)) (h4 : cn1 a = cn1 b) (h5 : cn2 a = cn2 b) : a = b := by
  unfold shp at ha hb
  have hk : tk a = tk b := wk_inj (by omega) (by omega) h
  rw [hk] at ha
  unfold cp at h1 h2 h3
  unfold cn1 at h4
  unfold cn2 at h5
  rw [hk] at h4 h5
  have x1 : tx a = tx b := by split at h1 <;> split at h1 <;> omega
  have x2 : ty a = ty b := by split at h2 <;> split at h2 <;> omega
  have x3 : tz a = tz b := by split at h3 <;> split at h3 <;> omega
  by_cases q : tk b = 3
  · rw [if_pos q, if_pos q] at h4
    exact tm_ext ⟨hk, hS, x1, x2, x3, by omega, h4, by omega⟩
  · rw [if_neg q, if_neg q, if_neg k0, if_neg k0] at h4
    rw [if_neg (by omega), if_neg (by omega)] at h5
    exact tm_ext ⟨hk, hS, x1, x2, x3, h4, h5, by omega⟩
/-- slot t holds the term m -/
def SlotC (m : Tm) (t : Nat) (f : Nat → Nat → Int32) (g : Nat → Nat → Option Nat) : Prop := g 7 t = some (1000 + wk (tk m)) ∧ f 10 t = iI (tS m) ∧ f 8 (3 * t) = iI (cp (tx m)) ∧ f 8 (3 * t + 1) = iI (cp (ty m)) ∧ f 8 (3 * t + 2) = iI (cp (tz m)) ∧ f 9 (2 * t) = iI (cn1 m) ∧ f 9 (2 * t + 1) = iI (cn2 m)
def TermC (n : Nat) (ts : Nat → Tm) (f : Nat → Nat → Int32) (g : Nat → Nat → Option Nat) : Prop := f 6 4 = iI n ∧ n ≤ 180 ∧ (∀ t, t < n → SlotC (ts t) t f g ∧ shp (ts t))
theorem cp_b {m : Tm} (h : shp m) : (0 ≤ cp (tx m) ∧ cp (tx m) < 1000) ∧ (0 ≤ cp (ty m) ∧ cp (ty m) < 1000) ∧ (0 ≤ cp (tz m) ∧ cp (tz m) < 1000) ∧ (0 ≤ cn1 m ∧ cn1 m < 100000) ∧ (0 ≤ cn2 m ∧ cn2 m < 1000) := by
  unfold shp at h
  unfold cp cn1 cn2
  refine ⟨?_, ?_, ?_, ?_, ?_⟩
  · split <;> omega
  · split <;> omega
  · split <;> omega
  · split
    · omega
    · split <;> omega
  · split <;> omega
theorem rf_some {a b : Nat} : ((mx_rf (some a) : Value) = mx_rf (some b)) = (a = b) := propext ⟨fun q => (by injection q), fun q => by rw [q]⟩
theorem X7_isPrepared_c {m m' : Tm} {t n : Nat} {h : mx_H} (hn : h.1 6 4 = iI n) (hn8 : n < 180) (ht : t < n) (A : SlotC m t h.1 h.2.2) (B : SlotC m' n h.1 h.2.2) (ha : shp m) (hb : shp m') (k0 : tk m' ≠ 0) : mx_C mm_X7_isPrepared [.ref 6, .int (iI (t))] h = some (some (.int (bI (tmE m m'))), h) := by
  have a1 : 0 ≤ tk m ∧ tk m ≤ 34 := ha.1
  have b1 : 0 ≤ tk m' ∧ tk m' ≤ 34 := hb.1
  have a2 : 0 ≤ tS m ∧ tS m ≤ 8 := ha.2.1
  have b2 : 0 ≤ tS m' ∧ tS m' ≤ 8 := hb.2.1
  have ca := cp_b ha
  have cb := cp_b hb
  have wa := wk_lt a1
  have wb := wk_lt b1
  obtain ⟨A1, A2, A3, A4, A5, A6, A7⟩ := A
  obtain ⟨B1, B2, B3, B4, B5, B6, B7⟩ := B
  have cl : ∀ k : Nat, k < 180 → (iI (k : Int)).toNatClampNeg = k := fun k hk => by rw [ii_cl (by omega)]; exact Int.toNat_natCast k
  rw [c_X7_isPrepared, e_X7_isPrepared_0 (hq0 := by rw [cl t (by omega), A1]; exact decide_eq_true (p := 1000 ≤ 1000 + wk (tk m) ∧ 1000 + wk (tk m) < 1042) (by omega)) (hq1 := by rw [hn, cl n (by omega), B1]; exact decide_eq_true (p := 1000 ≤ 1000 + wk (tk m') ∧ 1000 + wk (tk m') < 1042) (by omega))]
  by_cases q1 : wk (tk m) = wk (tk m')
  · by_cases q2 : tS m = tS m'
    · have e50 : ∀ v : Value, mx_D (1, mm_X7_isPrepared, 50, [.ref 6, .int (iI (t)), .int (iI (0))], []) h = some (some (.int (bI (tmE m m'))), h) := by
        intro v
        rw [e_X7_isPrepared_50]
        by_cases q3 : cp (tx m) = cp (tx m')
        · by_cases q4 : cp (ty m) = cp (ty m')
          · by_cases q5 : cp (tz m) = cp (tz m')
            · by_cases q6 : cn1 m = cn1 m'
              · by_cases q7 : cn2 m = cn2 m'
                · rw [tmE_t (ck_inj ha hb k0 q1 q2 q3 q4 q5 q6 q7)]
                  simp (disch := omega) only [↓reduceIte, ii_lit, ii_add, ii_sub, ii_mul, ii_neg, ii_lt_t, ii_lt_f, ii_le_t, ii_le_f, ii_eq_t, ii_eq_f, ii_in, ii_cl, ii_shr, ii_shl, ii_and1, ii_and255, Option.bind_some, Option.toList, List.cons_append, List.nil_append, Int.toNat_natCast, mu_s, mu_c, mu_k, bI_i0, bI_i1, bI_n, nb_0, nb_1, bI_ft, bI_ff, Bool.false_eq_true, reduceCtorEq, Bool.true_eq_false, decide_true, decide_false, eq_self, Int.reduceAdd, Int.reduceSub, Int.reduceMul, Int.reduceNeg, Int.reduceToNat, tn30, tn31, tn32, tn20, tn21, hn, A3, A4, A5, A6, A7, B3, B4, B5, B6, B7, e_X7_isPrepared_50, e_X7_isPrepared_142, q3, q4, q5, q6, q7]
                · rw [tmE_f (fun z => q7 (by rw [z]))]
                  simp (disch := omega) only [↓reduceIte, ii_lit, ii_add, ii_sub, ii_mul, ii_neg, ii_lt_t, ii_lt_f, ii_le_t, ii_le_f, ii_eq_t, ii_eq_f, ii_in, ii_cl, ii_shr, ii_shl, ii_and1, ii_and255, Option.bind_some, Option.toList, List.cons_append, List.nil_append, Int.toNat_natCast, mu_s, mu_c, mu_k, bI_i0, bI_i1, bI_n, nb_0, nb_1, bI_ft, bI_ff, Bool.false_eq_true, reduceCtorEq, Bool.true_eq_false, decide_true, decide_false, eq_self, Int.reduceAdd, Int.reduceSub, Int.reduceMul, Int.reduceNeg, Int.reduceToNat, tn30, tn31, tn32, tn20, tn21, hn, A3, A4, A5, A6, A7, B3, B4, B5, B6, B7, e_X7_isPrepared_50, e_X7_isPrepared_141, e_X7_isPrepared_142, q3, q4, q5, q6]
              · rw [tmE_f (fun z => q6 (by rw [z]))]
                simp (disch := omega) only [↓reduceIte, ii_lit, ii_add, ii_sub, ii_mul, ii_neg, ii_lt_t, ii_lt_f, ii_le_t, ii_le_f, ii_eq_t, ii_eq_f, ii_in, ii_cl, ii_shr, ii_shl, ii_and1, ii_and255, Option.bind_some, Option.toList, List.cons_append, List.nil_append, Int.toNat_natCast, mu_s, mu_c, mu_k, bI_i0, bI_i1, bI_n, nb_0, nb_1, bI_ft, bI_ff, Bool.false_eq_true, reduceCtorEq, Bool.true_eq_false, decide_true, decide_false, eq_self, Int.reduceAdd, Int.reduceSub, Int.reduceMul, Int.reduceNeg, Int.reduceToNat, tn30, tn31, tn32, tn20, tn21, hn, A3, A4, A5, A6, A7, B3, B4, B5, B6, B7, e_X7_isPrepared_50, e_X7_isPrepared_141, e_X7_isPrepared_142, q3, q4, q5]
            · rw [tmE_f (fun z => q5 (by rw [z]))]
              simp (disch := omega) only [↓reduceIte, ii_lit, ii_add, ii_sub, ii_mul, ii_neg, ii_lt_t, ii_lt_f, ii_le_t, ii_le_f, ii_eq_t, ii_eq_f, ii_in, ii_cl, ii_shr, ii_shl, ii_and1, ii_and255, Option.bind_some, Option.toList, List.cons_append, List.nil_append, Int.toNat_natCast, mu_s, mu_c, mu_k, bI_i0, bI_i1, bI_n, nb_0, nb_1, bI_ft, bI_ff, Bool.false_eq_true, reduceCtorEq, Bool.true_eq_false, decide_true, decide_false, eq_self, Int.reduceAdd, Int.reduceSub, Int.reduceMul, Int.reduceNeg, Int.reduceToNat, tn30, tn31, tn32, tn20, tn21, hn, A3, A4, A5, A6, A7, B3, B4, B5, B6, B7, e_X7_isPrepared_50, q3, q4]
          · rw [tmE_f (fun z => q4 (by rw [z]))]
            simp (disch := omega) only [↓reduceIte, ii_lit, ii_add, ii_sub, ii_mul, ii_neg, ii_lt_t, ii_lt_f, ii_le_t, ii_le_f, ii_eq_t, ii_eq_f, ii_in, ii_cl, ii_shr, ii_shl, ii_and1, ii_and255, Option.bind_some, Option.toList, List.cons_append, List.nil_append, Int.toNat_natCast, mu_s, mu_c, mu_k, bI_i0, bI_i1, bI_n, nb_0, nb_1, bI_ft, bI_ff, Bool.false_eq_true, reduceCtorEq, Bool.true_eq_false, decide_true, decide_false, eq_self, Int.reduceAdd, Int.reduceSub, Int.reduceMul, Int.reduceNeg, Int.reduceToNat, tn30, tn31, tn32, tn20, tn21, hn, A3, A4, A5, A6, A7, B3, B4, B5, B6, B7, e_X7_isPrepared_50, q3]
        · rw [tmE_f (fun z => q3 (by rw [z]))]
          simp (disch := omega) only [↓reduceIte, ii_lit, ii_add, ii_sub, ii_mul, ii_neg, ii_lt_t, ii_lt_f, ii_le_t, ii_le_f, ii_eq_t, ii_eq_f, ii_in, ii_cl, ii_shr, ii_shl, ii_and1, ii_and255, Option.bind_some, Option.toList, List.cons_append, List.nil_append, Int.toNat_natCast, mu_s, mu_c, mu_k, bI_i0, bI_i1, bI_n, nb_0, nb_1, bI_ft, bI_ff, Bool.false_eq_true, reduceCtorEq, Bool.true_eq_false, decide_true, decide_false, eq_self, Int.reduceAdd, Int.reduceSub, Int.reduceMul, Int.reduceNeg, Int.reduceToNat, tn30, tn31, tn32, tn20, tn21, hn, A3, A4, A5, A6, A7, B3, B4, B5, B6, B7, e_X7_isPrepared_50]
      simp (disch := omega) only [↓reduceIte, ii_lit, ii_add, ii_sub, ii_mul, ii_neg, ii_lt_t, ii_lt_f, ii_le_t, ii_le_f, ii_eq_t, ii_eq_f, ii_in, ii_cl, ii_shr, ii_shl, ii_and1, ii_and255, Option.bind_some, Option.toList, List.cons_append, List.nil_append, Int.toNat_natCast, mu_s, mu_c, mu_k, bI_i0, bI_i1, bI_n, nb_0, nb_1, bI_ft, bI_ff, Bool.false_eq_true, reduceCtorEq, Bool.true_eq_false, decide_true, decide_false, eq_self, Int.reduceAdd, Int.reduceSub, Int.reduceMul, Int.reduceNeg, Int.reduceToNat, tn30, tn31, tn32, tn20, tn21, hn, A1, A2, B1, B2, rf_some, q1, q2, e50 .null]
    · rw [tmE_f (fun z => q2 (by rw [z]))]
      simp (disch := omega) only [↓reduceIte, ii_lit, ii_add, ii_sub, ii_mul, ii_neg, ii_lt_t, ii_lt_f, ii_le_t, ii_le_f, ii_eq_t, ii_eq_f, ii_in, ii_cl, ii_shr, ii_shl, ii_and1, ii_and255, Option.bind_some, Option.toList, List.cons_append, List.nil_append, Int.toNat_natCast, mu_s, mu_c, mu_k, bI_i0, bI_i1, bI_n, nb_0, nb_1, bI_ft, bI_ff, Bool.false_eq_true, reduceCtorEq, Bool.true_eq_false, decide_true, decide_false, eq_self, Int.reduceAdd, Int.reduceSub, Int.reduceMul, Int.reduceNeg, Int.reduceToNat, tn30, tn31, tn32, tn20, tn21, hn, A1, A2, B1, B2, rf_some, q1, e_X7_isPrepared_46]
  · have q1' : ¬ (1000 + wk (tk m) = 1000 + wk (tk m')) := by omega
    rw [tmE_f (fun z => q1 (by rw [z]))]
    simp (disch := omega) only [↓reduceIte, ii_lit, ii_add, ii_sub, ii_mul, ii_neg, ii_lt_t, ii_lt_f, ii_le_t, ii_le_f, ii_eq_t, ii_eq_f, ii_in, ii_cl, ii_shr, ii_shl, ii_and1, ii_and255, Option.bind_some, Option.toList, List.cons_append, List.nil_append, Int.toNat_natCast, mu_s, mu_c, mu_k, bI_i0, bI_i1, bI_n, nb_0, nb_1, bI_ft, bI_ff, Bool.false_eq_true, reduceCtorEq, Bool.true_eq_false, decide_true, decide_false, eq_self, Int.reduceAdd, Int.reduceSub, Int.reduceMul, Int.reduceNeg, Int.reduceToNat, tn30, tn31, tn32, tn20, tn21, hn, A1, A2, B1, B2, rf_some, q1', e_X7_isPrepared_46]
