/-! the class's circuits: grow -/
section GS
variable {z : Nat} {gs : Nat → Gt} {h : mx_H} {n b : Nat} {ts : Nat → Tm}
theorem bS_n {a : Nat} (h : 1 ≤ a ∧ a ≤ 4) : (bitsS (a : Int)).toNat = a := by rw [bSw (by omega)]; omega
theorem bS_a {a : Nat} (h : 4 < a) : (bitsS (a : Int)).toNat = 2 * (a - 4) := by unfold bitsS; rw [if_neg (by omega), if_pos (by omega)]; omega
theorem bS_0 : (bitsS ((0 : Nat) : Int)).toNat = 1 := rfl
/-- terms with parts -/
theorem grow_b (W : WF n ts) (C : Cx n b ts h) (G : GtC z gs h.1) (GWz : GW z gs) (B : CirB n ts z gs h b) (k4 : 4 ≤ tk (ts b)) (hz : z + (if 19 ≤ tk (ts b) ∧ tk (ts b) ≤ 21 then 64 else 16) ≤ 1065) (u1 u2 u3 u4 : Value) : GrO n ts b (if 19 ≤ tk (ts b) ∧ tk (ts b) ≤ 21 then 64 else 16) z gs h (mx_D (14, mm_X1_grow, 0, [.ref 28, u1, u2, u3, u4], []) h) := by
  have c2 := C.2.1
  have c3 := C.2.2.1
  obtain ⟨x, y, w, s, a, c, d, p, q, ⟨x1, x2, x3⟩, hy, hy0, hw, hw0, hs, hp, hq, a8, cc8, d8, s8, T⟩ := term_ty W c2 k4
  have k34 := (C.2.2.2.2.2 b c2).2.1.2
  obtain ⟨k, hk⟩ : ∃ k : Nat, tk (ts b) = (k : Int) := ⟨(tk (ts b)).toNat, by omega⟩
  have k4' : 4 ≤ k := by omega
  have k34' : k ≤ 34 := by omega
  have wkk : wk (tk (ts b)) = k + 7 := by unfold wk; rw [if_neg (by omega), if_neg (by omega), if_neg (by omega), if_neg (by omega)]; omega
  have cx : cp (tx (ts b)) = (x : Int) := by unfold cp; rw [if_neg (by omega)]; exact x1
  -- the parts' bits
  have BX : ∀ i, i < (bitsS (a : Int)).toNat → CL z gs (QT n ts b) h 29 (8 * x + i) (fun X => bt (vX ts X x) i) := fun i hi => CL_q (QT_p (Or.inl x1)) (B x x2 i (by rw [x3]; exact hi))
  have BY : 2 ≤ np (tk (ts b)) → ∀ i, i < (bitsS (c : Int)).toNat → CL z gs (QT n ts b) h 29 (8 * y + i) (fun X => bt (vX ts X y) i) := fun e i hi => CL_q (QT_p (Or.inr (Or.inl (hy e).1))) (B y (hy e).2.1 i (by rw [(hy e).2.2]; exact hi))
  have BZ : 3 ≤ np (tk (ts b)) → ∀ i, i < (bitsS (d : Int)).toNat → CL z gs (QT n ts b) h 29 (8 * w + i) (fun X => bt (vX ts X w) i) := fun e i hi => CL_q (QT_p (Or.inr (Or.inr (hw e).1))) (B w (hw e).2.1 i (by rw [(hw e).2.2]; exact hi))
  have vx : ∀ X, vX ts X x < 2 ^ (bitsS (a : Int)).toNat := fun X => by have := vX_lt W c3 (x := X) (show x < n by omega); rw [x3] at this; exact this
  have vy : 2 ≤ np (tk (ts b)) → ∀ X, vX ts X y < 2 ^ (bitsS (c : Int)).toNat := fun e X => by have := vX_lt W c3 (x := X) (show y < n by have := (hy e).2.1; omega); rw [(hy e).2.2] at this; exact this
  have vw : 3 ≤ np (tk (ts b)) → ∀ X, vX ts X w < 2 ^ (bitsS (d : Int)).toNat := fun e X => by have := vX_lt W c3 (x := X) (show w < n by have := (hw e).2.1; omega); rw [(hw e).2.2] at this; exact this
  have val : ∀ X, vX ts X b = opv (k : Int) s a (if ty (ts b) < 0 then 0 else tS (ts (ty (ts b)).toNat)).toNat q (vX ts X x) (prV (vX ts X) (ty (ts b))) (prV (vX ts X) (tz (ts b))) := by
    intro X
    unfold vX
    rw [tvl_o W c2 (by omega)]
    unfold opT
    rw [hk, hs, x1, hq, if_neg (by omega), show ((x : Int)).toNat = x from Int.toNat_natCast x, x3, Int.toNat_natCast, Int.toNat_natCast, Int.toNat_natCast]
    have : prV (tvl ts (rhoX ts X)) (x : Int) = tvl ts (rhoX ts X) x := by unfold prV; rw [if_neg (by omega), Int.toNat_natCast]
    rw [this]
  have py : 2 ≤ np (tk (ts b)) → ∀ X, prV (vX ts X) (ty (ts b)) = vX ts X y := fun e X => by unfold prV; rw [(hy e).1, if_neg (by omega), Int.toNat_natCast]
  have pz : 3 ≤ np (tk (ts b)) → ∀ X, prV (vX ts X) (tz (ts b)) = vX ts X w := fun e X => by unfold prV; rw [(hw e).1, if_neg (by omega), Int.toNat_natCast]
  have wyy : 2 ≤ np (tk (ts b)) → (if ty (ts b) < 0 then 0 else tS (ts (ty (ts b)).toNat)).toNat = c := fun e => by rw [(hy e).1, if_neg (by omega), Int.toNat_natCast, (hy e).2.2, Int.toNat_natCast]
  have cy : 2 ≤ np (tk (ts b)) → cp (ty (ts b)) = (y : Int) := fun e => by unfold cp; rw [(hy e).1, if_neg (by omega)]
  have cz : 3 ≤ np (tk (ts b)) → cp (tz (ts b)) = (w : Int) := fun e => by unfold cp; rw [(hw e).1, if_neg (by omega)]
  have npk : ∀ m : Int, np (k : Int) = m → np (tk (ts b)) = m := fun m e => by rw [hk]; exact e
  rw [grow_pre C, cx, wkk, show 1000 + (k + 7) = 1007 + k by omega]
  rw [hk] at hz ⊢
  rw [hk] at T
  rcases T with t | t | t | t | t | t | t | t | t | t | t | t
  · -- not
    obtain ⟨t1, t2, t3⟩ := t
    have k4 : k = 4 := by omega
    rw [t2] at BX vx
    rw [if_neg (by omega)] at hz ⊢
    rw [k4]
    have y0 : cp (ty (ts b)) = ((0 : Nat) : Int) := by rw [hy0 (by rw [hk, k4]; decide)]; rfl
    obtain ⟨l, l1, l2⟩ := bit_l C x2 (by omega) (BX 0 (by decide))
    rw [y0]
    have e1 : ∀ v4 : Int32, mx_D (14, mm_X1_grow, 87, [.ref 28, mx_rf (some (1007 + 4)), .int (iI ((x : Int))), .int (iI (((0 : Nat) : Int))), .int v4], [.int (iI (shF (4 + 7)))]) h = (mx_C mm_X1_logic [.ref 28, mx_rf (some 1011), .int (iI ((l : Int))), .int (h.1 29 (8 * 0 + 0))] h).bind (fun o => mx_D (14, mm_X1_grow, 155, [.ref 28, mx_rf (some (1007 + 4)), .int (iI ((x : Int))), .int (iI (((0 : Nat) : Int))), .int v4], o.1.toList ++ [.int 0, .ref 28]) o.2) := by
      intro v4
      refine Eq.trans (e_X1_grow_87_1 ..) (Eq.trans (e_X1_grow_136 ..) ?_)
      rw [show mx_C mm_X1_bitOf [.ref 28, .int (iI ((x : Int))), .int 0] h = _ from l1]
      refine Eq.trans (e_X1_grow_146 ..) ?_
      rw [show mx_C mm_X1_bitOf [.ref 28, .int (iI (((0 : Nat) : Int))), .int 0] h = _ from X1_bitOf_v (t := 0) (i := 0) C.1 (by omega) (by omega) (by omega)]
      exact e_X1_grow_152 ..
    rw [e1]
    refine GrO_w (grow_1 (v1 := some 1011) (v2 := iI (x : Int)) (v3 := iI ((0 : Nat) : Int)) (v4 := iI (cp (tz (ts b)))) C (X1_logic_n G GWz l2) (by rw [hs, t3]; rfl) (fun X => ?_) (fun r h' h'' _ st e => ?_)) (show 1 ≤ 16 by omega)
    · rw [val, k4]
      exact m_not (by have := vx X; exact this)
    · refine Eq.trans (e_X1_grow_155 (some 1011) _ _ _ _ _ _) ?_
      rw [show mx_C mm_X1_set [.ref 28, .int 0, .int (iI ((r : Int)))] h' = _ from st r, e]
      exact e_X1_grow_158 ..
  · -- and, or, xor, implies
    obtain ⟨t1, t2, t3, t4⟩ := t
    have kk : k = 5 ∨ k = 6 ∨ k = 7 ∨ k = 8 := by omega
    have n2 : np (tk (ts b)) = 2 := npk 2 (by rcases kk with e | e | e | e <;> rw [e] <;> rfl)
    rw [t2] at BX vx
    have BY := BY (by omega)
    have vy := vy (by omega)
    rw [t3] at BY vy
    rw [if_neg (by omega)] at hz ⊢
    obtain ⟨l, l1, l2⟩ := bit_l C x2 (by omega) (BX 0 (by decide))
    obtain ⟨l', l3, l4⟩ := bit_l C (hy (by omega)).2.1 (by omega) (BY 0 (by decide))
    rw [cy (by omega)]
    have e1 : ∀ v4 : Int32, mx_D (14, mm_X1_grow, 87, [.ref 28, mx_rf (some (1007 + k)), .int (iI ((x : Int))), .int (iI ((y : Int))), .int v4], [.int (iI (shF (k + 7)))]) h = (mx_C mm_X1_logic [.ref 28, mx_rf (some (1007 + k)), .int (iI ((l : Int))), .int (iI ((l' : Int)))] h).bind (fun o => mx_D (14, mm_X1_grow, 155, [.ref 28, mx_rf (some (1007 + k)), .int (iI ((x : Int))), .int (iI ((y : Int))), .int v4], o.1.toList ++ [.int 0, .ref 28]) o.2) := by
      intro v4
      rw [show shF (k + 7) = 1 by unfold shF; rw [if_neg (by omega), if_pos (by omega)]]
      refine Eq.trans (e_X1_grow_87_1 ..) (Eq.trans (e_X1_grow_136 ..) ?_)
      rw [show mx_C mm_X1_bitOf [.ref 28, .int (iI ((x : Int))), .int 0] h = _ from l1]
      refine Eq.trans (e_X1_grow_146 ..) ?_
      rw [show mx_C mm_X1_bitOf [.ref 28, .int (iI ((y : Int))), .int 0] h = _ from l3]
      exact e_X1_grow_152 ..
    rw [e1]
    refine GrO_w (grow_1 (v1 := some (1007 + k)) (v2 := iI (x : Int)) (v3 := iI (y : Int)) (v4 := iI (cp (tz (ts b)))) C (X1_logic_c (by omega) G GWz (by omega) l2 l4) (by rw [hs, t4]; rfl) (fun X => ?_) (fun r h' h'' _ st e => ?_)) (show 1 ≤ 16 by omega)
    · rw [val, py (by omega)]
      exact m_log (by omega) (vx X) (vy X)
    · refine Eq.trans (e_X1_grow_155 (some (1007 + k)) _ _ _ _ _ _) ?_
      rw [show mx_C mm_X1_set [.ref 28, .int 0, .int (iI ((r : Int)))] h' = _ from st r, e]
      exact e_X1_grow_158 ..
  · -- equal, distinct
    obtain ⟨t1, t2, t3⟩ := t
    have kk : k = 9 ∨ k = 10 := by omega
    have n2 : np (tk (ts b)) = 2 := npk 2 (by rcases kk with e | e <;> rw [e] <;> rfl)
    have BY := BY (by omega)
    have vy := vy (by omega)
    rw [← t2] at BY vy
    have wb := bitsS_b (so := (a : Int)) (by omega)
    rw [if_neg (by omega)] at hz ⊢
    rw [cy (by omega)]
    have E := X1_equal_c (Q := QT n ts b) (f := fun i X => bt (vX ts X x) i) (g := fun i X => bt (vX ts X y) i) x2 (hy (by omega)).2.1 (by rw [x3]) (by omega) (by omega) G GWz C (fun i hi => ⟨BX i hi, BY i hi⟩)
    have e1 : ∀ v4 : Int32, mx_D (14, mm_X1_grow, 87, [.ref 28, mx_rf (some (1007 + k)), .int (iI ((x : Int))), .int (iI ((y : Int))), .int v4], [.int (iI (shF (k + 7)))]) h = mx_D (14, mm_X1_grow, 161, [.ref 28, mx_rf (some (1007 + k)), .int (iI ((x : Int))), .int (iI ((y : Int))), .int v4], []) h := by
      intro v4
      rw [show shF (k + 7) = 2 by unfold shF; rw [if_neg (by omega), if_neg (by omega), if_pos (by omega)]]
      exact e_X1_grow_87_2 ..
    have wr : mx_wr (mx_rf (some (1007 + k))) = true := decide_eq_true (p := 1000 ≤ 1007 + k ∧ 1007 + k < 1042) (by omega)
    rw [e1, e_X1_grow_161 (hq0 := wr)]
    rcases kk with e9 | e10
    · rw [if_pos (c := mx_rf (some (1007 + k)) = .ref 1016) (wdE.mpr (by omega))]
      refine GrO_w (grow_1 (v1 := some (1007 + k)) (v2 := iI (x : Int)) (v3 := iI (y : Int)) (v4 := iI (cp (tz (ts b)))) C E (by rw [hs, t3]; rfl) (fun X => ?_) (fun r h' h'' _ st e => ?_)) (show 2 * (bitsS (a : Int)).toNat ≤ 16 by omega)
      · rw [val, py (by omega), e9]
        exact m_eq (fun _ => rfl) (fun _ => rfl) (vx X) (vy X)
      · refine Eq.trans (e_X1_grow_176 (some (1007 + k)) _ _ _ _ _ _) (Eq.trans (e_X1_grow_187 ..) ?_)
        rw [show mx_C mm_X1_set [.ref 28, .int 0, .int (iI ((r : Int)))] h' = _ from st r, e]
        exact e_X1_grow_190 ..
    · rw [if_neg (c := mx_rf (some (1007 + k)) = .ref 1016) (fun e => by have := wdE.mp e; omega)]
      refine GrO_w (grow_1n (v1 := some (1007 + k)) (v2 := iI (x : Int)) (v3 := iI (y : Int)) (v4 := iI (cp (tz (ts b)))) C E (by rw [hs, t3]; rfl) (fun X => ?_) (fun r h' h'' rl st e => ?_)) (show 2 * (bitsS (a : Int)).toNat ≤ 16 by omega)
      · rw [val, py (by omega), e10]
        exact m_ne (fun _ => rfl) (fun _ => rfl) (vx X) (vy X)
      · refine Eq.trans (e_X1_grow_185 (some (1007 + k)) _ _ _ _ _ _) (Eq.trans (e_X1_grow_187 ..) ?_)
        rw [ii_ng rl, show mx_C mm_X1_set [.ref 28, .int 0, .int (iI ((ng r : Int)))] h' = _ from st (ng r), e]
        exact e_X1_grow_190 ..
  · -- ite
    obtain ⟨t1, t2, t3, t4⟩ := t
    have k11 : k = 11 := by omega
    have n3 : np (tk (ts b)) = 3 := npk 3 (by rw [k11]; rfl)
    have BY := BY (by omega)
    have vy := vy (by omega)
    have BZ := BZ (by omega)
    have vw := vw (by omega)
    rw [t2] at BX vx
    rw [← t3] at BZ vw
    have wb := bitsS_b (so := (c : Int)) (by omega)
    rw [if_neg (by omega)] at hz ⊢
    obtain ⟨l, l1, l2⟩ := bit_l C x2 (by omega) (BX 0 (by decide))
    rw [cy (by omega), cz (by omega)]
    have e1 : mx_D (14, mm_X1_grow, 87, [.ref 28, mx_rf (some (1007 + k)), .int (iI ((x : Int))), .int (iI ((y : Int))), .int (iI ((w : Int)))], [.int (iI (shF (k + 7)))]) h = (mx_C mm_X1_choose [.ref 28, .int (iI ((l : Int))), .int (iI ((y : Int))), .int (iI ((w : Int)))] h).bind (fun o => mx_D (14, mm_X1_grow, 206, [.ref 28, mx_rf (some (1007 + k)), .int (iI ((x : Int))), .int (iI ((y : Int))), .int (iI ((w : Int)))], o.1.toList ++ []) o.2) := by
      rw [show shF (k + 7) = 3 by unfold shF; rw [if_neg (by omega), if_neg (by omega), if_neg (by omega), if_pos (by omega)]]
      refine Eq.trans (e_X1_grow_87_3 ..) (Eq.trans (e_X1_grow_193 ..) ?_)
      rw [show mx_C mm_X1_bitOf [.ref 28, .int (iI ((x : Int))), .int 0] h = _ from l1]
      exact e_X1_grow_200 ..
    rw [e1]
    refine GrO_w (grow_v (v1 := some (1007 + k)) (Gv_p (X1_choose_c (Q := QT n ts b) (f := fun i X => bt (vX ts X y) i) (g := fun i X => bt (vX ts X w) i) (hy (by omega)).2.1 (hw (by omega)).2.1 (by rw [(hy (by omega)).2.2]) (by omega) (by omega) G GWz C l2 (fun i hi => ⟨BY i hi, BZ i hi⟩)) (fun z' gs' h' P i hi => ?_)) (fun _ _ q => Or.inr q) (fun h' => e_X1_grow_206 ..)) (show (bitsS (c : Int)).toNat ≤ 16 by omega)
    rw [hs, t4] at hi
    refine CL_f (fun X => ?_) (P i hi)
    rw [val, py (by omega), pz (by omega), k11]
    exact m_ite (vx X)
  · -- neg, not
    obtain ⟨t1, t2, t3, t4⟩ := t
    rw [bS_n (by omega)] at BX vx
    have e1 : ∀ v3 v4 : Int32, mx_D (14, mm_X1_grow, 87, [.ref 28, mx_rf (some (1007 + k)), .int (iI ((x : Int))), .int v3, .int v4], [.int (iI (shF (k + 7)))]) h = (mx_C mm_X1_calculate [.ref 28, mx_rf (some (1007 + k)), .int (iI ((x : Int))), .int v3] h).bind (fun o => mx_D (14, mm_X1_grow, 216, [.ref 28, mx_rf (some (1007 + k)), .int (iI ((x : Int))), .int v3, .int v4], o.1.toList ++ []) o.2) := by
      intro v3 v4
      rw [show shF (k + 7) = 4 by unfold shF; rw [if_neg (by omega), if_neg (by omega), if_neg (by omega), if_neg (by omega), if_pos (by omega)]]
      exact Eq.trans (e_X1_grow_87_4 ..) (e_X1_grow_209 ..)
    have y0 : cp (ty (ts b)) = ((0 : Nat) : Int) := by
      rw [hy0 (by rw [hk]; have kk : k = 12 ∨ k = 13 := by omega
                  rcases kk with e | e <;> rw [e] <;> decide)]; rfl
    rw [y0, e1]
    have hz' : z + (if 19 ≤ k ∧ k ≤ 21 then 64 else 16) ≤ 1065 := by rw [if_neg (by omega)] at hz ⊢; omega
    refine GrO_w (grow_v (v1 := some (1007 + k)) (Gv_p (X1_calculate_c (Q := QT n ts b) (f := fun i X => bt (vX ts X x) i) (g := fun _ _ => false) (show 12 ≤ k ∧ k ≤ 24 by omega) x2 (by rw [x3, bS_n (by omega)]) (by omega) (by omega) hz' G GWz C (Or.inr ⟨x, x2, rfl, fun i hi => BX i hi⟩) (fun e1 e2 => by omega)) (fun z' gs' h' P i hi => ?_)) (fun _ _ q => q) (fun h' => e_X1_grow_216 ..)) (by rw [if_neg (by omega), if_neg (by omega)]; omega)
    rw [hs, t4, bS_n (by omega)] at hi
    refine CL_f (fun X => ?_) (P i hi)
    rw [val, t4]
    exact m_cal1 (by omega) (by omega) (vx X) hi (fun _ => rfl)
  · -- arithmetic
    obtain ⟨t1, t2, t3, t4, t5⟩ := t
    have n2 : np (tk (ts b)) = 2 := npk 2 (by unfold np; rw [if_neg (by omega), if_neg (by omega), if_neg (by omega)])
    have BY := BY (by omega)
    have vy := vy (by omega)
    rw [← t2] at BY vy
    rw [bS_n (by omega)] at BX vx BY vy
    rw [cy (by omega)]
    have e1 : ∀ v3 v4 : Int32, mx_D (14, mm_X1_grow, 87, [.ref 28, mx_rf (some (1007 + k)), .int (iI ((x : Int))), .int v3, .int v4], [.int (iI (shF (k + 7)))]) h = (mx_C mm_X1_calculate [.ref 28, mx_rf (some (1007 + k)), .int (iI ((x : Int))), .int v3] h).bind (fun o => mx_D (14, mm_X1_grow, 216, [.ref 28, mx_rf (some (1007 + k)), .int (iI ((x : Int))), .int v3, .int v4], o.1.toList ++ []) o.2) := by
      intro v3 v4
      rw [show shF (k + 7) = 4 by unfold shF; rw [if_neg (by omega), if_neg (by omega), if_neg (by omega), if_neg (by omega), if_pos (by omega)]]
      exact Eq.trans (e_X1_grow_87_4 ..) (e_X1_grow_209 ..)
    rw [e1]
    have hh : (if 19 ≤ k ∧ k ≤ 21 then 64 else 16) = (if 19 ≤ (k : Int) ∧ (k : Int) ≤ 21 then 64 else 16) := by
      by_cases y : 19 ≤ k ∧ k ≤ 21
      · rw [if_pos y, if_pos (by omega)]
      · rw [if_neg y, if_neg (by omega)]
    refine GrO_w (grow_v (v1 := some (1007 + k)) (Gv_p (X1_calculate_c (Q := QT n ts b) (f := fun i X => bt (vX ts X x) i) (g := fun i X => bt (vX ts X y) i) (show 12 ≤ k ∧ k ≤ 24 by omega) x2 (by rw [x3, bS_n (by omega)]) (by omega) (by omega) (by rw [hh]; exact hz) G GWz C (Or.inr ⟨x, x2, rfl, fun i hi => BX i hi⟩) (fun e1 e2 => Or.inr ⟨y, (hy (by omega)).2.1, rfl, fun i hi => BY i hi⟩)) (fun z' gs' h' P i hi => ?_)) (fun _ _ q => q) (fun h' => e_X1_grow_216 ..)) (by rw [hh]; exact Nat.le_refl _)
    rw [hs, t5, bS_n (by omega)] at hi
    refine CL_f (fun X => ?_) (P i hi)
    rw [val, py (by omega), t5]
    exact m_cal (by omega) (by omega) (vx X) (vy X) hi (fun _ => rfl) (fun _ => rfl)
  · -- less
    obtain ⟨t1, t2, t3, t4, t5⟩ := t
    have n2 : np (tk (ts b)) = 2 := npk 2 (by unfold np; rw [if_neg (by omega), if_neg (by omega), if_neg (by omega)])
    have BY := BY (by omega)
    have vy := vy (by omega)
    rw [← t2] at BY vy
    rw [bS_n (by omega)] at BX vx BY vy
    rw [if_neg (by omega)] at hz ⊢
    rw [cy (by omega)]
    have e1 : ∀ v3 v4 : Int32, mx_D (14, mm_X1_grow, 87, [.ref 28, mx_rf (some (1007 + k)), .int (iI ((x : Int))), .int v3, .int v4], [.int (iI (shF (k + 7)))]) h = (mx_C mm_X1_less [.ref 28, mx_rf (some (1007 + k)), .int (iI ((x : Int))), .int v3] h).bind (fun o => mx_D (14, mm_X1_grow, 228, [.ref 28, mx_rf (some (1007 + k)), .int (iI ((x : Int))), .int v3, .int v4], o.1.toList ++ [.int 0, .ref 28]) o.2) := by
      intro v3 v4
      rw [show shF (k + 7) = 5 by unfold shF; rw [if_neg (by omega), if_neg (by omega), if_neg (by omega), if_neg (by omega), if_neg (by omega), if_pos (by omega)]]
      exact Eq.trans (e_X1_grow_87_5 ..) (e_X1_grow_219 ..)
    rw [e1]
    refine GrO_w (grow_1 (v1 := some (1007 + k)) (v2 := iI (x : Int)) (v3 := iI (y : Int)) (v4 := iI (cp (tz (ts b)))) C (X1_less_c (Q := QT n ts b) (f := fun i X => bt (vX ts X x) i) (g := fun i X => bt (vX ts X y) i) (wd := 1007 + k) (by omega) x2 (hy (by omega)).2.1 (by rw [x3, bS_n (by omega)]) (by omega) (by omega) (by omega) G GWz C (fun i hi => ⟨BX i hi, BY i hi⟩)) (by rw [hs, t5]; rfl) (fun X => ?_) (fun r h' h'' _ st e => ?_)) (show 2 * a ≤ 16 by omega)
    · rw [val, py (by omega)]
      exact m_les (by omega) (by omega) (vx X) (vy X) (fun _ => rfl) (fun _ => rfl)
    · refine Eq.trans (e_X1_grow_228 (some (1007 + k)) _ _ _ _ _ _) ?_
      rw [show mx_C mm_X1_set [.ref 28, .int 0, .int (iI ((r : Int)))] h' = _ from st r, e]
      exact e_X1_grow_231 ..
  · -- concat
    obtain ⟨t1, t2, t3, t4, t5⟩ := t
    have k29 : k = 29 := by omega
    have n2 : np (tk (ts b)) = 2 := npk 2 (by rw [k29]; rfl)
    have BY := BY (by omega)
    have vy := vy (by omega)
    rw [bS_n (by omega)] at BX vx BY vy
    rw [if_neg (by omega)] at hz ⊢
    rw [cy (by omega)]
    have e1 : ∀ v3 v4 : Int32, mx_D (14, mm_X1_grow, 87, [.ref 28, mx_rf (some (1007 + k)), .int (iI ((x : Int))), .int v3, .int v4], [.int (iI (shF (k + 7)))]) h = (mx_C mm_X1_place [.ref 28, mx_rf (some (1007 + k)), .int (iI ((x : Int))), .int v3] h).bind (fun o => mx_D (14, mm_X1_grow, 241, [.ref 28, mx_rf (some (1007 + k)), .int (iI ((x : Int))), .int v3, .int v4], o.1.toList ++ []) o.2) := by
      intro v3 v4
      rw [show shF (k + 7) = 6 by rw [k29]; rfl]
      exact Eq.trans (e_X1_grow_87_6 ..) (e_X1_grow_234 ..)
    rw [e1]
    have qb : cn2 (ts b) = 0 := by
      unfold cn2
      rw [if_neg (by omega)]
      exact ((W.1 b c2).2.2.2.2.2 (by omega)).2.2.2.2.2.2 (by omega)
    refine GrO_w (grow_v (v1 := some (1007 + k)) (Gv_p (X1_place_c (Q := QT n ts b) (fa := fun i X => bt (vX ts X x) i) (fb := fun i X => bt (vX ts X y) i) (wd := 1007 + k) (w := s) (la := a) (lb := c) (by omega) x2 (fun _ => (hy (by omega)).2.1) (by rw [hs, bS_n (by omega)]) (by omega) (by rw [x3, bS_n (by omega)]) (by omega) (by omega) (fun _ => ⟨by rw [(hy (by omega)).2.2, bS_n (by omega)], by omega, by omega⟩) G GWz C (by omega) (fun i hi => BX i hi) (fun _ i hi => BY i hi)) (fun z' gs' h' P i hi => ?_)) (fun _ _ q => Or.inr q) (fun h' => e_X1_grow_241 ..)) (show 0 ≤ 16 by omega)
    rw [hs, bS_n (by omega)] at hi
    have P := P i hi
    rw [if_pos (by omega)] at P
    refine CL_f (fun X => ?_) P
    rw [val, py (by omega), wyy (by omega), k29]
    exact m_con (vy X) (fun _ => rfl) (fun _ => rfl)
  · -- extract
    obtain ⟨t1, t2, t3, t4, t5⟩ := t
    have k30 : k = 30 := by omega
    rw [bS_n (by omega)] at BX vx
    rw [if_neg (by omega)] at hz ⊢
    have y0 : cp (ty (ts b)) = ((0 : Nat) : Int) := by rw [hy0 (by rw [hk, k30]; decide)]; rfl
    have e1 : ∀ v3 v4 : Int32, mx_D (14, mm_X1_grow, 87, [.ref 28, mx_rf (some (1007 + k)), .int (iI ((x : Int))), .int v3, .int v4], [.int (iI (shF (k + 7)))]) h = (mx_C mm_X1_place [.ref 28, mx_rf (some (1007 + k)), .int (iI ((x : Int))), .int v3] h).bind (fun o => mx_D (14, mm_X1_grow, 241, [.ref 28, mx_rf (some (1007 + k)), .int (iI ((x : Int))), .int v3, .int v4], o.1.toList ++ []) o.2) := by
      intro v3 v4
      rw [show shF (k + 7) = 7 by rw [k30]; rfl]
      exact Eq.trans (e_X1_grow_87_7 ..) (e_X1_grow_234 ..)
    rw [y0, e1]
    have qb : cn2 (ts b) = (q : Int) := by
      unfold cn2
      rw [if_neg (by omega)]
      exact hq
    refine GrO_w (grow_v (v1 := some (1007 + k)) (Gv_p (X1_place_c (Q := QT n ts b) (fa := fun i X => bt (vX ts X x) i) (fb := fun _ _ => false) (wd := 1007 + k) (w := s) (la := a) (lb := 0) (by omega) x2 (fun e => by omega) (by rw [hs, bS_n (by omega)]) (by omega) (by rw [x3, bS_n (by omega)]) (by omega) (by omega) (fun e => by omega) G GWz C (by omega) (fun i hi => BX i hi) (fun e i hi => by omega)) (fun z' gs' h' P i hi => ?_)) (fun _ _ q => Or.inr q) (fun h' => e_X1_grow_241 ..)) (show 0 ≤ 16 by omega)
    rw [hs, bS_n (by omega)] at hi
    have P := P i hi
    rw [if_neg (by omega), if_pos (by omega), qb, Int.toNat_natCast] at P
    refine CL_f (fun X => ?_) P
    rw [val, k30]
    exact m_ext (fun _ => rfl) hi (by omega)
  · -- widen
    obtain ⟨t1, t2, t3, t4⟩ := t
    rw [bS_n (by omega)] at BX vx
    rw [if_neg (by omega)] at hz ⊢
    have kk : k = 31 ∨ k = 32 := by omega
    have y0 : cp (ty (ts b)) = ((0 : Nat) : Int) := by rw [hy0 (by rw [hk]; rcases kk with e | e <;> rw [e] <;> decide)]; rfl
    have e1 : ∀ v3 v4 : Int32, mx_D (14, mm_X1_grow, 87, [.ref 28, mx_rf (some (1007 + k)), .int (iI ((x : Int))), .int v3, .int v4], [.int (iI (shF (k + 7)))]) h = (mx_C mm_X1_place [.ref 28, mx_rf (some (1007 + k)), .int (iI ((x : Int))), .int v3] h).bind (fun o => mx_D (14, mm_X1_grow, 241, [.ref 28, mx_rf (some (1007 + k)), .int (iI ((x : Int))), .int v3, .int v4], o.1.toList ++ []) o.2) := by
      intro v3 v4
      rw [show shF (k + 7) = 8 by rcases kk with e | e <;> rw [e] <;> rfl]
      exact Eq.trans (e_X1_grow_87_8 ..) (e_X1_grow_234 ..)
    rw [y0, e1]
    have qb : cn2 (ts b) = 0 := by
      unfold cn2
      rw [if_neg (by omega)]
      exact ((W.1 b c2).2.2.2.2.2 (by omega)).2.2.2.2.2.2 (by omega)
    refine GrO_w (grow_v (v1 := some (1007 + k)) (Gv_p (X1_place_c (Q := QT n ts b) (fa := fun i X => bt (vX ts X x) i) (fb := fun _ _ => false) (wd := 1007 + k) (w := s) (la := a) (lb := 0) (by omega) x2 (fun e => by omega) (by rw [hs, bS_n (by omega)]) (by omega) (by rw [x3, bS_n (by omega)]) (by omega) (by omega) (fun e => by omega) G GWz C (by omega) (fun i hi => BX i hi) (fun e i hi => by omega)) (fun z' gs' h' P i hi => ?_)) (fun _ _ q => Or.inr q) (fun h' => e_X1_grow_241 ..)) (show 0 ≤ 16 by omega)
    rw [hs, bS_n (by omega)] at hi
    have P := P i hi
    rw [if_neg (by omega), if_neg (by omega)] at P
    refine CL_f (fun X => ?_) P
    rw [val]
    rcases kk with e | e
    · rw [e]
      exact m_zer (fun _ => rfl) (vx X) (by rw [if_neg (by decide)])
    · rw [e]
      exact m_sig (fun _ => rfl) (vx X) (by omega) (by omega) hi (by rw [if_pos (by decide)])
  · -- select
    obtain ⟨t1, t2, t3, t4⟩ := t
    have k33 : k = 33 := by omega
    have n2 : np (tk (ts b)) = 2 := npk 2 (by rw [k33]; rfl)
    have BY := BY (by omega)
    have vy := vy (by omega)
    rw [t3, bS_n (by omega)] at BY vy
    rw [bS_a t2] at BX vx
    rw [if_neg (by omega)] at hz ⊢
    rw [cy (by omega)]
    have e1 : ∀ v3 v4 : Int32, mx_D (14, mm_X1_grow, 87, [.ref 28, mx_rf (some (1007 + k)), .int (iI ((x : Int))), .int v3, .int v4], [.int (iI (shF (k + 7)))]) h = (mx_C mm_X1_reach [.ref 28, mx_rf (some 1040), .int (iI ((x : Int))), .int v3, .int v4] h).bind (fun o => mx_D (14, mm_X1_grow, 253, [.ref 28, mx_rf (some (1007 + k)), .int (iI ((x : Int))), .int v3, .int v4], o.1.toList ++ []) o.2) := by
      intro v3 v4
      rw [show shF (k + 7) = 9 by rw [k33]; rfl]
      refine Eq.trans (e_X1_grow_87_9 ..) (Eq.trans (e_X1_grow_244 ..) ?_)
      rw [k33]
    rw [e1]
    refine GrO_w (grow_v (v1 := some (1007 + k)) (Gv_p (X1_reach_s (Q := QT n ts b) (f := fun i X => bt (vX ts X x) i) (s := fun X => bt (vX ts X y) 0) (w := a - 4) x2 (hy (by omega)).2.1 (by rw [x3, bS_a t2]) (by omega) (by omega) G GWz C (fun i hi => BX i hi) (BY 0 (by omega))) (fun z' gs' h' P i hi => ?_)) (fun _ _ q => Or.inr q) (fun h' => e_X1_grow_253 ..)) (show a - 4 ≤ 16 by omega)
    rw [hs, bS_n (by omega)] at hi
    refine CL_f (fun X => ?_) (P i (by omega))
    rw [val, py (by omega), k33]
    exact m_sel rfl (fun _ => rfl) (vy X) (by omega) rfl
  · -- store
    obtain ⟨t1, t2, t3, t4, t5⟩ := t
    have k34 : k = 34 := by omega
    have n3 : np (tk (ts b)) = 3 := npk 3 (by rw [k34]; rfl)
    have BY := BY (by omega)
    have vy := vy (by omega)
    have BZ := BZ (by omega)
    have vw := vw (by omega)
    rw [t3, bS_n (by omega)] at BY vy
    rw [bS_n (by omega)] at BZ vw
    rw [bS_a t2] at BX vx
    rw [if_neg (by omega)] at hz ⊢
    rw [cy (by omega), cz (by omega)]
    have e1 : ∀ v3 v4 : Int32, mx_D (14, mm_X1_grow, 87, [.ref 28, mx_rf (some (1007 + k)), .int (iI ((x : Int))), .int v3, .int v4], [.int (iI (shF (k + 7)))]) h = (mx_C mm_X1_reach [.ref 28, mx_rf (some 1041), .int (iI ((x : Int))), .int v3, .int v4] h).bind (fun o => mx_D (14, mm_X1_grow, 253, [.ref 28, mx_rf (some (1007 + k)), .int (iI ((x : Int))), .int v3, .int v4], o.1.toList ++ []) o.2) := by
      intro v3 v4
      rw [show shF (k + 7) = 9 by rw [k34]; rfl]
      refine Eq.trans (e_X1_grow_87_9 ..) (Eq.trans (e_X1_grow_244 ..) ?_)
      rw [k34]
    rw [e1]
    refine GrO_w (grow_v (v1 := some (1007 + k)) (Gv_p (X1_reach_o (Q := QT n ts b) (f := fun i X => bt (vX ts X x) i) (g := fun i X => bt (vX ts X w) i) (s := fun X => bt (vX ts X y) 0) (w := a - 4) x2 (hy (by omega)).2.1 (hw (by omega)).2.1 (by rw [x3, bS_a t2]) (by omega) (by omega) G GWz C (fun i hi => BX i hi) (BY 0 (by omega)) (fun i hi => BZ i (by omega))) (fun z' gs' h' P i hi => ?_)) (fun _ _ q => Or.inr q) (fun h' => e_X1_grow_253 ..)) (show 2 * (a - 4) ≤ 16 by omega)
    rw [hs, t5, bS_a t2] at hi
    refine CL_f (fun X => ?_) (P i hi)
    rw [val, py (by omega), pz (by omega), k34]
    exact m_sto rfl (fun _ => rfl) (fun _ => rfl) (vy X) (by rw [show a - 4 = d by omega]; exact vw X) rfl
end GS
