/-! the class's circuits: grow, one term -/
/-- inputs that the constants of a term have -/
def QT (n : Nat) (ts : Nat → Tm) (t : Nat) (I : Nat → Prop) : Prop := ∃ A, al n ts A t ∧ ∀ u, A u → u < n → tk (ts u) = 0 → ∀ j, j < (bitsS (tS (ts u))).toNat → I (1 + (to (ts u)).toNat + j)
def vX (ts : Nat → Tm) (x : Int) (t : Nat) : Nat := tvl ts (rhoX ts x) t
def CirB (n : Nat) (ts : Nat → Tm) (z : Nat) (gs : Nat → Gt) (h : mx_H) (b : Nat) : Prop := ∀ t, t < b → ∀ i, i < (bitsS (tS (ts t))).toNat → CL z gs (QT n ts t) h 29 (8 * t + i) (fun x => bt (vX ts x t) i)
def GrO (n : Nat) (ts : Nat → Tm) (b m z : Nat) (gs : Nat → Gt) (h : mx_H) (X : Option mx_O) : Prop := ∃ (z' : Nat) (gs' : Nat → Gt) (h' : mx_H) (v1 : Option Nat) (v2 v3 v4 : Int32), X = mx_D (14, mm_X1_grow, 261, [.ref 28, mx_rf v1, .int v2, .int v3, .int v4], []) h' ∧ GY m (TD b) z gs h z' gs' h' ∧ ∀ i, i < (bitsS (tS (ts b))).toNat → CL z' gs' (QT n ts b) h' 29 (8 * b + i) (fun x => bt (vX ts x b) i)
section GR
variable {z : Nat} {gs : Nat → Gt} {h : mx_H} {n b : Nat} {ts : Nat → Tm}
theorem CL_q {Q Q' : (Nat → Prop) → Prop} {a k : Nat} {f : Int → Bool} (hq : ∀ I, Q' I → Q I) (c : CL z gs Q h a k f) : CL z gs Q' h a k f := by
  obtain ⟨l, e1, e2, e3, e4⟩ := c
  exact ⟨l, e1, e2, e3, fun I hI => e4 I (hq I hI)⟩
theorem QT_p {t u : Nat} (hu : (tx (ts t) = (u : Int)) ∨ (ty (ts t) = (u : Int)) ∨ (tz (ts t) = (u : Int))) : ∀ I, QT n ts t I → QT n ts u I := by
  intro I ⟨A, ⟨S, s1, s2⟩, a2⟩
  refine ⟨A, ⟨S, ?_, s2⟩, a2⟩
  obtain ⟨_, _, p1, p2, p3⟩ := s2 t s1
  rcases hu with e | e | e
  · have := p1 (by omega); rw [e] at this; exact this
  · have := p2 (by omega); rw [e] at this; exact this
  · have := p3 (by omega); rw [e] at this; exact this
theorem rhoX_lt {x : Int} {u : Nat} : rhoX ts x u < 2 ^ (bitsS (tS (ts u))).toNat := by
  unfold rhoX
  have p : (0 : Int) < 2 ^ (bitsS (tS (ts u))).toNat := Int.pow_pos (by decide)
  have h1 := Int.emod_nonneg (x / 2 ^ (to (ts u)).toNat) (show (2 : Int) ^ (bitsS (tS (ts u))).toNat ≠ 0 by omega)
  have h2 := Int.emod_lt_of_pos (x / 2 ^ (to (ts u)).toNat) p
  have : ((2 ^ (bitsS (tS (ts u))).toNat : Nat) : Int) = 2 ^ (bitsS (tS (ts u))).toNat := by push_cast; rfl
  omega
theorem vX_lt (W : WF n ts) (hn : n ≤ 60) {x : Int} {u : Nat} (hu : u < n) : vX ts x u < 2 ^ (bitsS (tS (ts u))).toNat := tvl_lt W (by omega) (fun _ _ _ => rhoX_lt) u hu
theorem grow_pre (C : Cx n b ts h) (u1 u2 u3 u4 : Value) : mx_D (14, mm_X1_grow, 0, [.ref 28, u1, u2, u3, u4], []) h = mx_D (14, mm_X1_grow, 87, [.ref 28, mx_rf (some (1000 + wk (tk (ts b)))), .int (iI (cp (tx (ts b)))), .int (iI (cp (ty (ts b)))), .int (iI (cp (tz (ts b))))], [.int (iI (shF (wk (tk (ts b)))))]) h := by
  obtain ⟨c1, c2, c3, c4⟩ := C
  have kb := (c4.2.2 b c2).2.1
  have wl := wk_lt kb
  obtain ⟨p1, p2, p3⟩ := X7_partOf_c c4 c2
  rw [e_X1_grow_0, c1, c4.1, if_neg (fun q => by have := (ii_le (by omega)).mp q; omega), if_neg (show ¬ (60 : Int32) ≤ iI (b : Int) from fun q => by have := (ii_le (a := 60) (by omega)).mp q; omega), X7_opOf_c c4 c2]
  refine Eq.trans (e_X1_grow_34 ..) ?_
  rw [c1, show mx_C mm_X7_partOf [.ref 6, .int (iI ((b : Int))), .int 0] h = _ from p1]
  refine Eq.trans (e_X1_grow_47 ..) ?_
  rw [c1, show mx_C mm_X7_partOf [.ref 6, .int (iI ((b : Int))), .int 1] h = _ from p2]
  refine Eq.trans (e_X1_grow_60 ..) ?_
  rw [c1, show mx_C mm_X7_partOf [.ref 6, .int (iI ((b : Int))), .int 2] h = _ from p3]
  refine Eq.trans (e_X1_grow_73 (hw_v1 := by omega) ..) ?_
  rw [if_neg (fun q => by cases q), wsh_s wl rfl]
  rfl
/-- a method's literal goes into bit 0 -/
theorem grow_1 {m : Nat} {f : Int → Bool} {X : Option mx_O} {P : Nat → (Nat → Gt) → mx_H → Prop} (C : Cx n b ts h) (G : Gl m (fun _ _ => False) z gs h (QT n ts b) f P X) (hs : tS (ts b) = 0) (hf : ∀ x, f x = bt (vX ts x b) 0) {k : mx_O → Option mx_O} {v1 : Option Nat} {v2 v3 v4 : Int32} (hk : ∀ (r : Nat) (h' h'' : mx_H), r < 4096 → (∀ r' : Nat, mx_C mm_X1_set [.ref 28, .int (iI (((0 : Nat) : Int))), .int (iI ((r' : Int)))] h' = some (none, (mx_u h'.1 29 (8 * b + 0) (iI (r' : Int)), h'.2.1, h'.2.2))) → h'' = (mx_u h'.1 29 (8 * b + 0) (iI (r : Int)), h'.2.1, h'.2.2) → k (some (.int (iI ((r : Int)))), h') = mx_D (14, mm_X1_grow, 261, [.ref 28, mx_rf v1, .int v2, .int v3, .int v4], []) h'') : GrO n ts b m z gs h (X.bind k) := by
  obtain ⟨r, z1, gs1, h1, e1, e2, e3, e4⟩ := G
  have C1 := Cx_y e2 (fun _ _ q => q.elim) C
  have Y : GY 0 (TD b) z1 gs1 h1 z1 gs1 (mx_u h1.1 29 (8 * b + 0) (iI (r : Int)), h1.2.1, h1.2.2) := GY_u e2.1 e2.2.1 (by decide) (Or.inr ⟨rfl, by omega⟩)
  refine ⟨z1, gs1, _, v1, v2, v3, v4, ?_, GY_t e2 Y (by omega) (fun _ _ q => q.elim) (fun _ _ q => q), fun i hi => ?_⟩
  · rw [e1, Option.bind_some]
    exact hk r h1 _ (Lm_lt e2.1 e3) (fun r' => X1_set_c C1 (by omega)) rfl
  · rw [hs] at hi
    have : i = 0 := by
      have : (bitsS 0).toNat = 1 := rfl
      omega
    rw [this]
    exact CL_n (Lm_f e3 hf)
/-- the same, turned over -/
theorem grow_1n {m : Nat} {f : Int → Bool} {X : Option mx_O} {P : Nat → (Nat → Gt) → mx_H → Prop} (C : Cx n b ts h) (G : Gl m (fun _ _ => False) z gs h (QT n ts b) f P X) (hs : tS (ts b) = 0) (hf : ∀ x, (!(f x)) = bt (vX ts x b) 0) {k : mx_O → Option mx_O} {v1 : Option Nat} {v2 v3 v4 : Int32} (hk : ∀ (r : Nat) (h' h'' : mx_H), r < 4096 → (∀ r' : Nat, mx_C mm_X1_set [.ref 28, .int (iI (((0 : Nat) : Int))), .int (iI ((r' : Int)))] h' = some (none, (mx_u h'.1 29 (8 * b + 0) (iI (r' : Int)), h'.2.1, h'.2.2))) → h'' = (mx_u h'.1 29 (8 * b + 0) (iI (ng r : Int)), h'.2.1, h'.2.2) → k (some (.int (iI ((r : Int)))), h') = mx_D (14, mm_X1_grow, 261, [.ref 28, mx_rf v1, .int v2, .int v3, .int v4], []) h'') : GrO n ts b m z gs h (X.bind k) := by
  obtain ⟨r, z1, gs1, h1, e1, e2, e3, e4⟩ := G
  have C1 := Cx_y e2 (fun _ _ q => q.elim) C
  have Y : GY 0 (TD b) z1 gs1 h1 z1 gs1 (mx_u h1.1 29 (8 * b + 0) (iI (ng r : Int)), h1.2.1, h1.2.2) := GY_u e2.1 e2.2.1 (by decide) (Or.inr ⟨rfl, by omega⟩)
  refine ⟨z1, gs1, _, v1, v2, v3, v4, ?_, GY_t e2 Y (by omega) (fun _ _ q => q.elim) (fun _ _ q => q), fun i hi => ?_⟩
  · rw [e1, Option.bind_some]
    exact hk r h1 _ (Lm_lt e2.1 e3) (fun r' => X1_set_c C1 (by omega)) rfl
  · rw [hs] at hi
    have : i = 0 := by
      have : (bitsS 0).toNat = 1 := rfl
      omega
    rw [this]
    exact CL_n (Lm_f (Lm_ng e3) hf)
theorem grow_v {m : Nat} {T : Nat → Nat → Prop} {X : Option mx_O} (G : Gv m T z gs h (fun z' gs' h' => ∀ i, i < (bitsS (tS (ts b))).toNat → CL z' gs' (QT n ts b) h' 29 (8 * b + i) (fun x => bt (vX ts x b) i)) X) (hT : ∀ a k, T a k → TD b a k) {k : mx_O → Option mx_O} {v1 : Option Nat} {v2 v3 v4 : Int32} (hk : ∀ h', k (none, h') = mx_D (14, mm_X1_grow, 261, [.ref 28, mx_rf v1, .int v2, .int v3, .int v4], []) h') : GrO n ts b m z gs h (X.bind k) := by
  obtain ⟨z1, gs1, h1, e1, e2, e3⟩ := G
  refine ⟨z1, gs1, h1, v1, v2, v3, v4, ?_, GY_w e2 (Nat.le_refl _) hT, e3⟩
  rw [e1, Option.bind_some, hk]
theorem Gv_p {m : Nat} {T : Nat → Nat → Prop} {P P' : Nat → (Nat → Gt) → mx_H → Prop} {X : Option mx_O} (G : Gv m T z gs h P X) (hp : ∀ z' gs' h', P z' gs' h' → P' z' gs' h') : Gv m T z gs h P' X := by
  obtain ⟨z1, gs1, h1, e1, e2, e3⟩ := G
  exact ⟨z1, gs1, h1, e1, e2, hp _ _ _ e3⟩
theorem GrO_w {m m' : Nat} {X : Option mx_O} (G : GrO n ts b m z gs h X) (hm : m ≤ m') : GrO n ts b m' z gs h X := by
  obtain ⟨z1, gs1, h1, v1, v2, v3, v4, e1, e2, e3⟩ := G
  exact ⟨z1, gs1, h1, v1, v2, v3, v4, e1, GY_w e2 hm (fun _ _ q => q), e3⟩
theorem xb_b {x : Int} {o w j : Nat} (hj : j < w) (hw : w ≤ 8) : xb x (o + j) = bt (x / 2 ^ o % 2 ^ w).toNat j := by
  unfold xb bt
  have e1 : x / 2 ^ (o + j) = x / 2 ^ o / 2 ^ j := by rw [Int.pow_add, Int.ediv_ediv_of_nonneg (Int.le_of_lt (Int.pow_pos (by decide)))]
  rw [e1]
  generalize x / 2 ^ o = y
  have jj : j = 0 ∨ j = 1 ∨ j = 2 ∨ j = 3 ∨ j = 4 ∨ j = 5 ∨ j = 6 ∨ j = 7 := by omega
  have ww : w = 1 ∨ w = 2 ∨ w = 3 ∨ w = 4 ∨ w = 5 ∨ w = 6 ∨ w = 7 ∨ w = 8 := by omega
  apply decide_eq_decide.mpr
  rcases ww with rfl | rfl | rfl | rfl | rfl | rfl | rfl | rfl <;> rcases jj with rfl | rfl | rfl | rfl | rfl | rfl | rfl | rfl <;> omega
/-- terms without parts -/
theorem grow_a (W : WF n ts) (C : Cx n b ts h) (G : GtC z gs h.1) (GWz : GW z gs) (k3 : tk (ts b) ≤ 3) (u1 u2 u3 u4 : Value) : GrO n ts b 0 z gs h (mx_D (14, mm_X1_grow, 0, [.ref 28, u1, u2, u3, u4], []) h) := by
  obtain ⟨sh, pl, ty0⟩ := W.1 b C.2.1
  have kb := sh.1
  have sb := sh.2.1
  have bb := bitsS_b sb
  rw [grow_pre C]
  have kk : tk (ts b) = 1 ∨ tk (ts b) = 2 ∨ tk (ts b) = 0 ∨ tk (ts b) = 3 := by omega
  have e87 : mx_D (14, mm_X1_grow, 87, [.ref 28, mx_rf (some (1000 + wk (tk (ts b)))), .int (iI (cp (tx (ts b)))), .int (iI (cp (ty (ts b)))), .int (iI (cp (tz (ts b))))], [.int (iI (shF (wk (tk (ts b)))))]) h = (mx_C mm_X1_begin [.ref 28, mx_rf (some (1000 + wk (tk (ts b))))] h).bind (fun o => mx_D (14, mm_X1_grow, 261, [.ref 28, mx_rf (some (1000 + wk (tk (ts b)))), .int (iI (cp (tx (ts b)))), .int (iI (cp (ty (ts b)))), .int (iI (cp (tz (ts b))))], o.1.toList ++ []) o.2) := by
    refine Eq.trans (e_X1_grow_87_d (hx := ?_) ..) (e_X1_grow_256 ..)
    rcases kk with e | e | e | e <;> rw [e] <;> decide
  rw [e87]
  rcases kk with e | e | e | e
  · have s0 := ty0.2.1 (Or.inl e)
    rw [e, show wk 1 = 8 from rfl]
    refine grow_v (T := T9 b) (v1 := some 1008) (Gv_p (X1_begin_t (Q := QT n ts b) (Or.inl rfl) G GWz C) (fun z' gs' h' p i hi => ?_)) (fun _ _ q => Or.inr q) (fun h' => rfl)
    rw [s0] at hi
    rw [show i = 0 by have : (bitsS 0).toNat = 1 := rfl; omega]
    refine CL_f (fun x => ?_) p
    unfold vX
    rw [tvl_o W C.2.1 (by omega)]
    unfold opT
    rw [e]
    show _ = bt 1 0
    rfl
  · have s0 := ty0.2.1 (Or.inr e)
    rw [e, show wk 2 = 9 from rfl]
    refine grow_v (T := T9 b) (v1 := some 1009) (Gv_p (X1_begin_t (Q := QT n ts b) (Or.inr rfl) G GWz C) (fun z' gs' h' p i hi => ?_)) (fun _ _ q => Or.inr q) (fun h' => rfl)
    rw [s0] at hi
    rw [show i = 0 by have : (bitsS 0).toNat = 1 := rfl; omega]
    refine CL_f (fun x => ?_) p
    unfold vX
    rw [tvl_o W C.2.1 (by omega)]
    unfold opT
    rw [e]
    show _ = bt 0 0
    rfl
  · have t8 := ty0.1 e
    have ob := sh.2.2.2.2.2.2.2.2.2.2.1
    rw [e, show wk 0 = 4 from rfl]
    have z9 := G.2.1
    refine grow_v (T := T9 b) (v1 := some 1004) (X1_begin_w (nu := (to (ts b)).toNat) (F := fun i x => bt (vX ts x b) i) (Or.inl rfl) (by unfold cn1; rw [if_neg (by omega), if_pos e]; omega) (by omega) rfl (by omega) (fun i hi => ?_) G GWz C) (fun _ _ q => Or.inr q) (fun h' => rfl)
    rw [if_pos rfl]
    refine ⟨by omega, fun x => ?_, fun I hI => ?_⟩
    · unfold lv lvF
      rw [show 2 * (1 + (to (ts b)).toNat + i) / 2 = 1 + (to (ts b)).toNat + i by omega, show 2 * (1 + (to (ts b)).toNat + i) % 2 = 0 by omega, gvl_i (by omega), show 1 + (to (ts b)).toNat + i - 1 = (to (ts b)).toNat + i by omega, xb_b hi (by omega)]
      have ev : vX ts x b = (x / 2 ^ (to (ts b)).toNat % 2 ^ (bitsS (tS (ts b))).toNat).toNat := by unfold vX; rw [tvl_c e]; rfl
      dsimp only
      rw [ev]
      simp
    · rw [show 2 * (1 + (to (ts b)).toNat + i) / 2 = 1 + (to (ts b)).toNat + i by omega]
      obtain ⟨A, ⟨S, s1, s2⟩, a2⟩ := hI
      exact gal_i (by omega) (a2 b ((s2 b s1).2.1 e) C.2.1 e i hi)
  · obtain ⟨sr, q2⟩ := ty0.2.2.1 e
    have qb := sh.2.2.2.2.2.2.2.2.2.1
    rw [e, show wk 3 = 1 from rfl]
    have z9 := G.2.1
    refine grow_v (T := T9 b) (v1 := some 1001) (X1_begin_w (nu := (tq (ts b)).toNat) (F := fun i x => bt (vX ts x b) i) (Or.inr rfl) (by unfold cn1; rw [if_pos e]; omega) (by omega) rfl (by omega) (fun i hi => ?_) G GWz C) (fun _ _ q => Or.inr q) (fun h' => rfl)
    rw [if_neg (by decide)]
    have ev : ∀ x, vX ts x b = (tq (ts b)).toNat := fun x => by
      unfold vX
      rw [tvl_o W C.2.1 (by omega)]
      unfold opT
      rw [e]
      rfl
    by_cases y : (tq (ts b)).toNat / 2 ^ i % 2 = 1
    · rw [if_pos y]
      exact Lm_f (Lm_0 z9) (fun x => by rw [ev]; unfold bt; rw [decide_eq_true y])
    · rw [if_neg y]
      exact Lm_f (Lm_1 z9) (fun x => by rw [ev]; unfold bt; rw [decide_eq_false y])
end GR
