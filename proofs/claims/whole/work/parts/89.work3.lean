/-! the reference's work and workAll -/
theorem X11_work_c {n : Nat} {ts : Nat → Tm} {m : Nat → Nat} {h : mx_H} (W : WF n ts) (hn : n ≤ 130) (S : ∀ t, t < n → SlotM (ts t) t h.1) {t : Nat} (ht : t < n) (hk0 : tk (ts t) ≠ 0) (hm : ∀ u, u < t → h.1 68 u = iI (m u : Int) ∧ rg ts m u) : mx_C mm_X11_work [.ref 47, .int (iI ((t : Int)))] h = some (some (.int (iI ((opT ts t m : Int)))), h) ∧ opT ts t m < 2 ^ (bitsS (tS (ts t))).toNat := by
  rw [X11_work_108 W hn S ht (fun u hu => (hm u hu).1)]
  obtain ⟨u1, u2, u3, u4, u5, u6, u7⟩ := S t ht
  have shk := (W.1 t ht).1.1
  have sht := (W.1 t ht).1
  have tn : (iI (t : Int)).toNatClampNeg = t := by rw [ii_cl (by omega)]; exact Int.toNat_natCast _
  have tin := in_t (a := (t : Int)) (n := 130) (by omega)
  by_cases hk : 4 ≤ tk (ts t)
  rotate_left
  · -- literals
    have n0 : np (tk (ts t)) = 0 := if_pos (by omega)
    obtain ⟨_, _, _, _, _, p1, p2, p3, q1, q2, _⟩ := sht
    have hx : tx (ts t) < 0 := by omega
    have ty0 := (W.1 t ht).2.2
    rw [e_X11_work_108, if_pos tin, tn, u2]
    have op : opT ts t m = opv (tk (ts t)) (tS (ts t)).toNat (if tx (ts t) < 0 then 1 else tS (ts (tx (ts t)).toNat)).toNat (if ty (ts t) < 0 then 0 else tS (ts (ty (ts t)).toNat)).toNat (tq (ts t)).toNat (prV m (tx (ts t))) (prV m (ty (ts t))) (prV m (tz (ts t))) := rfl
    have kk : tk (ts t) = 1 ∨ tk (ts t) = 2 ∨ tk (ts t) = 3 := by omega
    rcases kk with z | z | z
    · have s0 := ty0.2.1 (Or.inl z)
      rw [op, z, s0]
      refine ⟨?_, by show (1 : Nat) < 2 ^ (bitsS 0).toNat; decide⟩
      rw [if_pos (show iI 1 = 1 from rfl), e_X11_work_128, if_pos (show iI 1 = 1 from rfl), e_X11_work_138]
      rfl
    · have s0 := ty0.2.1 (Or.inr z)
      rw [op, z, s0]
      refine ⟨?_, by show (0 : Nat) < 2 ^ (bitsS 0).toNat; decide⟩
      rw [if_neg (show ¬ iI 2 = 1 by decide), if_pos (show iI 2 = 2 from rfl), e_X11_work_128, if_neg (show ¬ iI 2 = 1 by decide), e_X11_work_138]
      rfl
    · obtain ⟨s0, sq⟩ := ty0.2.2.1 z
      rw [op, z]
      refine ⟨?_, ?_⟩
      · rw [if_neg (show ¬ iI 3 = 1 by decide), if_neg (show ¬ iI 3 = 2 by decide), if_pos (show iI 3 = 3 from rfl), if_pos tin, u7]
        show _ = some (some (Value.int (iI (((tq (ts t)).toNat : Nat) : Int))), h)
        rw [Int.toNat_of_nonneg q2.1]
      · show (tq (ts t)).toNat < _
        rw [bSw s0]
        have e : ((2 ^ (tS (ts t)).toNat : Nat) : Int) = 2 ^ (tS (ts t)).toNat := by push_cast; rfl
        omega
  obtain ⟨x, y, z, s, a, b, d, p, q, ⟨hx, xt, ha⟩, hy, hy1, hz, hz1, hs, hp, hq, a8, b8, d8, s8, T⟩ := term_ty W ht hk
  have op : opT ts t m = opv (tk (ts t)) s a (if ty (ts t) < 0 then 0 else tS (ts (ty (ts t)).toNat)).toNat q (m x) (prV m (ty (ts t))) (prV m (tz (ts t))) := by
    unfold opT
    rw [hs, hx, hq, Int.toNat_natCast, Int.toNat_natCast, if_neg (show ¬ (x : Int) < 0 by omega), Int.toNat_natCast, ha, Int.toNat_natCast]
    unfold prV
    rw [if_neg (show ¬ (x : Int) < 0 by omega), Int.toNat_natCast]
  have vx : prV m (tx (ts t)) = m x := by
    unfold prV
    rw [hx, if_neg (show ¬ (x : Int) < 0 by omega), Int.toNat_natCast]
  have vw : (if tx (ts t) < 0 then 1 else tS (ts (tx (ts t)).toNat)) = (a : Int) := by
    rw [hx, if_neg (show ¬ (x : Int) < 0 by omega), Int.toNat_natCast, ha]
  have rx : m x < 2 ^ (bitsS a).toNat := by have := (hm x xt).2; unfold rg at this; rw [ha] at this; exact this
  have vy : 2 ≤ np (tk (ts t)) → prV m (ty (ts t)) = m y ∧ m y < 2 ^ (bitsS b).toNat ∧ (if ty (ts t) < 0 then 0 else tS (ts (ty (ts t)).toNat)) = (b : Int) := by
    intro e
    obtain ⟨y1, y2, y3⟩ := hy e
    have := (hm y y2).2
    unfold rg at this
    rw [y3] at this
    rw [y1, if_neg (show ¬ (y : Int) < 0 by omega), Int.toNat_natCast, y3]
    refine ⟨?_, this, rfl⟩
    unfold prV
    rw [if_neg (show ¬ (y : Int) < 0 by omega), Int.toNat_natCast]
  have vz : 3 ≤ np (tk (ts t)) → prV m (tz (ts t)) = m z ∧ m z < 2 ^ (bitsS d).toNat := by
    intro e
    obtain ⟨z1, z2, z3⟩ := hz e
    have := (hm z z2).2
    unfold rg at this
    rw [z3] at this
    rw [z1]
    refine ⟨?_, this⟩
    unfold prV
    rw [if_neg (show ¬ (z : Int) < 0 by omega), Int.toNat_natCast]
  have big : ∀ c : Nat, c ≤ 8 → 2 ^ (bitsS (c : Int)).toNat ≤ 256 := by
    intro c hc
    have b := bitsS_b (so := (c : Int)) (by omega)
    exact pw_le (b := 8) (by omega)
  have ba := big a a8
  have bb := big b b8
  have bd := big d d8
  rw [vx, vw, op, hs]
  generalize hX : m x = X at *
  have X256 : X < 256 := by omega
  -- y and z when there
  have yb : prV m (ty (ts t)) < 256 := by
    by_cases e : 2 ≤ np (tk (ts t))
    · have := vy e; omega
    · unfold prV; rw [hy1 (by omega), if_pos (by decide)]; decide
  have zb : prV m (tz (ts t)) < 256 := by
    by_cases e : 3 ≤ np (tk (ts t))
    · have := vz e; omega
    · unfold prV; rw [hz1 (by omega), if_pos (by decide)]; decide
  have d410 : mx_C mm_X11_in [.int (iI (tk (ts t))), .int 4, .int 10] h = _ := X11_in_c (b := 4) (c := 10) h ⟨by omega, by decide, by decide⟩
  have d2528 : mx_C mm_X11_in [.int (iI (tk (ts t))), .int 25, .int 28] h = _ := X11_in_c (b := 25) (c := 28) h ⟨by omega, by decide, by decide⟩
  have d1424 : mx_C mm_X11_in [.int (iI (tk (ts t))), .int 14, .int 24] h = _ := X11_in_c (b := 14) (c := 24) h ⟨by omega, by decide, by decide⟩
  have us : h.1 50 t = iI (s : Int) := by rw [u2, hs]
  have uq : h.1 55 t = iI (q : Int) := by rw [u7, hq]
  generalize hY : prV m (ty (ts t)) = Y at *
  generalize hZ : prV m (tz (ts t)) = Z at *
  generalize hB : (if ty (ts t) < 0 then 0 else tS (ts (ty (ts t)).toNat)) = By at *
  have ut : h.1 52 t = iI (ty (ts t)) := u4
  generalize hK : tk (ts t) = k at *
  have st : mx_D (3, mm_X11_work, 108, [.ref 47, .int (iI ((t : Int))), .int (iI (k)), .int (iI ((X : Int))), .int (iI ((Y : Int))), .int (iI ((Z : Int))), mx_junk, mx_junk, mx_junk, mx_junk, mx_junk], [.int (iI ((a : Int)))]) h = mx_D (3, mm_X11_work, 158, [.ref 47, .int (iI ((t : Int))), .int (iI (k)), .int (iI ((X : Int))), .int (iI ((Y : Int))), .int (iI ((Z : Int))), .int (iI ((a : Int))), .int (iI ((s : Int))), mx_junk, mx_junk, mx_junk], [.int (bI (decide (4 ≤ k ∧ k ≤ 10)))]) h := by
    rw [e_X11_work_108, if_pos tin, tn, us, if_neg (show ¬ iI k = 1 from fun z => by have := (ii_eq (b := 1) (by omega) (by decide)).mp z; omega), if_neg (show ¬ iI k = 2 from fun z => by have := (ii_eq (b := 2) (by omega) (by decide)).mp z; omega), if_neg (show ¬ iI k = 3 from fun z => by have := (ii_eq (b := 3) (by omega) (by decide)).mp z; omega), d410]
    rfl
  rw [st]
  -- truths
  have tru : ((4 ≤ k ∧ k ≤ 10) ∨ (25 ≤ k ∧ k ≤ 28)) → (25 ≤ k → 1 ≤ a ∧ a ≤ 8) → mx_D (3, mm_X11_work, 172, [.ref 47, .int (iI ((t : Int))), .int (iI (k)), .int (iI ((X : Int))), .int (iI ((Y : Int))), .int (iI ((Z : Int))), .int (iI ((a : Int))), .int (iI ((s : Int))), mx_junk, mx_junk, mx_junk], []) h = some (some (.int (iI (((opv k s a By.toNat q X Y Z : Nat) : Int)))), h) := by
    intro e1 e2
    have o2 : opv k s a By.toNat q X Y Z < 2 := by
      have kk : k = 4 ∨ k = 5 ∨ k = 6 ∨ k = 7 ∨ k = 8 ∨ k = 9 ∨ k = 10 ∨ k = 25 ∨ k = 26 ∨ k = 27 ∨ k = 28 := by omega
      rcases kk with rfl | rfl | rfl | rfl | rfl | rfl | rfl | rfl | rfl | rfl | rfl <;> exact b01_b _
    rw [e_X11_work_172, X11_isTrue_c (s := s) (wy := By.toNat) (q := q) (z := Z) h e1 e2 (by omega) (by omega)]
    refine Eq.trans (e_X11_work_181 ..) ?_
    by_cases z : opv k s a By.toNat q X Y Z = 0
    · rw [z, if_pos (show iI ((0 : Nat) : Int) = 0 from rfl), e_X11_work_189]
      rfl
    · have z1 : opv k s a By.toNat q X Y Z = 1 := by omega
      rw [z1, if_neg (show ¬ iI ((1 : Nat) : Int) = 0 by decide), e_X11_work_189]
      rfl
  have f410 : (4 ≤ k ∧ k ≤ 10) → mx_D (3, mm_X11_work, 158, [.ref 47, .int (iI ((t : Int))), .int (iI (k)), .int (iI ((X : Int))), .int (iI ((Y : Int))), .int (iI ((Z : Int))), .int (iI ((a : Int))), .int (iI ((s : Int))), mx_junk, mx_junk, mx_junk], [.int (bI (decide (4 ≤ k ∧ k ≤ 10)))]) h = some (some (.int (iI (((opv k s a By.toNat q X Y Z : Nat) : Int)))), h) := by
    intro e
    rw [decide_eq_true e, e_X11_work_158, if_neg (show ¬ bI true = 0 by decide), tru (Or.inl e) (fun z => by omega)]
  have f169 : ¬ (4 ≤ k ∧ k ≤ 10) → mx_D (3, mm_X11_work, 158, [.ref 47, .int (iI ((t : Int))), .int (iI (k)), .int (iI ((X : Int))), .int (iI ((Y : Int))), .int (iI ((Z : Int))), .int (iI ((a : Int))), .int (iI ((s : Int))), mx_junk, mx_junk, mx_junk], [.int (bI (decide (4 ≤ k ∧ k ≤ 10)))]) h = mx_D (3, mm_X11_work, 169, [.ref 47, .int (iI ((t : Int))), .int (iI (k)), .int (iI ((X : Int))), .int (iI ((Y : Int))), .int (iI ((Z : Int))), .int (iI ((a : Int))), .int (iI ((s : Int))), mx_junk, mx_junk, mx_junk], [.int (bI (decide (25 ≤ k ∧ k ≤ 28)))]) h := by
    intro e
    rw [decide_eq_false e, e_X11_work_158, if_pos (show bI false = 0 from rfl), d2528]
    rfl
  have kn : ∀ c : Int, 0 ≤ c ∧ c ≤ 100 → k ≠ c → ¬ iI k = iI c := fun c hc e z => e ((ii_eq (by omega) (by omega)).mp z)
  have f248 : ¬ (4 ≤ k ∧ k ≤ 13) → ¬ (25 ≤ k ∧ k ≤ 28) → mx_D (3, mm_X11_work, 158, [.ref 47, .int (iI ((t : Int))), .int (iI (k)), .int (iI ((X : Int))), .int (iI ((Y : Int))), .int (iI ((Z : Int))), .int (iI ((a : Int))), .int (iI ((s : Int))), mx_junk, mx_junk, mx_junk], [.int (bI (decide (4 ≤ k ∧ k ≤ 10)))]) h = mx_D (3, mm_X11_work, 248, [.ref 47, .int (iI ((t : Int))), .int (iI (k)), .int (iI ((X : Int))), .int (iI ((Y : Int))), .int (iI ((Z : Int))), .int (iI ((a : Int))), .int (iI ((s : Int))), mx_junk, mx_junk, mx_junk], [.int (bI (decide (14 ≤ k ∧ k ≤ 24)))]) h := by
    intro e1 e2
    rw [f169 (by omega), decide_eq_false e2, e_X11_work_169, if_pos (show bI false = 0 from rfl), if_neg (show ¬ iI k = 11 from kn 11 (by decide) (by omega)), if_neg (show ¬ iI k = 12 from kn 12 (by decide) (by omega)), if_neg (show ¬ iI k = 13 from kn 13 (by decide) (by omega)), d1424]
    rfl
  unfold Ty at T
  rcases T with ⟨e, c1, c2⟩ | ⟨e, c1, c2, c3⟩ | ⟨e, c1, c2⟩ | ⟨e, c1, c2, c3⟩ | ⟨e, c1, c2, c3⟩ | ⟨e, c1, c2, c3, c4⟩ | ⟨e, c1, c2, c3, c4⟩ | ⟨e, c1, c2, c3, c4⟩ | ⟨e, c1, c2, c3, c4⟩ | ⟨e, c1, c2, c3⟩ | ⟨e, c1, c2, c3⟩ | ⟨e, c1, c2, c3, c4⟩
  · refine ⟨f410 (by omega), ?_⟩
    rw [e, c2]
    exact b01_b _
  · refine ⟨f410 (by omega), ?_⟩
    rw [c3]
    have kk : k = 5 ∨ k = 6 ∨ k = 7 ∨ k = 8 := by omega
    rcases kk with rfl | rfl | rfl | rfl <;> exact b01_b _
  · refine ⟨f410 (by omega), ?_⟩
    rw [c2]
    have kk : k = 9 ∨ k = 10 := by omega
    rcases kk with rfl | rfl <;> exact b01_b _
  · -- ite
    have v2 := vy (by rw [e]; decide)
    have v3 := vz (by rw [e]; decide)
    refine ⟨?_, ?_⟩
    · rw [f169 (by omega), e, decide_eq_false (by decide), e_X11_work_169, if_pos (show bI false = 0 from rfl), if_pos (show iI 11 = 11 from rfl)]
      show _ = some (some (Value.int (iI (((if X = 1 then Y else Z) : Nat) : Int))), h)
      by_cases z : X = 1
      · rw [if_pos z, z, if_pos (show iI ((1 : Nat) : Int) = 1 from rfl), e_X11_work_208]
      · rw [if_neg z, if_neg (show ¬ iI (X : Int) = 1 from fun y => z (by have := (ii_eq (b := 1) (by omega) (by decide)).mp y; omega)), e_X11_work_208]
    · rw [e, c3]
      show (if X = 1 then Y else Z) < _
      rw [c2]
      split
      · rw [v2.1, ← c2]; exact v2.2.1
      · rw [v3.1]; exact v3.2
  · -- bvnot, bvneg
    have sw : (bitsS (s : Int)).toNat = s := by rw [bSw (by omega), Int.toNat_natCast]
    have sa : (bitsS (a : Int)).toNat = s := by rw [bSw (by omega), Int.toNat_natCast, c3]
    rw [sa] at rx
    obtain ⟨g1, g2, g3⟩ := p2 (s := s) (by omega)
    rw [sw]
    have kk : k = 12 ∨ k = 13 := by omega
    rcases kk with rfl | rfl
    · refine ⟨?_, ?_⟩
      · rw [f169 (by omega), decide_eq_false (by decide), e_X11_work_169, if_pos (show bI false = 0 from rfl), if_neg (show ¬ iI 12 = 11 by decide), if_pos (show iI 12 = 12 from rfl), ii_all (by omega), ii_sub]
        show _ = some (some (Value.int (iI ((2 ^ s - 1 - X : Nat) : Int))), h)
        rw [show ((2 ^ s - 1 - X : Nat) : Int) = 2 ^ s - 1 - (X : Int) by omega]
      · show 2 ^ s - 1 - X < 2 ^ s
        omega
    · refine ⟨?_, ?_⟩
      · rw [f169 (by omega), decide_eq_false (by decide), e_X11_work_169, if_pos (show bI false = 0 from rfl), if_neg (show ¬ iI 13 = 11 by decide), if_neg (show ¬ iI 13 = 12 by decide), if_pos (show iI 13 = 13 from rfl), ii_all (by omega), ii_neg, ii_msk (by omega)]
        show _ = some (some (Value.int (iI (((2 ^ s - X) % 2 ^ s : Nat) : Int))), h)
        have : (-(X : Int)) % 2 ^ s = (((2 ^ s - X) % 2 ^ s : Nat) : Int) := by
          rw [Int.natCast_emod, g3, show ((2 ^ s - X : Nat) : Int) = -(X : Int) + 2 ^ s by omega, Int.add_emod_right]
        rw [this]
      · show (2 ^ s - X) % 2 ^ s < 2 ^ s
        exact Nat.mod_lt _ (by omega)
  · -- words
    have n2 : 2 ≤ np k := by unfold np; rw [if_neg (by omega), if_neg (by omega), if_neg (by omega)]; omega
    have v2 := vy n2
    have sw : (bitsS (s : Int)).toNat = s := by rw [bSw (by omega), Int.toNat_natCast]
    have sa : (bitsS (a : Int)).toNat = s := by rw [bSw (by omega), Int.toNat_natCast, c4]
    have sb : (bitsS (b : Int)).toNat = s := by rw [bSw (by omega), Int.toNat_natCast, ← c1, c4]
    have yl : Y < 2 ^ s := by rw [← sb, v2.1]; exact v2.2.1
    rw [sa] at rx
    rw [sw, show opv k s a By.toNat q X Y Z = opv k s s By.toNat q X Y Z by rw [c4]]
    refine ⟨?_, ?_⟩
    · rw [f248 (by omega) (by omega), decide_eq_true e, e_X11_work_248, if_neg (show ¬ bI true = 0 by decide), X11_onWords_c (wy := By.toNat) (q := q) (z := Z) h e (by omega) rx yl]
      exact e_X11_work_260 ..
    · have kk : k = 14 ∨ k = 15 ∨ k = 16 ∨ k = 17 ∨ k = 18 ∨ k = 19 ∨ k = 20 ∨ k = 21 ∨ k = 22 ∨ k = 23 ∨ k = 24 := by omega
      have pos : 0 < 2 ^ s := Nat.pow_pos (by decide)
      rcases kk with rfl | rfl | rfl | rfl | rfl | rfl | rfl | rfl | rfl | rfl | rfl
      · exact Nat.lt_of_le_of_lt Nat.and_le_left rx
      · exact Nat.or_lt_two_pow rx yl
      · exact Nat.xor_lt_two_pow rx yl
      · exact Nat.mod_lt _ pos
      · exact Nat.mod_lt _ pos
      · exact Nat.mod_lt _ pos
      · show (if Y = 0 then 2 ^ s - 1 else X / Y) < 2 ^ s
        split
        · omega
        · exact Nat.lt_of_le_of_lt (Nat.div_le_self _ _) rx
      · show (if Y = 0 then X else X % Y) < 2 ^ s
        split
        · exact rx
        · exact Nat.lt_of_le_of_lt (Nat.mod_le _ _) rx
      · exact Nat.mod_lt _ pos
      · exact Nat.lt_of_le_of_lt (Nat.div_le_self _ _) rx
      · show (sgn X s / 2 ^ Y % 2 ^ s).toNat < 2 ^ s
        obtain ⟨g1, g2, g3⟩ := p2 (s := s) (by omega)
        have l1 := Int.emod_lt_of_pos (sgn X s / 2 ^ Y) g1
        have l2 := Int.emod_nonneg (sgn X s / 2 ^ Y) (show (2 : Int) ^ s ≠ 0 by omega)
        omega
  · -- order
    refine ⟨?_, ?_⟩
    · rw [f169 (by omega), decide_eq_true e, e_X11_work_169, if_neg (show ¬ bI true = 0 by decide), tru (Or.inr e) (fun _ => by omega)]
    · rw [c4]
      have kk : k = 25 ∨ k = 26 ∨ k = 27 ∨ k = 28 := by omega
      rcases kk with rfl | rfl | rfl | rfl <;> exact b01_b _
  · -- concat
    subst e
    have v2 := vy (by decide)
    obtain ⟨y1, y2, y3⟩ := hy (by decide)
    have sa : (bitsS (a : Int)).toNat = a := by rw [bSw (by omega), Int.toNat_natCast]
    have sb : (bitsS (b : Int)).toNat = b := by rw [bSw (by omega), Int.toNat_natCast]
    have ss : (bitsS (s : Int)).toNat = a + b := by rw [bSw (by omega), Int.toNat_natCast, c4]
    rw [sa] at rx
    have yl : Y < 2 ^ b := by rw [← sb, v2.1]; exact v2.2.1
    have sy := (S y (by omega)).2.1
    rw [y3] at sy
    refine ⟨?_, ?_⟩
    · rw [f248 (by omega) (by omega), decide_eq_false (by decide), e_X11_work_248, if_pos (show bI false = 0 from rfl), if_pos (show iI 29 = 29 from rfl), if_pos tin, tn, ut, y1, if_pos (in_t (n := 130) (by omega)), ii_cl (by omega), Int.toNat_natCast, sy, show (31 : Int32) = iI 31 from rfl, ii_shl (by omega), Int.toNat_natCast, ii_add, v2.2.2, Int.toNat_natCast]
      show _ = some (some (Value.int (iI ((X * 2 ^ b + Y : Nat) : Int))), h)
      push_cast
      rfl
    · rw [ss, v2.2.2, Int.toNat_natCast]
      show X * 2 ^ b + Y < 2 ^ (a + b)
      rw [Nat.pow_add]
      have : (X + 1) * 2 ^ b ≤ 2 ^ a * 2 ^ b := Nat.mul_le_mul_right _ rx
      rw [Nat.add_mul, Nat.one_mul] at this
      omega
  · -- extract
    subst e
    have ss : (bitsS (s : Int)).toNat = s := by rw [bSw (by omega), Int.toNat_natCast]
    refine ⟨?_, ?_⟩
    · rw [f248 (by omega) (by omega), decide_eq_false (by decide), e_X11_work_248, if_pos (show bI false = 0 from rfl), if_neg (show ¬ iI 30 = 29 by decide), if_pos (show iI 30 = 30 from rfl), if_pos tin, tn, uq, ii_all (by omega), show (31 : Int32) = iI 31 from rfl, ii_shr (by omega), ii_msk (by omega), Int.toNat_natCast]
      show _ = some (some (Value.int (iI ((X / 2 ^ q % 2 ^ s : Nat) : Int))), h)
      push_cast
      rfl
    · rw [ss]
      exact Nat.mod_lt _ (Nat.pow_pos (by decide))
  · -- extends
    have ss : (bitsS (s : Int)).toNat = s := by rw [bSw (by omega), Int.toNat_natCast]
    have sa : (bitsS (a : Int)).toNat = a := by rw [bSw (by omega), Int.toNat_natCast]
    rw [sa] at rx
    rw [ss]
    obtain ⟨g1, g2, g3⟩ := p2 (s := s) (by omega)
    rcases e with rfl | rfl
    · refine ⟨?_, ?_⟩
      · rw [f248 (by omega) (by omega), decide_eq_false (by decide), e_X11_work_248, if_pos (show bI false = 0 from rfl), if_neg (show ¬ iI 31 = 29 by decide), if_neg (show ¬ iI 31 = 30 by decide), if_pos (show iI 31 = 31 from rfl)]
        rfl
      · show X < 2 ^ s
        exact Nat.lt_of_lt_of_le rx (pw_le (by omega))
    · refine ⟨?_, ?_⟩
      · rw [f248 (by omega) (by omega), decide_eq_false (by decide), e_X11_work_248, if_pos (show bI false = 0 from rfl), if_neg (show ¬ iI 32 = 29 by decide), if_neg (show ¬ iI 32 = 30 by decide), if_neg (show ¬ iI 32 = 31 by decide), if_pos (show iI 32 = 32 from rfl), X11_sign_c h (by omega) (by omega)]
        refine Eq.trans (e_X11_work_326 ..) ?_
        rw [ii_all (by omega), ii_msk (by omega)]
        show _ = some (some (Value.int (iI (((sgn X a % 2 ^ s).toNat : Nat) : Int))), h)
        rw [Int.toNat_of_nonneg (Int.emod_nonneg _ (by omega))]
      · show (sgn X a % 2 ^ s).toNat < 2 ^ s
        have l1 := Int.emod_lt_of_pos (sgn X a) g1
        have l2 := Int.emod_nonneg (sgn X a) (show (2 : Int) ^ s ≠ 0 by omega)
        omega
  · -- select
    subst e
    have ss : (bitsS (s : Int)).toNat = s := by rw [bSw (by omega), Int.toNat_natCast]
    have sa : (bitsS (a : Int)).toNat = 2 * s := by rw [bSa (by omega)]; omega
    rw [sa] at rx
    rw [ss]
    have e4 : iI (a : Int) - 4 = iI (s : Int) := (ii_sub _ 4).trans (congrArg iI (by omega))
    have aw : a - 4 = s := by omega
    refine ⟨?_, ?_⟩
    · rw [f248 (by omega) (by omega), decide_eq_false (by decide), e_X11_work_248, if_pos (show bI false = 0 from rfl), if_neg (show ¬ iI 33 = 29 by decide), if_neg (show ¬ iI 33 = 30 by decide), if_neg (show ¬ iI 33 = 31 by decide), if_neg (show ¬ iI 33 = 32 by decide), if_pos (show iI 33 = 33 from rfl), e4, ii_all (by omega), ii_msk (by omega), show (31 : Int32) = iI 31 from rfl, ii_shr (by omega), Int.toNat_natCast]
      show _ = some (some (Value.int (iI (((if Y = 0 then X % 2 ^ (a - 4) else X / 2 ^ (a - 4)) : Nat) : Int))), h)
      rw [aw]
      by_cases z0 : Y = 0
      · rw [if_pos z0, z0, if_pos (show iI ((0 : Nat) : Int) = 0 from rfl), e_X11_work_366]
        push_cast
        rfl
      · rw [if_neg z0, if_neg (show ¬ iI (Y : Int) = 0 from fun y => z0 (by have := (ii_eq (b := 0) (by omega) (by decide)).mp y; omega)), e_X11_work_366]
        push_cast
        rfl
    · show (if Y = 0 then X % 2 ^ (a - 4) else X / 2 ^ (a - 4)) < 2 ^ s
      rw [aw]
      split
      · exact Nat.mod_lt _ (Nat.pow_pos (by decide))
      · rw [Nat.div_lt_iff_lt_mul (Nat.pow_pos (by decide)), ← Nat.pow_add]
        rw [show s + s = 2 * s by omega]
        exact rx
  · -- store
    subst e
    have v2 := vy (by decide)
    have v3 := vz (by decide)
    have ss : (bitsS (s : Int)).toNat = 2 * d := by rw [bSa (by omega)]; omega
    have sa : (bitsS (a : Int)).toNat = 2 * d := by rw [bSa (by omega)]; omega
    have sd : (bitsS (d : Int)).toNat = d := by rw [bSw (by omega), Int.toNat_natCast]
    have yl : Y < 2 := by
      have := v2.2.1
      rw [c2] at this
      rw [v2.1]
      exact this
    have zl : Z < 2 ^ d := by rw [← sd, v3.1]; exact v3.2
    rw [sa] at rx
    rw [ss]
    have e4 : iI (a : Int) - 4 = iI (d : Int) := (ii_sub _ 4).trans (congrArg iI (by omega))
    have aw : a - 4 = d := by omega
    have lo : X % 2 ^ d < 2 ^ d := Nat.mod_lt _ (Nat.pow_pos (by decide))
    have hi : X / 2 ^ d < 2 ^ d := by
      rw [Nat.div_lt_iff_lt_mul (Nat.pow_pos (by decide)), ← Nat.pow_add]
      rw [show d + d = 2 * d by omega]
      exact rx
    have val : opv 34 s a By.toNat q X Y Z = (if Y = 0 then Z else X % 2 ^ d) + (if Y = 1 then Z else X / 2 ^ d) * 2 ^ d := by
      show (if Y = 0 then Z else X % 2 ^ (a - 4)) + (if Y = 1 then Z else X / 2 ^ (a - 4)) * 2 ^ (a - 4) = _
      rw [aw]
    rw [val]
    refine ⟨?_, ?_⟩
    · rw [f248 (by omega) (by omega), decide_eq_false (by decide), e_X11_work_248, if_pos (show bI false = 0 from rfl), if_neg (show ¬ iI 34 = 29 by decide), if_neg (show ¬ iI 34 = 30 by decide), if_neg (show ¬ iI 34 = 31 by decide), if_neg (show ¬ iI 34 = 32 by decide), if_neg (show ¬ iI 34 = 33 by decide), e4, ii_all (by omega), ii_msk (by omega)]
      have y01 : Y = 0 ∨ Y = 1 := by omega
      rcases y01 with rfl | rfl
      · rw [if_pos (show iI ((0 : Nat) : Int) = 0 from rfl), e_X11_work_385, if_neg (show ¬ iI ((0 : Nat) : Int) = 1 by decide), e_X11_work_402, if_pos rfl, if_neg (by decide), show (31 : Int32) = iI 31 from rfl, ii_shr (by omega), ii_shl (by omega), ii_add, Int.toNat_natCast]
        push_cast
        rfl
      · rw [if_neg (show ¬ iI ((1 : Nat) : Int) = 0 by decide), e_X11_work_385, if_pos (show iI ((1 : Nat) : Int) = 1 from rfl), e_X11_work_402, if_neg (by decide), if_pos rfl, show (31 : Int32) = iI 31 from rfl, ii_shl (by omega), ii_add, Int.toNat_natCast]
        push_cast
        rfl
    · rw [show 2 * d = d + d by omega, Nat.pow_add]
      have b1 : (if Y = 0 then Z else X % 2 ^ d) < 2 ^ d := by split <;> assumption
      have b2 : (if Y = 1 then Z else X / 2 ^ d) < 2 ^ d := by split <;> assumption
      have : ((if Y = 1 then Z else X / 2 ^ d) + 1) * 2 ^ d ≤ 2 ^ d * 2 ^ d := Nat.mul_le_mul_right _ b2
      rw [Nat.add_mul, Nat.one_mul] at this
      omega
