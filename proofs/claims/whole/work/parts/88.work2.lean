/-! the reference's work, and all of it -/
def Ty (k : Int) (s a b d p q : Nat) : Prop := (k = 4 ∧ a = 0 ∧ s = 0) ∨ ((5 ≤ k ∧ k ≤ 8) ∧ a = 0 ∧ b = 0 ∧ s = 0) ∨ ((9 ≤ k ∧ k ≤ 10) ∧ a = b ∧ s = 0) ∨ (k = 11 ∧ a = 0 ∧ b = d ∧ s = b) ∨ ((12 ≤ k ∧ k ≤ 13) ∧ 1 ≤ a ∧ a ≤ 4 ∧ s = a) ∨ ((14 ≤ k ∧ k ≤ 24) ∧ a = b ∧ 1 ≤ a ∧ a ≤ 4 ∧ s = a) ∨ ((25 ≤ k ∧ k ≤ 28) ∧ a = b ∧ 1 ≤ a ∧ a ≤ 4 ∧ s = 0) ∨ (k = 29 ∧ 1 ≤ a ∧ 1 ≤ b ∧ a + b ≤ 4 ∧ s = a + b) ∨ (k = 30 ∧ a ≤ 4 ∧ q ≤ p ∧ p < a ∧ s = p - q + 1) ∨ ((k = 31 ∨ k = 32) ∧ 1 ≤ a ∧ a + p ≤ 4 ∧ s = a + p) ∨ (k = 33 ∧ 4 < a ∧ b = 1 ∧ s + 4 = a) ∨ (k = 34 ∧ 4 < a ∧ b = 1 ∧ d + 4 = a ∧ s = a)
theorem term_ty {n : Nat} {ts : Nat → Tm} (W : WF n ts) {t : Nat} (ht : t < n) (hk : 4 ≤ tk (ts t)) : ∃ x y z s a b d p q : Nat, (tx (ts t) = (x : Int) ∧ x < t ∧ tS (ts x) = (a : Int)) ∧ (2 ≤ np (tk (ts t)) → ty (ts t) = (y : Int) ∧ y < t ∧ tS (ts y) = (b : Int)) ∧ (np (tk (ts t)) < 2 → ty (ts t) = -1) ∧ (3 ≤ np (tk (ts t)) → tz (ts t) = (z : Int) ∧ z < t ∧ tS (ts z) = (d : Int)) ∧ (np (tk (ts t)) < 3 → tz (ts t) = -1) ∧ tS (ts t) = (s : Int) ∧ tp (ts t) = (p : Int) ∧ tq (ts t) = (q : Int) ∧ a ≤ 8 ∧ b ≤ 8 ∧ d ≤ 8 ∧ s ≤ 8 ∧ Ty (tk (ts t)) s a b d p q := by
  obtain ⟨sh, pl, ty0⟩ := W.1 t ht
  obtain ⟨s1, s2, s3, s4, s5, s6, s7, s8, s9, s10, s11, _⟩ := sh
  obtain ⟨f0, f1, f2, rs, g30, gp, gq⟩ := ty0.2.2.2 hk
  have nb := np_b (k := tk (ts t)) (by omega)
  have x0 := s6.mp nb.1
  have sx := (W.1 (tx (ts t)).toNat (by omega)).1.2.1
  obtain ⟨x, hx⟩ : ∃ x : Nat, tx (ts t) = (x : Int) := ⟨_, (Int.toNat_of_nonneg x0).symm⟩
  obtain ⟨s, hs⟩ : ∃ s : Nat, tS (ts t) = (s : Int) := ⟨_, (Int.toNat_of_nonneg s2.1).symm⟩
  obtain ⟨p, hp⟩ : ∃ p : Nat, tp (ts t) = (p : Int) := ⟨_, (Int.toNat_of_nonneg s9.1).symm⟩
  obtain ⟨q, hq⟩ : ∃ q : Nat, tq (ts t) = (q : Int) := ⟨_, (Int.toNat_of_nonneg s10.1).symm⟩
  rw [hx, Int.toNat_natCast] at f0 f1 f2 rs sx
  obtain ⟨a, ha⟩ : ∃ a : Nat, tS (ts x) = (a : Int) := ⟨_, (Int.toNat_of_nonneg sx.1).symm⟩
  rw [ha, hp] at f0 f1 f2
  rw [ha, hp, hq, hs] at rs
  rw [hp, hq] at g30
  rw [hp] at gp
  rw [hq] at gq
  -- second and third part
  have hy : ∃ y b : Nat, (2 ≤ np (tk (ts t)) → ty (ts t) = (y : Int) ∧ y < t ∧ tS (ts y) = (b : Int)) ∧ b ≤ 8 ∧ (2 ≤ np (tk (ts t)) → tS (ts (ty (ts t)).toNat) = (b : Int)) := by
    by_cases q2 : 2 ≤ np (tk (ts t))
    · have y0 := s7.mp q2
      have sy := (W.1 (ty (ts t)).toNat (by omega)).1.2.1
      exact ⟨(ty (ts t)).toNat, (tS (ts (ty (ts t)).toNat)).toNat, fun _ => ⟨by omega, by omega, by omega⟩, by omega, fun _ => by omega⟩
    · exact ⟨0, 0, fun z => absurd z q2, by omega, fun z => absurd z q2⟩
  have hz : ∃ z d : Nat, (3 ≤ np (tk (ts t)) → tz (ts t) = (z : Int) ∧ z < t ∧ tS (ts z) = (d : Int)) ∧ d ≤ 8 ∧ (3 ≤ np (tk (ts t)) → tS (ts (tz (ts t)).toNat) = (d : Int)) := by
    by_cases q3 : 3 ≤ np (tk (ts t))
    · have z0 := s8.mp q3
      have sz := (W.1 (tz (ts t)).toNat (by omega)).1.2.1
      exact ⟨(tz (ts t)).toNat, (tS (ts (tz (ts t)).toNat)).toNat, fun _ => ⟨by omega, by omega, by omega⟩, by omega, fun _ => by omega⟩
    · exact ⟨0, 0, fun z => absurd z q3, by omega, fun z => absurd z q3⟩
  obtain ⟨y, b, y1, y2, y3⟩ := hy
  obtain ⟨z, d, z1, z2, z3⟩ := hz
  refine ⟨x, y, z, s, a, b, d, p, q, ⟨hx, by omega, ha⟩, y1, fun _ => by omega, z1, fun _ => by omega, hs, hp, hq, by omega, y2, z2, by omega, ?_⟩
  generalize tk (ts t) = k at *
  unfold Ty
  rcases k_cases (k := k) (by omega) with g | g | g | g | g | g | g | g | g | g
  · have h0 := (fp_a g).mp f0
    rw [rs_z (by omega)] at rs
    by_cases k4 : k = 4
    · exact Or.inl ⟨k4, by omega, by omega⟩
    · have n2 : 2 ≤ np k := by unfold np; rw [if_neg (by omega), if_neg (by omega), if_neg (by omega)]; omega
      have h1 := (fp_a g).mp (f1 n2)
      rw [y3 n2] at h1
      exact Or.inr (Or.inl ⟨by omega, by omega, by omega, by omega⟩)
  · have n2 : 2 ≤ np k := by unfold np; rw [if_neg (by omega), if_neg (by omega), if_neg (by omega)]; omega
    have h1 := (fp_b g).mp (f1 n2)
    rw [y3 n2] at h1
    rw [rs_z (by omega)] at rs
    exact Or.inr (Or.inr (Or.inl ⟨by omega, by omega, by omega⟩))
  · subst g
    have h0 := (fp_c rfl).mp f0
    have h2 := (fp_c rfl).mp (f2 (by decide))
    rw [y3 (by decide), z3 (by decide)] at h2
    rw [y3 (by decide), rs_c] at rs
    simp at h0 h2
    exact Or.inr (Or.inr (Or.inr (Or.inl ⟨rfl, by omega, by omega, by omega⟩)))
  · have h0 := (fp_d (by omega)).mp f0
    rw [rs_d g] at rs
    by_cases q1 : k ≤ 13
    · exact Or.inr (Or.inr (Or.inr (Or.inr (Or.inl ⟨by omega, by omega, by omega, by omega⟩))))
    · have n2 : 2 ≤ np k := by unfold np; rw [if_neg (by omega), if_neg (by omega), if_neg (by omega)]; omega
      have h1 := (fp_d (by omega)).mp (f1 n2)
      rw [y3 n2] at h1
      exact Or.inr (Or.inr (Or.inr (Or.inr (Or.inr (Or.inl ⟨by omega, by omega, by omega, by omega, by omega⟩)))))
  · have n2 : 2 ≤ np k := by unfold np; rw [if_neg (by omega), if_neg (by omega), if_neg (by omega)]; omega
    have h0 := (fp_d (by omega)).mp f0
    have h1 := (fp_d (by omega)).mp (f1 n2)
    rw [y3 n2] at h1
    rw [rs_z (by omega)] at rs
    exact Or.inr (Or.inr (Or.inr (Or.inr (Or.inr (Or.inr (Or.inl ⟨g, by omega, by omega, by omega, by omega⟩))))))
  · subst g
    have h0 := (fp_e rfl).mp f0
    have h1 := (fp_e rfl).mp (f1 (by decide))
    rw [y3 (by decide)] at h1
    rw [y3 (by decide), rs_e] at rs
    exact Or.inr (Or.inr (Or.inr (Or.inr (Or.inr (Or.inr (Or.inr (Or.inl ⟨rfl, by omega, by omega, by omega, by omega⟩)))))))
  · subst g
    have h0 := (fp_f rfl).mp f0
    have g3 := g30 rfl
    rw [rs_f] at rs
    exact Or.inr (Or.inr (Or.inr (Or.inr (Or.inr (Or.inr (Or.inr (Or.inr (Or.inl ⟨rfl, by omega, by omega, by omega, by omega⟩))))))))
  · have h0 := (fp_g g).mp f0
    rw [rs_g g] at rs
    exact Or.inr (Or.inr (Or.inr (Or.inr (Or.inr (Or.inr (Or.inr (Or.inr (Or.inr (Or.inl ⟨g, by omega, by omega, by omega⟩)))))))))
  · subst g
    have h0 := (fp_h (Or.inl rfl)).mp f0
    have h1 := (fp_h (Or.inl rfl)).mp (f1 (by decide))
    rw [y3 (by decide)] at h1
    simp at h0 h1
    rw [rs_h] at rs
    exact Or.inr (Or.inr (Or.inr (Or.inr (Or.inr (Or.inr (Or.inr (Or.inr (Or.inr (Or.inr (Or.inl ⟨rfl, by omega, by omega, by omega⟩))))))))))
  · subst g
    have h0 := (fp_h (Or.inr rfl)).mp f0
    have h1 := (fp_h (Or.inr rfl)).mp (f1 (by decide))
    have h2 := (fp_h (Or.inr rfl)).mp (f2 (by decide))
    rw [y3 (by decide)] at h1
    rw [z3 (by decide)] at h2
    simp at h0 h1 h2
    rw [rs_i] at rs
    exact Or.inr (Or.inr (Or.inr (Or.inr (Or.inr (Or.inr (Or.inr (Or.inr (Or.inr (Or.inr (Or.inr ⟨rfl, by omega, by omega, by omega, by omega⟩))))))))))
/-- the first steps of work -/
theorem X11_work_108 {n : Nat} {ts : Nat → Tm} {m : Nat → Nat} {h : mx_H} (W : WF n ts) (hn : n ≤ 130) (S : ∀ t, t < n → SlotM (ts t) t h.1) {t : Nat} (ht : t < n) (hm : ∀ u, u < t → h.1 68 u = iI (m u : Int)) : mx_C mm_X11_work [.ref 47, .int (iI ((t : Int)))] h = mx_D (3, mm_X11_work, 108, [.ref 47, .int (iI ((t : Int))), .int (iI (tk (ts t))), .int (iI ((prV m (tx (ts t)) : Int))), .int (iI ((prV m (ty (ts t)) : Int))), .int (iI ((prV m (tz (ts t)) : Int))), mx_junk, mx_junk, mx_junk, mx_junk, mx_junk], [.int (iI (if tx (ts t) < 0 then 1 else tS (ts (tx (ts t)).toNat)))]) h := by
  obtain ⟨sh, pl, _⟩ := W.1 t ht
  obtain ⟨s1, s2, s3, s4, s5, _⟩ := sh
  obtain ⟨u1, u2, u3, u4, u5, u6, u7⟩ := S t ht
  have tn : (iI (t : Int)).toNatClampNeg = t := by rw [ii_cl (by omega)]; exact Int.toNat_natCast _
  have tin := in_t (a := (t : Int)) (n := 130) (by omega)
  have part : ∀ (a : Int), -1 ≤ a → a < t → (0 ≤ a → h.1 68 ((iI a).toNatClampNeg) = iI (prV m a : Int)) ∧ (a < 0 → prV m a = 0) := by
    intro a h1 h2
    refine ⟨fun z => ?_, fun z => if_pos z⟩
    rw [ii_cl (by omega), hm _ (by omega)]
    unfold prV
    rw [if_neg (by omega)]
  have le0 : ∀ (a : Int), -1 ≤ a → a < t → ((0 : Int32) ≤ iI a ↔ 0 ≤ a) := fun a h1 h2 => ii_le (a := 0) (by omega)
  rw [c_X11_work, e_X11_work_0, if_pos tin, if_pos tin, tn, u3, u1]
  have st31 : (if (0 : Int32) ≤ iI (tx (ts t)) then if mx_in (iI (t : Int)) 130 = true then if mx_in (iI (tx (ts t))) 130 = true then mx_D (3, mm_X11_work, 31, [.ref 47, .int (iI ((t : Int))), .int (iI (tk (ts t))), mx_junk, mx_junk, mx_junk, mx_junk, mx_junk, mx_junk, mx_junk, mx_junk], [.int (h.1 68 ((iI (tx (ts t))).toNatClampNeg))]) h else none else none else mx_D (3, mm_X11_work, 31, [.ref 47, .int (iI ((t : Int))), .int (iI (tk (ts t))), mx_junk, mx_junk, mx_junk, mx_junk, mx_junk, mx_junk, mx_junk, mx_junk], [.int 0]) h) = mx_D (3, mm_X11_work, 31, [.ref 47, .int (iI ((t : Int))), .int (iI (tk (ts t))), mx_junk, mx_junk, mx_junk, mx_junk, mx_junk, mx_junk, mx_junk, mx_junk], [.int (iI ((prV m (tx (ts t)) : Int)))]) h := by
    by_cases z : 0 ≤ tx (ts t)
    · rw [if_pos ((le0 _ (by omega) (by omega)).mpr z), if_pos tin, if_pos (in_t (n := 130) (by omega)), (part _ (by omega) (by omega)).1 z]
    · rw [if_neg (fun y => z ((le0 _ (by omega) (by omega)).mp y)), (part _ (by omega) (by omega)).2 (by omega)]
      rfl
  rw [st31, e_X11_work_31, if_pos tin, tn, u4]
  have st56 : (if (0 : Int32) ≤ iI (ty (ts t)) then if mx_in (iI (t : Int)) 130 = true then if mx_in (iI (ty (ts t))) 130 = true then mx_D (3, mm_X11_work, 56, [.ref 47, .int (iI ((t : Int))), .int (iI (tk (ts t))), .int (iI ((prV m (tx (ts t)) : Int))), mx_junk, mx_junk, mx_junk, mx_junk, mx_junk, mx_junk, mx_junk], [.int (h.1 68 ((iI (ty (ts t))).toNatClampNeg))]) h else none else none else mx_D (3, mm_X11_work, 56, [.ref 47, .int (iI ((t : Int))), .int (iI (tk (ts t))), .int (iI ((prV m (tx (ts t)) : Int))), mx_junk, mx_junk, mx_junk, mx_junk, mx_junk, mx_junk, mx_junk], [.int 0]) h) = mx_D (3, mm_X11_work, 56, [.ref 47, .int (iI ((t : Int))), .int (iI (tk (ts t))), .int (iI ((prV m (tx (ts t)) : Int))), mx_junk, mx_junk, mx_junk, mx_junk, mx_junk, mx_junk, mx_junk], [.int (iI ((prV m (ty (ts t)) : Int)))]) h := by
    by_cases z : 0 ≤ ty (ts t)
    · rw [if_pos ((le0 _ (by omega) (by omega)).mpr z), if_pos tin, if_pos (in_t (n := 130) (by omega)), (part (ty (ts t)) (by omega) (by omega)).1 z]
    · rw [if_neg (fun y => z ((le0 _ (by omega) (by omega)).mp y)), (part (ty (ts t)) (by omega) (by omega)).2 (by omega)]
      rfl
  rw [st56, e_X11_work_56, if_pos tin, tn, u5]
  have st82 : (if (0 : Int32) ≤ iI (tz (ts t)) then if mx_in (iI (t : Int)) 130 = true then if mx_in (iI (tz (ts t))) 130 = true then mx_D (3, mm_X11_work, 82, [.ref 47, .int (iI ((t : Int))), .int (iI (tk (ts t))), .int (iI ((prV m (tx (ts t)) : Int))), .int (iI ((prV m (ty (ts t)) : Int))), mx_junk, mx_junk, mx_junk, mx_junk, mx_junk, mx_junk], [.int (h.1 68 ((iI (tz (ts t))).toNatClampNeg))]) h else none else none else mx_D (3, mm_X11_work, 82, [.ref 47, .int (iI ((t : Int))), .int (iI (tk (ts t))), .int (iI ((prV m (tx (ts t)) : Int))), .int (iI ((prV m (ty (ts t)) : Int))), mx_junk, mx_junk, mx_junk, mx_junk, mx_junk, mx_junk], [.int 0]) h) = mx_D (3, mm_X11_work, 82, [.ref 47, .int (iI ((t : Int))), .int (iI (tk (ts t))), .int (iI ((prV m (tx (ts t)) : Int))), .int (iI ((prV m (ty (ts t)) : Int))), mx_junk, mx_junk, mx_junk, mx_junk, mx_junk, mx_junk], [.int (iI ((prV m (tz (ts t)) : Int)))]) h := by
    by_cases z : 0 ≤ tz (ts t)
    · rw [if_pos ((le0 _ (by omega) (by omega)).mpr z), if_pos tin, if_pos (in_t (n := 130) (by omega)), (part (tz (ts t)) (by omega) (by omega)).1 z]
    · rw [if_neg (fun y => z ((le0 _ (by omega) (by omega)).mp y)), (part (tz (ts t)) (by omega) (by omega)).2 (by omega)]
      rfl
  rw [st82, e_X11_work_82, if_pos tin, tn, u3]
  by_cases z : 0 ≤ tx (ts t)
  · have sx := (S (tx (ts t)).toNat (by omega)).2.1
    rw [if_pos ((le0 _ (by omega) (by omega)).mpr z), if_pos tin, if_pos (in_t (n := 130) (by omega)), ii_cl (by omega), sx, if_neg (show ¬ tx (ts t) < 0 by omega)]
  · rw [if_neg (fun y => z ((le0 _ (by omega) (by omega)).mp y)), if_pos (show tx (ts t) < 0 by omega)]
    rfl
