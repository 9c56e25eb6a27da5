/-! the class's chooser; literals with a meaning -/
theorem xor_sn {c : Nat} (h : c < 4096) : ng c ^^^ c = 1 := by
  rw [← ng_x h, Nat.xor_comm c 1, Nat.xor_assoc, Nat.xor_self, Nat.xor_zero]
section GM
variable {z : Nat} {gs : Nat → Gt} {h : mx_H}
/-- the second half of mux: no part is the chooser's own gate -/
theorem X3_mux_52 {c a b : Nat} {v2 v3 : Int32} (G : GtC z gs h.1) (W : GW z gs) (hz : z < 1065) (hc : 1 ≤ c / 2 ∧ c / 2 < z) (ha : a / 2 < z) (hb : b / 2 < z) (na : a / 2 ≠ c / 2) (nb : b / 2 ≠ c / 2) : Gop 1 z gs h (fun u => u = c / 2 ∨ u = a / 2 ∨ u = b / 2) (fun x => if lv gs x c = true then lv gs x a else lv gs x b) (mx_D (3, mm_X3_mux, 52, [.ref 22, .int (iI ((c : Int))), .int v2, .int v3, .int (iI ((a : Int))), mx_junk], [.int (iI ((b : Int)))]) h) := by
  have a4 : a < 4096 := by omega
  have b4 : b < 4096 := by omega
  have c4 : c < 4096 := by omega
  have nga : ng a < 4096 := by have := ng_2 a; omega
  have ngb : ng b < 4096 := by have := ng_2 b; omega
  have ngc : ng c < 4096 := by have := ng_2 c; omega
  rw [e_X3_mux_52, ii_h (by omega), ii_h (by omega), ii_ng c4, ii_ng b4, ii_ng a4]
  by_cases q0 : a = b
  · rw [if_pos (by rw [q0])]
    exact Gop_c (r := a) G W rfl ha (fun x => by rw [q0]; simp) (fun I hI => hI _ (Or.inr (Or.inl rfl)))
  rw [if_neg (lit_ne a4 b4 q0)]
  have neg : ∀ (X : Option mx_O) (P : Nat → Prop) (f : Int → Bool), Gop 1 z gs h P f X → ∀ (k : mx_O → Option mx_O), (∀ (r : Nat) (h' : mx_H), r < 4096 → k (some (.int (iI ((r : Int)))), h') = some (some (.int (iI (r : Int) ^^^ 1)), h')) → Gop 1 z gs h P (fun x => !(f x)) (X.bind k) := by
    intro X P f hX k hk
    obtain ⟨r, z', gs', h', p1, p2, p3, p4, p5⟩ := hX
    have p2' := p2.1.2.2.1
    refine ⟨ng r, z', gs', h', ?_, p2, by rw [ng_2]; exact p3, fun x => by rw [lv_ng, p4], fun I hI => by rw [ng_2]; exact p5 I hI⟩
    rw [p1, Option.bind_some, hk r h' (by omega), ii_ng (by omega)]
  have pos : ∀ (X : Option mx_O) (P : Nat → Prop) (f : Int → Bool), Gop 1 z gs h P f X → ∀ (k : mx_O → Option mx_O), (∀ (r : Nat) (h' : mx_H), k (some (.int (iI ((r : Int)))), h') = some (some (.int (iI ((r : Int)))), h')) → Gop 1 z gs h P f (X.bind k) := by
    intro X P f hX k hk
    obtain ⟨r, z', gs', h', p1, p2, p3, p4, p5⟩ := hX
    refine ⟨r, z', gs', h', ?_, p2, p3, p4, p5⟩
    rw [p1, Option.bind_some, hk r h']
  have wk : ∀ (X : Option mx_O) (P P' : Nat → Prop) (f f' : Int → Bool), Gop 1 z gs h P f X → (∀ u, P u → P' u) → (∀ x, f x = f' x) → Gop 1 z gs h P' f' X := by
    intro X P P' f f' hX hP hf
    obtain ⟨r, z', gs', h', p1, p2, p3, p4, p5⟩ := hX
    exact ⟨r, z', gs', h', p1, p2, p3, fun x => by rw [p4, hf], fun I hI => p5 I (fun u hu => hI u (hP u hu))⟩
  by_cases q1 : a / 2 = 0
  · rw [if_pos (by rw [ii_nz (by omega)]; exact q1)]
    by_cases q2 : a = 1
    · rw [if_pos (show iI (a : Int) = 1 by rw [q2]; rfl)]
      refine wk _ _ _ _ _ (pos _ _ _ (X3_and_c (a := ng c) (b := b) G W hz (by rw [ng_2]; omega) hb) _ (fun r h' => by refine Eq.trans (e_X3_mux_86 ..) (e_X3_mux_102 ..))) ?_ ?_
      · intro u hu; rw [ng_2] at hu; rcases hu with e | e
        · exact Or.inl e
        · exact Or.inr (Or.inr e)
      · intro x; rw [lv_ng, q2, lv_1]; cases lv gs x c <;> simp
    · have q3 : a = 0 := by omega
      rw [if_neg (show ¬ iI (a : Int) = 1 from lit_ne (b := 1) a4 (by decide) q2)]
      refine wk _ _ _ _ _ (neg _ _ _ (X3_and_c (a := ng c) (b := ng b) G W hz (by rw [ng_2]; omega) (by rw [ng_2]; omega)) _ (fun r h' _ => by refine Eq.trans (e_X3_mux_100 ..) (e_X3_mux_102 ..))) ?_ ?_
      · intro u hu; rw [ng_2, ng_2] at hu; rcases hu with e | e
        · exact Or.inl e
        · exact Or.inr (Or.inr e)
      · intro x; rw [lv_ng, lv_ng, q3, lv_0]; cases lv gs x c <;> simp
  rw [if_neg (by rw [ii_nz (by omega)]; exact q1)]
  by_cases q4 : b / 2 = 0
  · rw [if_pos (by rw [ii_nz (by omega)]; exact q4)]
    by_cases q2 : b = 1
    · rw [if_pos (show iI (b : Int) = 1 by rw [q2]; rfl)]
      refine wk _ _ _ _ _ (pos _ _ _ (X3_and_c (a := c) (b := a) G W hz (by omega) ha) _ (fun r h' => by refine Eq.trans (e_X3_mux_123 ..) (e_X3_mux_137 ..))) ?_ ?_
      · intro u hu; rcases hu with e | e
        · exact Or.inl e
        · exact Or.inr (Or.inl e)
      · intro x; rw [q2, lv_1]; cases lv gs x c <;> simp
    · have q3 : b = 0 := by omega
      rw [if_neg (show ¬ iI (b : Int) = 1 from lit_ne (b := 1) b4 (by decide) q2)]
      refine wk _ _ _ _ _ (neg _ _ _ (X3_and_c (a := c) (b := ng a) G W hz (by omega) (by rw [ng_2]; omega)) _ (fun r h' _ => by refine Eq.trans (e_X3_mux_135 ..) (e_X3_mux_137 ..))) ?_ ?_
      · intro u hu; rw [ng_2] at hu; rcases hu with e | e
        · exact Or.inl e
        · exact Or.inr (Or.inl e)
      · intro x; rw [lv_ng, q3, lv_0]; cases lv gs x c <;> simp
  rw [if_neg (by rw [ii_nz (by omega)]; exact q4)]
  refine wk _ _ _ _ _ (pos _ _ _ (X3_put_c (k := 2) (c := c) (a := a) (b := b) G W hz (by decide) (by omega) (by omega) (fun e => by omega) (fun _ => ⟨hc, na, nb⟩)) _ (fun r h' => e_X3_mux_148 ..)) ?_ ?_
  · intro u hu; rcases hu with e | e | e
    · exact Or.inr (Or.inl e)
    · exact Or.inr (Or.inr e)
    · exact Or.inl e
  · intro x; rfl
theorem X3_mux_c {c a b : Nat} (G : GtC z gs h.1) (W : GW z gs) (hz : z < 1065) (hc : c / 2 < z) (ha : a / 2 < z) (hb : b / 2 < z) : Gop 1 z gs h (fun u => u = c / 2 ∨ u = a / 2 ∨ u = b / 2) (fun x => if lv gs x c = true then lv gs x a else lv gs x b) (mx_C mm_X3_mux [.ref 22, .int (iI ((c : Int))), .int (iI ((a : Int))), .int (iI ((b : Int)))] h) := by
  have a4 : a < 4096 := by omega
  have b4 : b < 4096 := by omega
  have c4 : c < 4096 := by omega
  rw [c_X3_mux, e_X3_mux_0, ii_h (by omega), ii_h (by omega)]
  by_cases q0 : c / 2 = 0
  · rw [if_pos (by rw [ii_nz (by omega)]; exact q0)]
    by_cases q1 : c = 0
    · rw [if_pos (show iI (c : Int) = 0 by rw [q1]; rfl), e_X3_mux_15]
      exact Gop_c (r := a) G W rfl ha (fun x => by rw [q1, lv_0]; rfl) (fun I hI => hI _ (Or.inr (Or.inl rfl)))
    · rw [if_neg (show ¬ iI (c : Int) = 0 from lit_ne (b := 0) c4 (by decide) q1), e_X3_mux_15]
      exact Gop_c (r := b) G W rfl hb (fun x => by rw [show c = 1 by omega, lv_1]; rfl) (fun I hI => hI _ (Or.inr (Or.inr rfl)))
  rw [if_neg (by rw [ii_nz (by omega)]; exact q0)]
  have fin : ∀ a' b' : Nat, a' / 2 < z → b' / 2 < z → a' / 2 ≠ c / 2 → b' / 2 ≠ c / 2 → (∀ x, lv gs x c = true → lv gs x a' = lv gs x a) → (∀ x, lv gs x c = false → lv gs x b' = lv gs x b) → (a' / 2 = 0 ∨ a' / 2 = a / 2) → (b' / 2 = 0 ∨ b' / 2 = b / 2) → Gop 1 z gs h (fun u => u = c / 2 ∨ u = a / 2 ∨ u = b / 2) (fun x => if lv gs x c = true then lv gs x a else lv gs x b) (mx_D (3, mm_X3_mux, 52, [.ref 22, .int (iI ((c : Int))), .int (iI ((a : Int))), .int (iI ((b : Int))), .int (iI ((a' : Int))), mx_junk], [.int (iI ((b' : Int)))]) h) := by
    intro a' b' ha' hb' na nb va vb ga gb
    obtain ⟨r, z', gs', h', p1, p2, p3, p4, p5⟩ := X3_mux_52 (c := c) (a := a') (b := b') (v2 := iI (a : Int)) (v3 := iI (b : Int)) G W hz (by omega) ha' hb' na nb
    refine ⟨r, z', gs', h', p1, p2, p3, fun x => ?_, fun I hI => p5 I (fun u hu => ?_)⟩
    · rw [p4]
      dsimp only
      by_cases q : lv gs x c = true
      · rw [if_pos q, if_pos q, va x q]
      · rw [if_neg q, if_neg q, vb x (by simpa using q)]
    · rcases hu with e | e | e
      · exact hI u (Or.inl e)
      · rcases ga with g | g
        · rw [e, g]; exact gal_0
        · rw [e, g]; exact hI _ (Or.inr (Or.inl rfl))
      · rcases gb with g | g
        · rw [e, g]; exact gal_0
        · rw [e, g]; exact hI _ (Or.inr (Or.inr rfl))
  have bcase : ∀ a' : Nat, a' / 2 < z → a' / 2 ≠ c / 2 → (∀ x, lv gs x c = true → lv gs x a' = lv gs x a) → (a' / 2 = 0 ∨ a' / 2 = a / 2) → Gop 1 z gs h (fun u => u = c / 2 ∨ u = a / 2 ∨ u = b / 2) (fun x => if lv gs x c = true then lv gs x a else lv gs x b) (mx_D (3, mm_X3_mux, 32, [.ref 22, .int (iI ((c : Int))), .int (iI ((a : Int))), .int (iI ((b : Int))), mx_junk, mx_junk], [.int (iI ((a' : Int)))]) h) := by
    intro a' ha' na va ga
    rw [e_X3_mux_32, ii_h (by omega), ii_h (by omega)]
    by_cases q : b / 2 = c / 2
    · rw [if_pos (by rw [q]), ii_xorN]
      rcases lit_eq q with e | e
      · rw [e, Nat.xor_self, ii_ng (by decide)]
        rw [e] at fin
        exact fin a' 1 ha' (by omega) na (by omega) va (fun x hx => by rw [hx]; rfl) ga (Or.inl rfl)
      · rw [e, xor_sn c4, ii_ng (by decide)]
        rw [e] at fin
        exact fin a' 0 ha' (by omega) na (by omega) va (fun x hx => by rw [lv_ng, hx]; rfl) ga (Or.inl rfl)
    · rw [if_neg (lit_ne (by omega) (by omega) q)]
      exact fin a' b ha' hb na q va (fun x _ => rfl) ga (Or.inr rfl)
  by_cases q : a / 2 = c / 2
  · rw [if_pos (by rw [q]), ii_xorN]
    rcases lit_eq q with e | e
    · rw [e, Nat.xor_self]
      rw [e] at bcase
      exact bcase 0 (by omega) (by omega) (fun x hx => by rw [hx]; rfl) (Or.inl rfl)
    · rw [e, xor_sn c4]
      rw [e] at bcase
      exact bcase 1 (by omega) (by omega) (fun x hx => by rw [lv_ng, hx]; rfl) (Or.inl rfl)
  · rw [if_neg (lit_ne (by omega) (by omega) q)]
    exact bcase a ha q (fun x _ => rfl) (Or.inr rfl)
end GM
/-! a literal with a meaning -/
def Lm (z : Nat) (gs : Nat → Gt) (Q : (Nat → Prop) → Prop) (l : Nat) (f : Int → Bool) : Prop := l / 2 < z ∧ (∀ x, lv gs x l = f x) ∧ ∀ I, Q I → gal z gs I (l / 2)
def Gm (m z : Nat) (gs : Nat → Gt) (h : mx_H) (Q : (Nat → Prop) → Prop) (f : Int → Bool) (X : Option mx_O) : Prop := ∃ r z' gs' h', X = some (some (.int (iI (((r : Nat) : Int)))), h') ∧ GX m z gs h z' gs' h' ∧ Lm z' gs' Q r f
section LM
variable {z : Nat} {gs : Nat → Gt} {h : mx_H} {Q : (Nat → Prop) → Prop}
theorem Lm_x {m z' : Nat} {gs' : Nat → Gt} {h' : mx_H} {l : Nat} {f : Int → Bool} (W : GW z gs) (X : GX m z gs h z' gs' h') (a : Lm z gs Q l f) : Lm z' gs' Q l f := by
  obtain ⟨x1, x2, x3, x4, x5, x6⟩ := X
  exact ⟨by have := a.1; omega, fun x => by rw [lv_x W x2 x3 x5 a.1]; exact a.2.1 x, fun I hI => gal_x x3 x5 (a.2.2 I hI)⟩
theorem Lm_f {l : Nat} {f f' : Int → Bool} (a : Lm z gs Q l f) (e : ∀ x, f x = f' x) : Lm z gs Q l f' := ⟨a.1, fun x => by rw [a.2.1, e], a.2.2⟩
theorem Lm_0 (h9 : 9 ≤ z) : Lm z gs Q 0 (fun _ => true) := ⟨by omega, fun _ => rfl, fun _ _ => gal_0⟩
theorem Lm_1 (h9 : 9 ≤ z) : Lm z gs Q 1 (fun _ => false) := ⟨by omega, fun _ => rfl, fun _ _ => gal_0⟩
theorem Lm_ng {l : Nat} {f : Int → Bool} (a : Lm z gs Q l f) : Lm z gs Q (ng l) (fun x => !(f x)) := ⟨by rw [ng_2]; exact a.1, fun x => by rw [lv_ng, a.2.1], fun I hI => by rw [ng_2]; exact a.2.2 I hI⟩
theorem Lm_lt {l : Nat} {f : Int → Bool} (G : GtC z gs h.1) (a : Lm z gs Q l f) : l < 4096 := by have := a.1; have := G.2.2.1; omega
theorem and_m {a b : Nat} {f g : Int → Bool} (G : GtC z gs h.1) (W : GW z gs) (hz : z < 1065) (ha : Lm z gs Q a f) (hb : Lm z gs Q b g) : Gm 1 z gs h Q (fun x => f x && g x) (mx_C mm_X3_and [.ref 22, .int (iI ((a : Int))), .int (iI ((b : Int)))] h) := by
  obtain ⟨r, z', gs', h', p1, p2, p3, p4, p5⟩ := X3_and_c G W hz ha.1 hb.1
  exact ⟨r, z', gs', h', p1, p2, p3, fun x => by rw [p4]; dsimp only; rw [ha.2.1, hb.2.1], fun I hI => p5 I (fun u hu => by rcases hu with e | e; (rw [e]; exact ha.2.2 I hI); (rw [e]; exact hb.2.2 I hI))⟩
theorem or_m {a b : Nat} {f g : Int → Bool} (G : GtC z gs h.1) (W : GW z gs) (hz : z < 1065) (ha : Lm z gs Q a f) (hb : Lm z gs Q b g) : Gm 1 z gs h Q (fun x => f x || g x) (mx_C mm_X3_or [.ref 22, .int (iI ((a : Int))), .int (iI ((b : Int)))] h) := by
  obtain ⟨r, z', gs', h', p1, p2, p3, p4, p5⟩ := X3_or_c G W hz ha.1 hb.1
  exact ⟨r, z', gs', h', p1, p2, p3, fun x => by rw [p4]; dsimp only; rw [ha.2.1, hb.2.1], fun I hI => p5 I (fun u hu => by rcases hu with e | e; (rw [e]; exact ha.2.2 I hI); (rw [e]; exact hb.2.2 I hI))⟩
theorem xor_m {a b : Nat} {f g : Int → Bool} (G : GtC z gs h.1) (W : GW z gs) (hz : z < 1065) (ha : Lm z gs Q a f) (hb : Lm z gs Q b g) : Gm 1 z gs h Q (fun x => (f x).xor (g x)) (mx_C mm_X3_xor [.ref 22, .int (iI ((a : Int))), .int (iI ((b : Int)))] h) := by
  obtain ⟨r, z', gs', h', p1, p2, p3, p4, p5⟩ := X3_xor_c G W hz ha.1 hb.1
  exact ⟨r, z', gs', h', p1, p2, p3, fun x => by rw [p4]; dsimp only; rw [ha.2.1, hb.2.1], fun I hI => p5 I (fun u hu => by rcases hu with e | e; (rw [e]; exact ha.2.2 I hI); (rw [e]; exact hb.2.2 I hI))⟩
theorem mux_m {c a b : Nat} {k f g : Int → Bool} (G : GtC z gs h.1) (W : GW z gs) (hz : z < 1065) (hc : Lm z gs Q c k) (ha : Lm z gs Q a f) (hb : Lm z gs Q b g) : Gm 1 z gs h Q (fun x => if k x = true then f x else g x) (mx_C mm_X3_mux [.ref 22, .int (iI ((c : Int))), .int (iI ((a : Int))), .int (iI ((b : Int)))] h) := by
  obtain ⟨r, z', gs', h', p1, p2, p3, p4, p5⟩ := X3_mux_c G W hz hc.1 ha.1 hb.1
  exact ⟨r, z', gs', h', p1, p2, p3, fun x => by rw [p4]; dsimp only; rw [hc.2.1, ha.2.1, hb.2.1], fun I hI => p5 I (fun u hu => by rcases hu with e | e | e; (rw [e]; exact hc.2.2 I hI); (rw [e]; exact ha.2.2 I hI); (rw [e]; exact hb.2.2 I hI))⟩
end LM
