/-! the reference's heads of terms -/
def MdX (d : Nat) (h h' : mx_H) : Prop := (∀ a k, (a < 47 ∨ a = 48 ∨ 62 ≤ a) → h'.1 a k = h.1 a k) ∧ (∀ k, k ≠ 2 → k ≠ 3 → k ≠ 4 → k ≠ 7 → k ≠ 9 → k ≠ 18 → k ≠ 26 → k ≠ 27 → h'.1 47 k = h.1 47 k) ∧ (∀ a k, 56 ≤ a → a ≤ 61 → a ≠ 59 → k < d → h'.1 a k = h.1 a k) ∧ (∀ k, k < 3 * d → h'.1 59 k = h.1 59 k) ∧ (∀ a k, (a ≠ 47 ∨ (k ≠ 5 ∧ k ≠ 6)) → (a ≠ 62 ∨ k < d) → h'.2.1 a k = h.2.1 a k) ∧ h'.2.2 = h.2.2
theorem MdX_r {d : Nat} {h : mx_H} : MdX d h h := ⟨fun _ _ _ => rfl, fun _ _ _ _ _ _ _ _ _ => rfl, fun _ _ _ _ _ _ => rfl, fun _ _ => rfl, fun _ _ _ _ => rfl, rfl⟩
theorem MdX_t {d d' : Nat} {h h1 h2 : mx_H} (hd : d ≤ d') (a : MdX d h h1) (b : MdX d' h1 h2) : MdX d h h2 := by
  obtain ⟨a1, a2, a3, a4, a5, a6⟩ := a
  obtain ⟨b1, b2, b3, b4, b5, b6⟩ := b
  exact ⟨fun x k z => by rw [b1 x k z, a1 x k z], fun k p1 p2 p3 p4 p5 p6 p7 p8 => by rw [b2 k p1 p2 p3 p4 p5 p6 p7 p8, a2 k p1 p2 p3 p4 p5 p6 p7 p8], fun x k p1 p2 p3 z => by rw [b3 x k p1 p2 p3 (by omega), a3 x k p1 p2 p3 z], fun k z => by rw [b4 k (by omega), a4 k z], fun x k z1 z2 => by rw [b5 x k z1 (by omega), a5 x k z1 z2], by rw [b6, a6]⟩
theorem MdX_d {d d' : Nat} {h h' : mx_H} (hd : d ≤ d') (a : MdX d' h h') : MdX d h h' := MdX_t hd MdX_r a
theorem MdX_n {d : Nat} {h h' : mx_H} (F : NxF h h') : MdX d h h' := ⟨fun a k z => F.1 a k (by omega), fun k p1 p2 p3 _ _ _ _ _ => F.1 47 k (by omega), fun a k _ _ _ _ => F.1 a k (by omega), fun k _ => F.1 59 k (by omega), fun a k z _ => F.2.1 a k z, F.2.2⟩
theorem MdX_b {d : Nat} {h h' : mx_H} (F : NxB h h') : MdX d h h' := ⟨fun a k z => F.1 a k (by omega), fun k p1 p2 p3 p4 _ _ _ _ => F.1 47 k (by omega), fun a k _ _ _ _ => F.1 a k (by omega), fun k _ => F.1 59 k (by omega), fun a k z _ => F.2.1 a k z, F.2.2⟩
theorem MdX_u {d a k : Nat} {x : Int32} {h : mx_H} (hh : (a = 47 ∧ (k = 7 ∨ k = 9 ∨ k = 18 ∨ k = 26 ∨ k = 27)) ∨ (49 ≤ a ∧ a ≤ 55) ∨ (56 ≤ a ∧ a ≤ 61 ∧ a ≠ 59 ∧ d ≤ k) ∨ (a = 59 ∧ 3 * d ≤ k)) : MdX d h (mx_u h.1 a k x, h.2.1, h.2.2) := by
  refine ⟨fun b i z => ?_, fun i p1 p2 p3 p4 p5 p6 p7 p8 => ?_, fun b i p1 p2 p3 z => ?_, fun i z => ?_, fun b i _ _ => rfl, rfl⟩
  all_goals
    dsimp only [mx_u]
    rw [if_neg (by omega)]
theorem MdX_m {d n : Nat} {h h' : mx_H} (F : MkF n h h') : MdX d h h' := ⟨fun a k z => F.1 a k (by omega) (by omega), fun k _ _ _ _ p _ _ _ => F.1 47 k (by omega) (by omega), fun a k _ _ _ _ => F.1 a k (by omega) (by omega), fun k _ => F.1 59 k (by omega) (by omega), fun a k _ _ => by rw [F.2], by rw [F.2]⟩
theorem FrM_x {c : Nat → Int} {len d : Nat} {h h' : mx_H} (X : MdX d h h') : ∀ fs : List Fr, fs.length ≤ d → FrM c len fs h → FrM c len fs h' := by
  intro fs
  induction fs with
  | nil => intro _ _; trivial
  | cons f r ih =>
    intro hl F
    rw [List.length_cons] at hl
    unfold FrM at F ⊢
    obtain ⟨⟨f1, f2, f3, f4, f5, f6, f7, f8, f9⟩, F⟩ := F
    obtain ⟨x1, x2, x3, x4, x5, x6⟩ := id X
    exact ⟨⟨by rw [x3 56 _ (by decide) (by decide) (by decide) (by omega)]; exact f1, by rw [x3 57 _ (by decide) (by decide) (by decide) (by omega)]; exact f2, by rw [x3 58 _ (by decide) (by decide) (by decide) (by omega)]; exact f3, fun x hx => by rw [x4 _ (by omega)]; exact f4 x hx, by rw [x3 60 _ (by decide) (by decide) (by decide) (by omega)]; exact f5, by rw [x3 61 _ (by decide) (by decide) (by decide) (by omega)]; exact f6, fun z => by rw [x5 62 _ (by omega) (by omega)]; exact f7 z, f8, f9⟩, ih (by omega) F⟩
theorem ScopeM_x {s : Sc} {d : Nat} {h h' : mx_H} (X : MdX d h h') (S : ScopeM s h) : ScopeM s h' := by
  obtain ⟨s1, s2, s3, s4, s5, s6⟩ := S
  obtain ⟨x1, x2, x3, x4, x5, x6⟩ := X
  exact ⟨by rw [x2 28 (by decide) (by decide) (by decide) (by decide) (by decide) (by decide) (by decide) (by decide)]; exact s1, by rw [x2 31 (by decide) (by decide) (by decide) (by decide) (by decide) (by decide) (by decide) (by decide)]; exact s2, by rw [x2 33 (by decide) (by decide) (by decide) (by decide) (by decide) (by decide) (by decide) (by decide)]; exact s3, fun i hi => by rw [x5 63 i (by omega) (by omega), x1 64 i (by omega)]; exact s4 i hi, fun i hi => by rw [x1 65 i (by omega)]; exact s5 i hi, fun i hi => by rw [x1 66 i (by omega), x1 67 i (by omega)]; exact s6 i hi⟩
theorem TermM_n {n : Nat} {ts : Nat → Tm} {h h' : mx_H} (F : NxF h h') (T : TermM n ts h.1) : TermM n ts h'.1 := TermM_e (F.1 47 9 (by decide)) (fun a k p q => F.1 a k (by omega)) T
section HD
variable {c : Nat → Int} {len j n : Nat} {s : Sc} {fs : List Fr} {ts : Nat → Tm} {h : mx_H}
theorem RdM_n {j' : Nat} {h' : mx_H} (R : RdM c len s fs j n ts h) (F : NxF h h') (J : TkJ c len j' h') : RdM c len s fs j' n ts h' := ⟨J, ScopeM_x (d := fs.length) (MdX_n F) R.2.1, TermM_n F R.2.2.1, by rw [F.1 47 18 (by decide)]; exact R.2.2.2.1, FrM_x (MdX_n F) fs (Nat.le_refl _) R.2.2.2.2⟩
/-- a write into a slot of the frame that is being made -/
theorem RdM_u {a k : Nat} {x : Int32} (R : RdM c len s fs j n ts h) (hh : (56 ≤ a ∧ a ≤ 61 ∧ a ≠ 59 ∧ fs.length ≤ k) ∨ (a = 59 ∧ 3 * fs.length ≤ k)) : RdM c len s fs j n ts (mx_u h.1 a k x, h.2.1, h.2.2) := by
  have X : MdX fs.length h (mx_u h.1 a k x, h.2.1, h.2.2) := MdX_u (by omega)
  have w : ∀ b i, b ≠ a → mx_u h.1 a k x b i = h.1 b i := fun b i z => mu_c _ _ _ _ z
  obtain ⟨⟨⟨T1, T2, T3⟩, t1, t2, t3, t4, t5⟩, S, T, dd, F⟩ := R
  refine ⟨⟨⟨by dsimp only; rw [w _ _ (by omega)]; exact T1, fun i hi => by dsimp only; rw [w _ _ (by omega)]; exact T2 i hi, T3⟩, by dsimp only; rw [w _ _ (by omega)]; exact t1, by dsimp only; rw [w _ _ (by omega)]; exact t2, by dsimp only; rw [w _ _ (by omega)]; exact t3, t4, t5⟩, ScopeM_x X S, TermM_e (w _ _ (by omega)) (fun b i p q => w _ _ (by omega)) T, by dsimp only; rw [w _ _ (by omega)]; exact dd, FrM_x X fs (Nat.le_refl _) F⟩
def FaM (c : Nat → Int) (len d n : Nat) (ts : Nat → Tm) (e : Nat) (h h' : mx_H) : Prop := h'.1 47 7 = iI (jB c len e : Int) ∧ MdX d h h' ∧ ∃ n' ts', TermM n' ts' h'.1 ∧ n ≤ n' ∧ ∀ i, i < n → ts' i = ts i
theorem FaM_7 {e d : Nat} {h' : mx_H} (X : MdX d h h') (T : TermM n ts h'.1) : FaM c len d n ts e h (mx_u h'.1 47 7 (iI (jB c len e : Int)), h'.2.1, h'.2.2) := ⟨by dsimp only; exact mu_s _ _ _ _, MdX_t (Nat.le_refl _) X (MdX_u (by omega)), n, ts, TermM_e (by dsimp only; exact mu_k _ _ (by decide)) (fun a k p q => by dsimp only; exact mu_c _ _ _ _ (by omega)) T, Nat.le_refl _, fun _ _ => rfl⟩
theorem FaM_t {e d d' n1 : Nat} {ts1 : Nat → Tm} {h1 h' : mx_H} (hd : d ≤ d') (X : MdX d h h1) (hn : n ≤ n1) (ho : ∀ i, i < n → ts1 i = ts i) (F : FaM c len d' n1 ts1 e h1 h') : FaM c len d n ts e h h' := by
  obtain ⟨f1, f2, n', ts', f3, f4, f5⟩ := F
  exact ⟨f1, MdX_t hd X f2, n', ts', f3, by omega, fun i hi => by rw [f5 i (by omega), ho i hi]⟩
def RhO (c : Nat → Int) (len : Nat) (s : Sc) (fs : List Fr) (n : Nat) (ts : Nat → Tm) (h : mx_H) (r : Nat ⊕ (Fr × Nat)) (X : Option mx_O) : Prop := match r with
  | .inl e => ∃ h', X = some (some (.int (iI (0))), h') ∧ FaM c len fs.length n ts e h h'
  | .inr (f, j') => ∃ h', X = some (some (.int (iI (1))), h') ∧ RdM c len s (f :: fs) j' n ts h' ∧ MdX fs.length h h' ∧ h'.1 47 7 = h.1 47 7
theorem RhO_t {h1 : mx_H} {r : Nat ⊕ (Fr × Nat)} {X : Option mx_O} (Y : MdX fs.length h h1) (h7 : h1.1 47 7 = h.1 47 7) (O : RhO c len s fs n ts h1 r X) : RhO c len s fs n ts h r X := by
  match r, O with
  | .inl e, ⟨h', o1, o2⟩ => exact ⟨h', o1, FaM_t (Nat.le_refl _) Y (Nat.le_refl _) (fun _ _ => rfl) o2⟩
  | .inr (f, j'), ⟨h', o1, o2, o3, o4⟩ => exact ⟨h', o1, o2, MdX_t (Nat.le_refl _) Y o3, o4.trans h7⟩
theorem X11_push_c {k p q : Int} {j0 : Nat} {L : List Nat} (R : RdM c len s fs j n ts h) (hf : fs.length < 8) (hk : 4 ≤ k ∧ k ≤ 35) (hp : h.1 60 fs.length = iI p) (hq : h.1 61 fs.length = iI q) (hL : k = 35 → h.2.1 62 fs.length = loL L ∧ vName L) : ∃ h', mx_C mm_X11_push [.ref 47, .int (iI (k)), .int (iI ((jB c len j0 : Int)))] h = some (none, h') ∧ RdM c len s ((k, j0, [], p, q, L) :: fs) j n ts h' ∧ MdX fs.length h h' ∧ h'.1 47 7 = h.1 47 7 := by
  have dd := R.2.2.2.1
  refine ⟨(mx_u (mx_u (mx_u (mx_u h.1 56 fs.length (iI k)) 57 fs.length (iI (jB c len j0 : Int))) 58 fs.length (iI 0)) 47 18 (iI ((fs.length : Int) + 1)), h.2.1, h.2.2), ?_, ?_, ?_, ?_⟩
  · rw [c_X11_push, e_X11_push_0]
    simp (disch := omega) only [↓reduceIte, ii_lit, ii_add, ii_sub, ii_mul, ii_neg, ii_lt_t, ii_lt_f, ii_le_t, ii_le_f, ii_eq_t, ii_eq_f, ii_in, ii_cl, ii_shr, ii_shl, ii_and1, ii_and255, Option.bind_some, Option.toList, List.cons_append, List.nil_append, Int.toNat_natCast, mu_s, mu_c, mu_k, bI_i0, bI_i1, bI_n, nb_0, nb_1, bI_ft, bI_ff, Bool.false_eq_true, reduceCtorEq, Bool.true_eq_false, decide_true, decide_false, eq_self, Int.reduceAdd, Int.reduceSub, Int.reduceMul, Int.reduceNeg, Int.reduceToNat, tn30, tn31, tn32, tn20, tn21, dd]
  · have R1 := RdM_u (a := 56) (k := fs.length) (x := iI k) R (by omega)
    have R2 := RdM_u (a := 57) (k := fs.length) (x := iI (jB c len j0 : Int)) R1 (by omega)
    have R3 := RdM_u (a := 58) (k := fs.length) (x := iI 0) R2 (by omega)
    dsimp only at R3
    have w : ∀ b i, (b ≠ 47 ∨ i ≠ 18) → mx_u (mx_u (mx_u (mx_u h.1 56 fs.length (iI k)) 57 fs.length (iI (jB c len j0 : Int))) 58 fs.length (iI 0)) 47 18 (iI ((fs.length : Int) + 1)) b i = mx_u (mx_u (mx_u h.1 56 fs.length (iI k)) 57 fs.length (iI (jB c len j0 : Int))) 58 fs.length (iI 0) b i := by
      intro b i z
      dsimp only [mx_u]
      rw [if_neg (by omega)]
    obtain ⟨⟨⟨T1, T2, T3⟩, t1, t2, t3, t4, t5⟩, S, T, _, F⟩ := R3
    have X : MdX fs.length (mx_u (mx_u (mx_u h.1 56 fs.length (iI k)) 57 fs.length (iI (jB c len j0 : Int))) 58 fs.length (iI 0), h.2.1, h.2.2) (mx_u (mx_u (mx_u (mx_u h.1 56 fs.length (iI k)) 57 fs.length (iI (jB c len j0 : Int))) 58 fs.length (iI 0)) 47 18 (iI ((fs.length : Int) + 1)), h.2.1, h.2.2) := MdX_u (by omega)
    refine ⟨⟨⟨(w 47 1 (by decide)).trans T1, fun i hi => (w 48 i (by omega)).trans (T2 i hi), T3⟩, (w 47 3 (by decide)).trans t1, (w 47 4 (by decide)).trans t2, (w 47 2 (by decide)).trans t3, t4, t5⟩, ScopeM_x X S, TermM_e (w 47 9 (by decide)) (fun b i p q => w b i (by omega)) T, by dsimp only; rw [mu_s]; rfl, ⟨?_, FrM_x X fs (Nat.le_refl _) F⟩⟩
    refine ⟨?_, ?_, ?_, (fun x hx => by cases hx), ?_, ?_, hL, hk, (Nat.zero_le _)⟩
    · dsimp only; rw [w _ _ (by omega), mu_c _ _ _ _ (by decide), mu_c _ _ _ _ (by decide), mu_s]; rfl
    · dsimp only; rw [w _ _ (by omega), mu_c _ _ _ _ (by decide), mu_s]; rfl
    · dsimp only; rw [w _ _ (by omega), mu_s]; rfl
    · dsimp only; rw [w _ _ (by omega), mu_c _ _ _ _ (by decide), mu_c _ _ _ _ (by decide), mu_c _ _ _ _ (by decide)]; exact hp
    · dsimp only; rw [w _ _ (by omega), mu_c _ _ _ _ (by decide), mu_c _ _ _ _ (by decide), mu_c _ _ _ _ (by decide)]; exact hq
  · exact MdX_t (h1 := (mx_u h.1 56 fs.length (iI k), h.2.1, h.2.2)) (Nat.le_refl _) (MdX_u (by omega)) (MdX_t (h1 := (mx_u (mx_u h.1 56 fs.length (iI k)) 57 fs.length (iI (jB c len j0 : Int)), h.2.1, h.2.2)) (Nat.le_refl _) (MdX_u (by omega)) (MdX_t (h1 := (mx_u (mx_u (mx_u h.1 56 fs.length (iI k)) 57 fs.length (iI (jB c len j0 : Int))) 58 fs.length (iI 0), h.2.1, h.2.2)) (Nat.le_refl _) (MdX_u (by omega)) (MdX_u (by omega))))
  · dsimp only
    rw [mu_k _ _ (by decide), mu_c _ _ _ _ (by decide), mu_c _ _ _ _ (by decide), mu_c _ _ _ _ (by decide)]
end HD
