/-! the reference's readTerm is rdT -/
noncomputable def KT (w2 w3 : Int32) : mx_O → Option mx_O := fun o => mx_D (9, mm_X11_readTerm, 94, [.ref 47, .int (iI (0)), .int w2, .int w3], o.1.toList ++ []) o.2
noncomputable def DL (t0 a0 : Int32) (t a : Int) (v5 : Value) (h : mx_H) : Option mx_O := mx_D (6, mm_X11_deliver, 5, [.ref 47, .int t0, .int a0, .int (iI (t)), .int (iI (a)), v5, mx_junk], []) h
noncomputable def LH (v2 v3 : Value) (h : mx_H) : Option mx_O := mx_D (9, mm_X11_readTerm, 7, [.ref 47, .int (iI (0)), v2, v3], []) h
theorem KT_f {w2 w3 : Int32} {h : mx_H} : (some (some (.int (iI (-1))), h) : Option mx_O).bind (KT w2 w3) = some (some (.int (iI (0))), h) := by
  refine Eq.trans (e_X11_readTerm_94 ..) ?_
  rw [e_X11_readTerm_95, e_X11_readTerm_7, if_neg (by decide), if_pos (by decide), e_X11_readTerm_107]
  exact if_pos rfl
theorem KT_0 {w2 w3 : Int32} {h : mx_H} : (some (some (.int (iI (0))), h) : Option mx_O).bind (KT w2 w3) = LH (.int w2) (.int w3) h := by
  refine Eq.trans (e_X11_readTerm_94 ..) ?_
  rw [e_X11_readTerm_95]
  rfl
theorem KT_1 {w2 w3 : Int32} {h : mx_H} : (some (some (.int (iI (1))), h) : Option mx_O).bind (KT w2 w3) = some (some (.int (iI (1))), h) := by
  refine Eq.trans (e_X11_readTerm_94 ..) ?_
  rw [e_X11_readTerm_95, e_X11_readTerm_7, if_neg (by decide), if_neg (by decide), e_X11_readTerm_107]
  exact if_pos rfl
def RtO (c : Nat → Int) (len : Nat) (s : Sc) (fs : List Fr) (n : Nat) (ts : Nat → Tm) (j : Nat) (h : mx_H) (r : Rd) (X : Option mx_O) : Prop := match r with
  | .inl e => ∃ h', X = some (some (.int (iI (0))), h') ∧ FaM c len fs.length n ts e h h'
  | .inr (t, j', n', ts') => ∃ h' t0 a0 v5 w2 w3, X = (DL t0 a0 (t : Int) (jB c len j : Int) v5 h').bind (KT w2 w3) ∧ RdM c len s fs j' n' ts' h' ∧ MdX fs.length h h' ∧ h'.1 47 7 = h.1 47 7
theorem RtO_t {c : Nat → Int} {len : Nat} {s : Sc} {fs : List Fr} {n n1 : Nat} {ts ts1 : Nat → Tm} {j : Nat} {h h1 : mx_H} {r : Rd} {X : Option mx_O} (Y : MdX fs.length h h1) (h7 : h1.1 47 7 = h.1 47 7) (hn : n ≤ n1) (ho : ∀ i, i < n → ts1 i = ts i) (O : RtO c len s fs n1 ts1 j h1 r X) : RtO c len s fs n ts j h r X := by
  match r, O with
  | .inl e, ⟨h', o1, o2⟩ => exact ⟨h', o1, FaM_t (Nat.le_refl _) Y hn ho o2⟩
  | .inr (t, j', n', ts'), ⟨h', t0, a0, v5, w2, w3, o1, o2, o3, o4⟩ => exact ⟨h', t0, a0, v5, w2, w3, o1, o2, MdX_t (Nat.le_refl _) Y o3, o4.trans h7⟩
/-- what the loop does at fuel f -/
def IHM (c : Nat → Int) (len : Nat) (s : Sc) (A : Nat → Prop) (f : Nat) : Prop := ∀ fs j n ts h v2 v3, fs.length + f = 8 → RdM c len s fs j n ts h → Pre c len s A (ltF fs) j n ts → RtO c len s fs n ts j h (rdT c len s f (ltF fs) j n ts) (LH v2 v3 h)
section LP
variable {c : Nat → Int} {len : Nat} {s : Sc} {A : Nat → Prop}
theorem DL_pop {fs : List Fr} {fr : Fr} {j n : Nat} {ts : Nat → Tm} {h : mx_H} (R : RdM c len s (fr :: fs) j n ts h) (hf : fs.length < 8) (t0 a0 : Int32) (t : Int) (a : Int) : mx_D (6, mm_X11_deliver, 260, [.ref 47, .int t0, .int a0, .int (iI (t)), .int (iI (a)), .int (iI ((fs.length : Int))), mx_junk], [.int (iI (t))]) h = DL t0 a0 t (jB c len (fa fr) : Int) (.int (iI (fs.length : Int))) (mx_u h.1 47 18 (iI (fs.length : Int)), h.2.1, h.2.2) ∧ ∀ x : Int, mx_D (6, mm_X11_deliver, 260, [.ref 47, .int t0, .int a0, .int (iI (t)), .int (iI (a)), .int (iI ((fs.length : Int))), mx_junk], [.int (iI (x))]) h = DL t0 a0 x (jB c len (fa fr) : Int) (.int (iI (fs.length : Int))) (mx_u h.1 47 18 (iI (fs.length : Int)), h.2.1, h.2.2) := by
  have f2 := R.2.2.2.2.1.2.1
  have key : ∀ x : Int, mx_D (6, mm_X11_deliver, 260, [.ref 47, .int t0, .int a0, .int (iI (t)), .int (iI (a)), .int (iI ((fs.length : Int))), mx_junk], [.int (iI (x))]) h = DL t0 a0 x (jB c len (fa fr) : Int) (.int (iI (fs.length : Int))) (mx_u h.1 47 18 (iI (fs.length : Int)), h.2.1, h.2.2) := by
    intro x
    rw [e_X11_deliver_260, if_pos (in_t (a := (fs.length : Int)) (n := 12) (by omega)), ii_cl (by omega), Int.toNat_natCast, f2]
    rfl
  exact ⟨key t, key⟩
theorem RdM_pop {fs : List Fr} {fr : Fr} {j n : Nat} {ts : Nat → Tm} {h : mx_H} (R : RdM c len s (fr :: fs) j n ts h) : RdM c len s fs j n ts (mx_u h.1 47 18 (iI (fs.length : Int)), h.2.1, h.2.2) := by
  have X : MdX fs.length h (mx_u h.1 47 18 (iI (fs.length : Int)), h.2.1, h.2.2) := MdX_u (by omega)
  have w : ∀ b i, (b ≠ 47 ∨ i ≠ 18) → mx_u h.1 47 18 (iI (fs.length : Int)) b i = h.1 b i := by
    intro b i z
    dsimp only [mx_u]
    rw [if_neg (by omega)]
  obtain ⟨⟨⟨T1, T2, T3⟩, t1, t2, t3, t4, t5⟩, S, T, _, F⟩ := R
  exact ⟨⟨⟨(w 47 1 (by decide)).trans T1, fun i hi => (w 48 i (by omega)).trans (T2 i hi), T3⟩, (w 47 3 (by decide)).trans t1, (w 47 4 (by decide)).trans t2, (w 47 2 (by decide)).trans t3, t4, t5⟩, ScopeM_x X S, TermM_e (w 47 9 (by decide)) (fun b i p q => w b i (by omega)) T, by dsimp only; exact mu_s _ _ _ _, FrM_x X fs (Nat.le_refl _) F.2⟩
/-- delivering behind a closing bracket -/
theorem DL_216 {fs : List Fr} {fr : Fr} {j n : Nat} {ts : Nat → Tm} {h : mx_H} (R : RdM c len s (fr :: fs) j n ts h) (t0 a0 : Int32) (t a : Int) : (jO c len j 41 = true → ∃ h', mx_D (6, mm_X11_deliver, 216, [.ref 47, .int t0, .int a0, .int (iI (t)), .int (iI (a)), .int (iI ((fs.length : Int))), mx_junk], []) h = mx_D (6, mm_X11_deliver, 233, [.ref 47, .int t0, .int a0, .int (iI (t)), .int (iI (a)), .int (iI ((fs.length : Int))), mx_junk], [.int (iI (1))]) h' ∧ RdM c len s (fr :: fs) (j + 1) n ts h' ∧ NxF h h') ∧ (¬ jO c len j 41 = true → mx_D (6, mm_X11_deliver, 216, [.ref 47, .int t0, .int a0, .int (iI (t)), .int (iI (a)), .int (iI ((fs.length : Int))), mx_junk], []) h = some (some (.int (iI (-1))), (mx_u h.1 47 7 (iI (jB c len j : Int)), h.2.1, h.2.2))) := by
  have s0 : h.1 47 2 = iI (jS c len j) := R.1.2.2.2.1
  rw [e_X11_deliver_216, s0]
  constructor
  · intro q
    obtain ⟨h', a', J, F⟩ := X11_pass_t R.1 (x := 1) (by decide)
    refine ⟨h', ?_, RdM_n R F J, F⟩
    rw [jS_2.mpr q, if_pos (show iI 2 = 2 from rfl), e_X11_deliver_230, a']
    rfl
  · intro q
    rw [if_neg (jS_n2 (fun z => q (jS_2.mp z))), e_X11_deliver_230, show mx_C mm_X11_pass [.ref 47, .int 0] h = _ from X11_pass_f R.1]
    refine Eq.trans (e_X11_deliver_233 (s0 := iI 0) ..) ?_
    rw [if_pos (show iI 0 = 0 from rfl)]
    rfl
/-- delivering a part to an operator -/
theorem DL_part {fs : List Fr} {k p q : Int} {j0 : Nat} {ps : List Nat} {j n : Nat} {ts : Nat → Tm} {h : mx_H} (R : RdM c len s ((k, j0, ps, p, q, []) :: fs) j n ts h) (hf : fs.length < 8) (hk : 4 ≤ k ∧ k ≤ 34) (hp : 0 ≤ p ∧ p ≤ 99) (hi : ps.length < (np k).toNat) {t : Nat} (ht : t < n) (hps : ∀ x, x ∈ ps → x < n) (t0 a0 : Int32) (a : Int) (v5 : Value) :
    (¬ fitB k ps.length (tS (ts t)) (tS (ts ((ps ++ [t]).getD 0 0))) (tS (ts ((ps ++ [t]).getD 1 0))) p = true → DL t0 a0 (t : Int) a v5 h = some (some (.int (iI (-1))), (mx_u h.1 47 7 (iI a), h.2.1, h.2.2))) ∧
    (fitB k ps.length (tS (ts t)) (tS (ts ((ps ++ [t]).getD 0 0))) (tS (ts ((ps ++ [t]).getD 1 0))) p = true → ∃ h', DL t0 a0 (t : Int) a v5 h = (if ps.length + 1 < (np k).toNat then some (some (.int (iI (0))), h') else mx_D (6, mm_X11_deliver, 216, [.ref 47, .int t0, .int a0, .int (iI ((t : Int))), .int (iI (a)), .int (iI ((fs.length : Int))), mx_junk], []) h') ∧ RdM c len s ((k, j0, ps ++ [t], p, q, []) :: fs) j n ts h' ∧ MdX fs.length h h' ∧ h'.1 47 7 = h.1 47 7) := by
  have nb := np_b hk
  have dd := R.2.2.2.1
  rw [List.length_cons] at dd
  have FC := R.2.2.2.2.1
  obtain ⟨f1, f2, f3, f4, f5, f6, f7, f8, f9⟩ := id FC
  have f1 : h.1 56 fs.length = iI k := f1
  have f3 : h.1 58 fs.length = iI (ps.length : Int) := f3
  have f4 : ∀ x, x < ps.length → h.1 59 (3 * fs.length + x) = iI ((ps.getD x 0 : Nat) : Int) := f4
  have TM := R.2.2.1
  have T2 := TM.2.1
  obtain ⟨⟨u1, u2, u3, u4, u5, u6, u7⟩, ush⟩ := TM.2.2 t ht
  have dn : (iI (fs.length : Int)).toNatClampNeg = fs.length := by rw [ii_cl (by omega)]; exact Int.toNat_natCast _
  have din := in_t (a := (fs.length : Int)) (n := 12) (by omega)
  have st : DL t0 a0 (t : Int) a v5 h = mx_D (6, mm_X11_deliver, 118, [.ref 47, .int t0, .int a0, .int (iI ((t : Int))), .int (iI (a)), .int (iI ((fs.length : Int))), mx_junk], []) h := by
    unfold DL
    have e1 : iI ((fs.length + 1 : Nat) : Int) - 1 = iI (fs.length : Int) := (ii_sub _ 1).trans (congrArg iI (by omega))
    rw [e_X11_deliver_5, dd, if_neg (show ¬ iI ((fs.length + 1 : Nat) : Int) ≤ 0 from fun z => by have := (ii_le (b := 0) (by omega)).mp z; omega), e1, if_pos din, dn, f1, if_neg (show ¬ iI k = 35 from fun z => by have := (ii_eq (b := 35) (by omega) (by decide)).mp z; omega)]
  have FI := X11_fits_c (own := tS (ts t)) (fst := tS (ts ((ps ++ [t]).getD 0 0))) (snd := tS (ts ((ps ++ [t]).getD 1 0))) FC TM (by omega) hk.2 (show ps.length < 3 by omega) hp ush.2.1 hps (fun z => by have z' : 0 < ps.length := z; rw [gd_app z']; rfl) (fun z => by have z' : 1 < ps.length := z; rw [gd_app z']; rfl)
  have FI : mx_C mm_X11_fits [.ref 47, .int (iI ((fs.length : Int))), .int (iI ((ps.length : Int))), .int (iI (tS (ts t)))] h = some (some (.int (bI (fitB k ps.length (tS (ts t)) (tS (ts ((ps ++ [t]).getD 0 0))) (tS (ts ((ps ++ [t]).getD 1 0))) p))), h) := FI
  have st2 : DL t0 a0 (t : Int) a v5 h = mx_D (6, mm_X11_deliver, 149, [.ref 47, .int t0, .int a0, .int (iI ((t : Int))), .int (iI (a)), .int (iI ((fs.length : Int))), mx_junk], [.int (bI (fitB k ps.length (tS (ts t)) (tS (ts ((ps ++ [t]).getD 0 0))) (tS (ts ((ps ++ [t]).getD 1 0))) p))]) h := by
    rw [st, e_X11_deliver_118, if_pos din, dn, f1, if_neg (show ¬ iI k = 35 from fun z => by have := (ii_eq (b := 35) (by omega) (by decide)).mp z; omega), if_pos din, if_pos (in_t (a := (t : Int)) (n := 130) (by omega)), f3, ii_cl (by omega), Int.toNat_natCast, u2, FI]
    rfl
  rw [st2, e_X11_deliver_149]
  refine ⟨fun z => ?_, fun z => ?_⟩
  · have z' : fitB k ps.length (tS (ts t)) (tS (ts ((ps ++ [t]).getD 0 0))) (tS (ts ((ps ++ [t]).getD 1 0))) p = false := by
      cases y : fitB k ps.length (tS (ts t)) (tS (ts ((ps ++ [t]).getD 0 0))) (tS (ts ((ps ++ [t]).getD 1 0))) p with
      | false => rfl
      | true => exact absurd y z
    rw [z', if_pos (show bI false = 0 from rfl)]
    rfl
  · have e1 : (iI (3 * (fs.length : Int) + (ps.length : Int))).toNatClampNeg = 3 * fs.length + ps.length := by rw [ii_cl (by omega)]; omega
    rw [z, if_neg (show ¬ bI true = 0 by decide), if_pos din, dn, f3, show (3 : Int32) = iI 3 from rfl, ii_mul, ii_add, if_pos (in_t (n := 36) (by omega)), if_pos din, if_pos din, if_pos din, if_pos din, e1, mu_c _ _ _ _ (show (58 : Nat) ≠ 59 by decide), f3, ii_s1, mu_c _ _ _ _ (show (56 : Nat) ≠ 58 by decide), mu_c _ _ _ _ (show (56 : Nat) ≠ 59 by decide), f1, X11_parts_c _ hk, mu_s]
    have X1 : MdX fs.length h (mx_u h.1 59 (3 * fs.length + ps.length) (iI (t : Int)), h.2.1, h.2.2) := MdX_u (by omega)
    have X2 : MdX fs.length h (mx_u (mx_u h.1 59 (3 * fs.length + ps.length) (iI (t : Int))) 58 fs.length (iI ((ps.length + 1 : Nat) : Int)), h.2.1, h.2.2) := MdX_t (Nat.le_refl _) X1 (MdX_u (by omega))
    have w : ∀ b i, (b ≠ 59 ∨ i ≠ 3 * fs.length + ps.length) → (b ≠ 58 ∨ i ≠ fs.length) → mx_u (mx_u h.1 59 (3 * fs.length + ps.length) (iI (t : Int))) 58 fs.length (iI ((ps.length + 1 : Nat) : Int)) b i = h.1 b i := by
      intro b i z1 z2
      dsimp only [mx_u]
      rw [if_neg (by omega), if_neg (by omega)]
    refine ⟨(mx_u (mx_u h.1 59 (3 * fs.length + ps.length) (iI (t : Int))) 58 fs.length (iI ((ps.length + 1 : Nat) : Int)), h.2.1, h.2.2), ?_, ?_, X2, w 47 7 (by omega) (by omega)⟩
    · refine Eq.trans (e_X11_deliver_211 ..) ?_
      by_cases y : ps.length + 1 < (np k).toNat
      · rw [if_pos y, if_neg (show ¬ iI (np k) ≤ iI ((ps.length + 1 : Nat) : Int) from fun x => by have := (ii_le (by omega)).mp x; omega)]
        rfl
      · rw [if_neg y, if_pos (show iI (np k) ≤ iI ((ps.length + 1 : Nat) : Int) from (ii_le (by omega)).mpr (by omega))]
    · obtain ⟨⟨⟨T1, T2, T3⟩, t1, t2, t3, t4, t5⟩, S, T, d0, F⟩ := R
      have e2 : ps.length + 1 = (ps ++ [t]).length := by rw [List.length_append]; rfl
      refine ⟨⟨⟨(w 47 1 (by omega) (by omega)).trans T1, fun i hi => (w 48 i (by omega) (by omega)).trans (T2 i hi), T3⟩, (w 47 3 (by omega) (by omega)).trans t1, (w 47 4 (by omega) (by omega)).trans t2, (w 47 2 (by omega) (by omega)).trans t3, t4, t5⟩, ScopeM_x X2 S, TermM_e (w 47 9 (by omega) (by omega)) (fun b i p q => w b i (by omega) (by omega)) T, (w 47 18 (by omega) (by omega)).trans d0, ⟨?_, FrM_x X2 fs (Nat.le_refl _) F.2⟩⟩
      refine ⟨(w 56 _ (by omega) (by omega)).trans f1, (w 57 _ (by omega) (by omega)).trans f2, ?_, ?_, (w 60 _ (by omega) (by omega)).trans f5, (w 61 _ (by omega) (by omega)).trans f6, (fun y => by have : k = 35 := y; omega), f8, ?_⟩
      · dsimp only
        rw [mu_s, e2]
        rfl
      · intro x hx
        have hx : x < (ps ++ [t]).length := hx
        dsimp only
        show _ = iI (((ps ++ [t]).getD x 0 : Nat) : Int)
        by_cases y : x = ps.length
        · rw [y, gd_new, mu_c _ _ _ _ (by decide), mu_s]
        · rw [w 59 _ (by omega) (by omega), gd_app (by omega)]
          exact f4 x (by omega)
      · show (ps ++ [t]).length ≤ 3
        omega
/-- the parts of an operator -/
theorem parts_m {f : Nat} (I : IHM c len s A f) {fs : List Fr} {k p q : Int} {j0 : Nat} (hf : fs.length + 1 + f = 8) (hk : 4 ≤ k ∧ k ≤ 34) (hp : 0 ≤ p ∧ p ≤ 99) : ∀ (d : Nat) (ps : List Nat) (j n : Nat) (ts : Nat → Tm) (h : mx_H) (v2 v3 : Value), ps.length + (d + 1) = (np k).toNat → RdM c len s ((k, j0, ps, p, q, []) :: fs) j n ts h → Pre c len s A (ltF fs) j n ts → (∀ t, t ∈ ps → al n ts A t) → (match rdP (rdT c len s f (ltF fs)) k p (d + 1) ps j n ts with
    | .inl e => ∃ h', LH v2 v3 h = some (some (.int (iI (0))), h') ∧ FaM c len fs.length n ts e h h'
    | .inr (ps', j', n', ts') => ∃ h' t0 a0 t a w2 w3, LH v2 v3 h = (mx_D (6, mm_X11_deliver, 216, [.ref 47, .int t0, .int a0, .int (iI (t)), .int (iI (a)), .int (iI ((fs.length : Int))), mx_junk], []) h').bind (KT w2 w3) ∧ RdM c len s ((k, j0, ps', p, q, []) :: fs) j' n' ts' h' ∧ MdX fs.length h h' ∧ h'.1 47 7 = h.1 47 7) := by
  have nb := np_b hk
  have lt0 : ∀ ps, ltF ((k, j0, ps, p, q, []) :: fs) = ltF fs := fun ps => if_neg (fun z => by have : k = 35 := z.1; omega)
  intro d
  induction d with
  | zero =>
    intro ps j n ts h v2 v3 hd R P hal
    have O := I ((k, j0, ps, p, q, []) :: fs) j n ts h v2 v3 (by rw [List.length_cons]; omega) R (by rw [lt0]; exact P)
    rw [lt0] at O
    have K := rdT_k f (ltF fs) j n ts P
    have e1 : rdP (rdT c len s f (ltF fs)) k p (0 + 1) ps j n ts = match rdT c len s f (ltF fs) j n ts with
      | .inl e => .inl e
      | .inr (t, j', n', ts') => if fitB k ps.length (tS (ts' t)) (tS (ts' ((ps ++ [t]).getD 0 0))) (tS (ts' ((ps ++ [t]).getD 1 0))) p = true then .inr (ps ++ [t], j', n', ts') else .inl j := rfl
    rw [e1]
    cases r : rdT c len s f (ltF fs) j n ts with
    | inl e =>
      rw [r] at O
      obtain ⟨h', o1, o2⟩ := O
      exact ⟨h', o1, FaM_t (by rw [List.length_cons]; omega) MdX_r (Nat.le_refl _) (fun _ _ => rfl) o2⟩
    | inr x =>
      obtain ⟨t, j1, n1, ts1⟩ := x
      rw [r] at O
      obtain ⟨h1, t0, a0, v5, w2, w3, o1, R1, X1, o7⟩ := O
      obtain ⟨a1, a2, a3, a4, a5, a6, a7⟩ := K t j1 n1 ts1 r
      have X1 : MdX fs.length h h1 := MdX_d (by rw [List.length_cons]; omega) X1
      have DP := DL_part R1 (by omega) hk hp (by omega) (al_lt a2) (fun x hx => Nat.lt_of_lt_of_le (al_lt (hal x hx)) a3) t0 a0 (jB c len j : Int) v5
      dsimp only
      by_cases fq : fitB k ps.length (tS (ts1 t)) (tS (ts1 ((ps ++ [t]).getD 0 0))) (tS (ts1 ((ps ++ [t]).getD 1 0))) p = true
      · rw [if_pos fq]
        obtain ⟨h2, b1, R2, X2, b7⟩ := DP.2 fq
        rw [if_neg (by omega)] at b1
        exact ⟨h2, t0, a0, t, jB c len j, w2, w3, by rw [o1, b1], R2, MdX_t (Nat.le_refl _) X1 X2, b7.trans o7⟩
      · rw [if_neg fq]
        refine ⟨_, by rw [o1, DP.1 fq, KT_f], ?_⟩
        exact FaM_t (Nat.le_refl _) X1 a3 a4 (FaM_7 MdX_r R1.2.2.1)
  | succ d ih =>
    intro ps j n ts h v2 v3 hd R P hal
    have O := I ((k, j0, ps, p, q, []) :: fs) j n ts h v2 v3 (by rw [List.length_cons]; omega) R (by rw [lt0]; exact P)
    rw [lt0] at O
    have K := rdT_k f (ltF fs) j n ts P
    have e1 : rdP (rdT c len s f (ltF fs)) k p (d + 1 + 1) ps j n ts = match rdT c len s f (ltF fs) j n ts with
      | .inl e => .inl e
      | .inr (t, j', n', ts') => if fitB k ps.length (tS (ts' t)) (tS (ts' ((ps ++ [t]).getD 0 0))) (tS (ts' ((ps ++ [t]).getD 1 0))) p = true then rdP (rdT c len s f (ltF fs)) k p (d + 1) (ps ++ [t]) j' n' ts' else .inl j := rfl
    rw [e1]
    cases r : rdT c len s f (ltF fs) j n ts with
    | inl e =>
      rw [r] at O
      obtain ⟨h', o1, o2⟩ := O
      exact ⟨h', o1, FaM_t (by rw [List.length_cons]; omega) MdX_r (Nat.le_refl _) (fun _ _ => rfl) o2⟩
    | inr x =>
      obtain ⟨t, j1, n1, ts1⟩ := x
      rw [r] at O
      obtain ⟨h1, t0, a0, v5, w2, w3, o1, R1, X1, o7⟩ := O
      obtain ⟨a1, a2, a3, a4, a5, a6, a7⟩ := K t j1 n1 ts1 r
      have X1 : MdX fs.length h h1 := MdX_d (by rw [List.length_cons]; omega) X1
      have DP := DL_part R1 (by omega) hk hp (by omega) (al_lt a2) (fun x hx => Nat.lt_of_lt_of_le (al_lt (hal x hx)) a3) t0 a0 (jB c len j : Int) v5
      dsimp only
      by_cases fq : fitB k ps.length (tS (ts1 t)) (tS (ts1 ((ps ++ [t]).getD 0 0))) (tS (ts1 ((ps ++ [t]).getD 1 0))) p = true
      · rw [if_pos fq]
        obtain ⟨h2, b1, R2, X2, b7⟩ := DP.2 fq
        rw [if_pos (by omega)] at b1
        have p2 := P.2.1
        have P1 : Pre c len s A (ltF fs) j1 n1 ts1 := ⟨a1, by omega, AL_ext P.2.2.1 a3 a4, P.2.2.2⟩
        have al2 : ∀ t', t' ∈ ps ++ [t] → al n1 ts1 A t' := by
          intro t' ht
          rcases List.mem_append.mp ht with z | z
          · exact al_ext a3 a4 (hal t' z)
          · rw [List.mem_singleton.mp z]; exact a2
        have Q := ih (ps ++ [t]) j1 n1 ts1 h2 (.int w2) (.int w3) (by rw [List.length_append, List.length_singleton]; omega) R2 P1 al2
        have lhe : LH v2 v3 h = LH (.int w2) (.int w3) h2 := by rw [o1, b1, KT_0]
        rw [lhe]
        cases r2 : rdP (rdT c len s f (ltF fs)) k p (d + 1) (ps ++ [t]) j1 n1 ts1 with
        | inl e =>
          rw [r2] at Q
          obtain ⟨h', o1, o2⟩ := Q
          exact ⟨h', o1, FaM_t (Nat.le_refl _) (MdX_t (Nat.le_refl _) X1 X2) a3 a4 o2⟩
        | inr x =>
          obtain ⟨ps', j', n', ts'⟩ := x
          rw [r2] at Q
          obtain ⟨h', z0, z1, z2, z3, z4, z5, o1, o2, o3, o4⟩ := Q
          exact ⟨h', z0, z1, z2, z3, z4, z5, o1, o2, MdX_t (Nat.le_refl _) (MdX_t (Nat.le_refl _) X1 X2) o3, o4.trans (b7.trans o7)⟩
      · rw [if_neg fq]
        refine ⟨_, by rw [o1, DP.1 fq, KT_f], ?_⟩
        exact FaM_t (Nat.le_refl _) X1 a3 a4 (FaM_7 MdX_r R1.2.2.1)
end LP
