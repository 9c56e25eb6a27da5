/-! the reference's atom -/
theorem hE_nc {n : Nat} {ts : Nat → Tm} {m : Tm} (W : WF n ts) (hm : shp m) (h0 : tk m ≠ 0) : ∀ t, t < n → tk (ts t) = tk m → tS (ts t) = tS m → tx (ts t) = tx m → ty (ts t) = ty m → tz (ts t) = tz m → tp (ts t) = tp m → tq (ts t) = tq m → ts t = m := by
  intro t ht e1 e2 e3 e4 e5 e6 e7
  have a := (W.1 t ht).1.2.2.2.2.2.2.2.2.2.2.2.2.2 (by rw [e1]; exact h0)
  have b := hm.2.2.2.2.2.2.2.2.2.2.2.2.2 h0
  exact tm_ext ⟨e1, e2, e3, e4, e5, e6, e7, a.trans b.symm⟩
theorem mng_v {s : Sc} {L : List Nat} (H : NmS s) : ∀ lets : List (List Nat × Nat), (∀ p, p ∈ lets → vName p.1) → mng s lets L ≠ -1 → vName L := by
  intro lets
  induction lets with
  | nil =>
    intro _ h
    rcases lkF_m (s := s) (L := L) (sNc s) 0 with z | ⟨k, a, b, x, y⟩
    · exact absurd z h
    · rw [← x]; exact H.1 k (by omega)
  | cons p r ih =>
    intro hp h
    unfold mng at h
    by_cases q : p.1 = L
    · rw [← q]; exact hp p (List.mem_cons_self ..)
    · rw [if_neg q] at h
      exact ih (fun x hx => hp x (List.mem_cons_of_mem _ hx)) h
theorem ltF_v {c : Nat → Int} {len : Nat} {h : mx_H} : ∀ fs : List Fr, FrM c len fs h → ∀ p, p ∈ ltF fs → vName p.1 := by
  intro fs
  induction fs with
  | nil => intro _ p hp; cases hp
  | cons f r ih =>
    intro F p hp
    unfold FrM at F
    unfold ltF at hp
    by_cases q : fk f = 35 ∧ (fps f).length = 1
    · rw [if_pos q] at hp
      rcases List.mem_cons.mp hp with z | z
      · rw [z]; exact (F.1.2.2.2.2.2.2.1 q.1).2
      · exact ih F.2 p z
    · rw [if_neg q] at hp
      exact ih F.2 p hp
section AT
variable {c : Nat → Int} {len j n : Nat} {s : Sc} {fs : List Fr} {ts : Nat → Tm} {h : mx_H}
theorem X11_atom_127 (T : TxtM c len h.1) {e : Nat} (he : h.1 47 4 = iI (e : Int)) (hl : e ≤ len) (v1 : Int32) : ∀ (d i : Nat) (v : Int) (g : Bool), i + d = e → ∃ w2 w3 w4 : Int32, mx_D (2, mm_X11_atom, 127, [.ref 47, .int v1, .int (iI (v)), .int (bI g), .int (iI ((i : Int)))], []) h = if (g && bitO c d i) = true then (mx_C mm_X11_make [.ref 47, .int 3, .int (v1 - 2), .int (-1), .int (-1), .int (-1), .int (v1 - 2), .int (iI (bitF c d i v))] h).bind (fun o => mx_D (2, mm_X11_atom, 203, [.ref 47, .int v1, .int w2, .int w3, .int w4], o.1.toList ++ []) o.2) else some (some (.int (iI (-1))), h) := by
  obtain ⟨T1, T2, T3, T4⟩ := T
  intro d
  induction d with
  | zero =>
    intro i v g hi
    refine ⟨iI v, bI g, iI (i : Int), ?_⟩
    rw [e_X11_atom_127, he, if_pos ((ii_le (by omega)).mpr (by omega))]
    cases g with
    | true => rw [if_neg (show ¬ bI true = 0 by decide), if_pos (show (true && bitO c 0 i) = true from rfl)]; rfl
    | false => rw [if_pos (show bI false = 0 from rfl), if_neg (show ¬ (false && bitO c 0 i) = true by simp), e_X11_atom_207]; rfl
  | succ d ih =>
    intro i v g hi
    have b := T4 i (by omega)
    have st162 : ∀ g' : Bool, mx_D (2, mm_X11_atom, 162, [.ref 47, .int v1, .int (iI (v)), .int (bI g), .int (iI ((i : Int)))], [.int (bI g')]) h = mx_D (2, mm_X11_atom, 127, [.ref 47, .int v1, .int (iI (2 * v + c i - 48)), .int (bI g'), .int (iI (((i + 1 : Nat) : Int)))], []) h := by
      intro g'
      rw [e_X11_atom_162, if_pos (in_t (a := (i : Int)) (n := 120) (by omega)), ii_cl (by omega), Int.toNat_natCast, T2 i (by omega), ii_s1, show (2 : Int32) = iI 2 from rfl, show (48 : Int32) = iI 48 from rfl, ii_mul, ii_add, ii_sub]
    rw [e_X11_atom_127, he, if_neg (fun z => by have := (ii_le (by omega)).mp z; omega)]
    have eO : bitO c (d + 1) i = if c i = 48 ∨ c i = 49 then bitO c d (i + 1) else false := rfl
    have eF : bitF c (d + 1) i v = bitF c d (i + 1) (2 * v + c i - 48) := rfl
    cases g with
    | false =>
      obtain ⟨w2, w3, w4, e2⟩ := ih (i + 1) (2 * v + c i - 48) false (by omega)
      refine ⟨w2, w3, w4, ?_⟩
      have s1 := st162 false
      rw [if_pos (show bI false = 0 from rfl), e_X11_atom_161]
      refine Eq.trans s1 ?_
      rw [e2, Bool.false_and, Bool.false_and, if_neg (by decide), if_neg (by decide)]
    | true =>
      rw [if_neg (show ¬ bI true = 0 by decide), if_pos (in_t (a := (i : Int)) (n := 120) (by omega)), ii_cl (by omega), Int.toNat_natCast, T2 i (by omega), show mx_C mm_X11_in [.int (iI (c i)), .int 48, .int 49] h = _ from X11_in_c (b := 48) (c := 49) h ⟨by omega, by decide, by decide⟩]
      by_cases q : c i = 48 ∨ c i = 49
      · obtain ⟨w2, w3, w4, e2⟩ := ih (i + 1) (2 * v + c i - 48) true (by omega)
        refine ⟨w2, w3, w4, ?_⟩
        rw [eO, eF, if_pos q, decide_eq_true (show 48 ≤ c i ∧ c i ≤ 49 by omega)]
        refine Eq.trans (e_X11_atom_154 ..) ?_
        rw [if_neg (show ¬ bI true = 0 by decide)]
        exact (st162 true).trans e2
      · obtain ⟨w2, w3, w4, e2⟩ := ih (i + 1) (2 * v + c i - 48) false (by omega)
        refine ⟨w2, w3, w4, ?_⟩
        rw [eO, if_neg q, decide_eq_false (show ¬ (48 ≤ c i ∧ c i ≤ 49) by omega)]
        refine Eq.trans (e_X11_atom_154 ..) ?_
        rw [if_pos (show bI false = 0 from rfl), e_X11_atom_161]
        refine Eq.trans (st162 false) ?_
        rw [e2, Bool.false_and, Bool.true_and, if_neg (by decide), if_neg (by decide)]
def AtO (n : Nat) (h : mx_H) (r : Rd) (X : Option mx_O) : Prop := match r with
  | .inr (t, _, n', ts') => ∃ h', X = some (some (.int (iI ((t : Int)))), h') ∧ TermM n' ts' h'.1 ∧ MkF n h h'
  | .inl _ => X = some (some (.int (iI (-1))), h)
theorem X11_atom_c {A : Nat → Prop} (R : RdM c len s fs j n ts h) (h3 : jS c len j = 3) (H : NmS s) (P : Pre c len s A (ltF fs) j n ts) (hf : fs.length ≤ 8) (hB : sNc s ≤ 8) : AtO n h (rdA c len s (ltF fs) j n ts) (mx_C mm_X11_atom [.ref 47] h) := by
  obtain ⟨J, S, TM, hd, F⟩ := R
  obtain ⟨T, t1, t2, t3, t4, t5⟩ := id J
  obtain ⟨T1, T2, T3, T4⟩ := id T
  have W := P.1
  have n1 := Pre_n P
  have jl := jB_le (c := c) (len := len) j
  have tb := tE_b (c := c) jl
  have s3 := (tso_3 jl).mp h3
  have tpos := tb.2.2 s3.1
  have lit : ∀ m : Tm, shp m → tk m ≠ 0 → ∃ h', mx_C mm_X11_make [.ref 47, .int (iI (tk m)), .int (iI (tS m)), .int (iI (tx m)), .int (iI (ty m)), .int (iI (tz m)), .int (iI (tp m)), .int (iI (tq m))] h = some (some (.int (iI ((mkI n ts m : Int)))), h') ∧ TermM (mkN n ts m) (mkT n ts m) h'.1 ∧ MkF n h h' := fun m a b => X11_make_c TM (by omega) W.2 a (hE_nc W a b)
  rw [c_X11_atom, e_X11_atom_0]
  simp only [lg0]
  unfold rdA
  by_cases q1 : jW c len j = some 8
  · have cm := (jW_cmp J (w := 8) (lo := 1702195828) (hi := 0) (by decide) (by decide) (by decide) h3).mpr q1
    rw [if_pos q1, if_pos cm.1, if_pos cm.2]
    obtain ⟨h', a1, a2, a3⟩ := lit mTru (by unfold shp; decide) (by decide)
    have a1' : mx_C mm_X11_make [.ref 47, .int 1, .int 0, .int (-1), .int (-1), .int (-1), .int 0, .int 0] h = _ := a1
    rw [a1']
    exact ⟨h', e_X11_atom_31 .., a2, a3⟩
  have st32 : (if h.2.1 47 5 = 1702195828 then if h.2.1 47 6 = 0 then (mx_C mm_X11_make [.ref 47, .int 1, .int 0, .int (-1), .int (-1), .int (-1), .int 0, .int 0] h).bind (fun o => mx_D (2, mm_X11_atom, 31, [.ref 47, mx_junk, mx_junk, mx_junk, mx_junk], o.1.toList ++ []) o.2) else mx_D (2, mm_X11_atom, 32, [.ref 47, mx_junk, mx_junk, mx_junk, mx_junk], []) h else mx_D (2, mm_X11_atom, 32, [.ref 47, mx_junk, mx_junk, mx_junk, mx_junk], []) h) = mx_D (2, mm_X11_atom, 32, [.ref 47, mx_junk, mx_junk, mx_junk, mx_junk], []) h := by
    by_cases z1 : h.2.1 47 5 = 1702195828
    · rw [if_pos z1, if_neg (fun z2 => q1 ((jW_cmp J (w := 8) (by decide) (by decide) (by decide) h3).mp ⟨z1, z2⟩))]
    · rw [if_neg z1]
  rw [if_neg q1, st32, e_X11_atom_32]
  simp only [lg0]
  by_cases q2 : jW c len j = some 9
  · have cm := (jW_cmp J (w := 9) (lo := 435728179558) (hi := 0) (by decide) (by decide) (by decide) h3).mpr q2
    rw [if_pos q2, if_pos cm.1, if_pos cm.2]
    obtain ⟨h', a1, a2, a3⟩ := lit mFal (by unfold shp; decide) (by decide)
    have a1' : mx_C mm_X11_make [.ref 47, .int 2, .int 0, .int (-1), .int (-1), .int (-1), .int 0, .int 0] h = _ := a1
    rw [a1']
    exact ⟨h', e_X11_atom_63 .., a2, a3⟩
  have st64 : (if h.2.1 47 5 = 435728179558 then if h.2.1 47 6 = 0 then (mx_C mm_X11_make [.ref 47, .int 2, .int 0, .int (-1), .int (-1), .int (-1), .int 0, .int 0] h).bind (fun o => mx_D (2, mm_X11_atom, 63, [.ref 47, mx_junk, mx_junk, mx_junk, mx_junk], o.1.toList ++ []) o.2) else mx_D (2, mm_X11_atom, 64, [.ref 47, mx_junk, mx_junk, mx_junk, mx_junk], []) h else mx_D (2, mm_X11_atom, 64, [.ref 47, mx_junk, mx_junk, mx_junk, mx_junk], []) h) = mx_D (2, mm_X11_atom, 64, [.ref 47, mx_junk, mx_junk, mx_junk, mx_junk], []) h := by
    by_cases z1 : h.2.1 47 5 = 435728179558
    · rw [if_pos z1, if_neg (fun z2 => q2 ((jW_cmp J (w := 9) (by decide) (by decide) (by decide) h3).mp ⟨z1, z2⟩))]
    · rw [if_neg z1]
  rw [if_neg q2, st64, e_X11_atom_64, t1, t2, ii_sub]
  -- names
  have f208 : AtO n h (if jN c len j = 0 then .inl j else if mng s (ltF fs) (jL c len j) = -1 then .inl j else .inr ((mng s (ltF fs) (jL c len j)).toNat, j + 1, n, ts)) (mx_D (2, mm_X11_atom, 208, [.ref 47, .int (iI ((tE c len (jB c len j) : Int) - (jB c len j : Int))), mx_junk, mx_junk, mx_junk], []) h) := by
    have r : mx_D (2, mm_X11_atom, 208, [.ref 47, .int (iI ((tE c len (jB c len j) : Int) - (jB c len j : Int))), mx_junk, mx_junk, mx_junk], []) h = some (some (.int (iI (mng s (ltF fs) (jL c len j)))), h) := by
      rw [e_X11_atom_208]
      refine Eq.trans (X11_atom_212 J h3 S H hB _ (sNc s) 0 (Nat.zero_add _)) ?_
      rw [lkR_c H, X11_atom_262 J h3 hd hf _ fs [] rfl F, e_X11_atom_262, hd, if_pos ((ii_le (by omega)).mpr (by omega))]
    rw [r]
    have hm := mng_v (L := jL c len j) H (ltF fs) (ltF_v fs F)
    by_cases q4 : jN c len j = 0
    · rw [if_pos q4]
      have : mng s (ltF fs) (jL c len j) = -1 := Decidable.byContradiction (fun z => ((jN_v T4).mpr (hm z)) q4)
      rw [this]
      rfl
    rw [if_neg q4]
    by_cases q5 : mng s (ltF fs) (jL c len j) = -1
    · rw [if_pos q5, q5]; rfl
    rw [if_neg q5]
    rcases mng_m (L := jL c len j) (ltF fs) P.2.2.1 with z | ⟨t, x, y⟩
    · exact absurd z q5
    · rw [x, Int.toNat_natCast]
      exact ⟨h, rfl, TM, fun _ _ _ _ => rfl, rfl⟩
  have jd : jD c len j = widA c (jB c len j) (tE c len (jB c len j)) := rfl
  have noD : ¬ (3 ≤ tE c len (jB c len j) - jB c len j ∧ tE c len (jB c len j) - jB c len j ≤ 6 ∧ c (jB c len j) = 35 ∧ c (jB c len j + 1) = 98 ∧ bitO c (tE c len (jB c len j) - jB c len j - 2) (jB c len j + 2) = true) → ¬ 0 < jD c len j := by
    intro z
    rw [jd]
    unfold widA
    rw [if_neg z]
    omega
  by_cases p1 : tE c len (jB c len j) - jB c len j ≤ 2
  · rw [if_neg (noD (by omega)), if_pos (c := iI ((tE c len (jB c len j) : Int) - (jB c len j : Int)) ≤ 2) ((ii_le (b := 2) (by omega)).mpr (by omega))]
    exact f208
  rw [if_neg (c := iI ((tE c len (jB c len j) : Int) - (jB c len j : Int)) ≤ 2) (fun z => by have := (ii_le (b := 2) (by omega)).mp z; omega)]
  by_cases p2 : 7 ≤ tE c len (jB c len j) - jB c len j
  · rw [if_neg (noD (by omega)), if_pos (c := 7 ≤ iI ((tE c len (jB c len j) : Int) - (jB c len j : Int))) ((ii_le (a := 7) (by omega)).mpr (by omega))]
    exact f208
  rw [if_neg (c := 7 ≤ iI ((tE c len (jB c len j) : Int) - (jB c len j : Int))) (fun z => by have := (ii_le (a := 7) (by omega)).mp z; omega), if_pos (in_t (a := (jB c len j : Int)) (n := 120) (by omega)), ii_cl (by omega), Int.toNat_natCast, T2 _ s3.1]
  have cb := T4 _ s3.1
  by_cases p3 : c (jB c len j) = 35
  rotate_left
  · rw [if_neg (noD (fun z => p3 z.2.2.1)), if_neg (show ¬ iI (c (jB c len j)) = 35 from fun z => p3 ((ii_eq (b := 35) (by omega) (by decide)).mp z))]
    exact f208
  have e1 : iI (jB c len j : Int) + 1 = iI ((jB c len j + 1 : Nat) : Int) := ii_s1 _
  have cb1 := T4 (jB c len j + 1) (by omega)
  rw [if_pos (show iI (c (jB c len j)) = 35 by rw [p3]; rfl), e1, if_pos (in_t (a := ((jB c len j + 1 : Nat) : Int)) (n := 120) (by omega)), ii_cl (by omega), Int.toNat_natCast, T2 _ (by omega)]
  by_cases p4 : c (jB c len j + 1) = 98
  rotate_left
  · rw [if_neg (noD (fun z => p4 z.2.2.2.1)), if_neg (show ¬ iI (c (jB c len j + 1)) = 98 from fun z => p4 ((ii_eq (b := 98) (by omega) (by decide)).mp z))]
    exact f208
  rw [if_pos (show iI (c (jB c len j + 1)) = 98 by rw [p4]; rfl)]
  have e2 : iI (jB c len j : Int) + 2 = iI ((jB c len j + 2 : Nat) : Int) := ii_add _ 2
  obtain ⟨w2, w3, w4, lp⟩ := X11_atom_127 (c := c) (len := len) T t2 tb.2.1 (iI ((tE c len (jB c len j) : Int) - (jB c len j : Int))) (tE c len (jB c len j) - jB c len j - 2) (jB c len j + 2) 0 true (by omega)
  rw [Bool.true_and] at lp
  rw [e2, show mx_D (2, mm_X11_atom, 127, [.ref 47, .int (iI ((tE c len (jB c len j) : Int) - (jB c len j : Int))), .int 0, .int 1, .int (iI (((jB c len j + 2 : Nat) : Int)))], []) h = _ from lp]
  by_cases p5 : bitO c (tE c len (jB c len j) - jB c len j - 2) (jB c len j + 2) = true
  · have dv : jD c len j = tE c len (jB c len j) - jB c len j - 2 := by rw [jd]; unfold widA; rw [if_pos ⟨by omega, by omega, p3, p4, p5⟩]
    have d := jD_l (c := c) (len := len) (j := j) (by omega)
    have vv : jV c len j = bitF c (tE c len (jB c len j) - jB c len j - 2) (jB c len j + 2) 0 := by
      have : jV c len j = bitF c (jD c len j) (tE c len (jB c len j) - jD c len j) 0 := rfl
      rw [this, dv]
      congr 1
      omega
    have p16 : jV c len j < 16 := by
      have : jD c len j = 1 ∨ jD c len j = 2 ∨ jD c len j = 3 ∨ jD c len j = 4 := by omega
      have v := d.2.2.2.2.1
      rcases this with z | z | z | z <;> (rw [z] at v; exact Int.lt_of_lt_of_le v (by decide))
    obtain ⟨h', a1, a2, a3⟩ := lit (mBit (jD c len j) (jV c len j)) (by
      unfold shp mBit
      dsimp only [tk, tS, tx, ty, tz, tp, tq, to]
      refine ⟨by omega, by omega, by omega, by omega, by omega, by decide, by decide, by decide, by omega, by omega, by omega, fun _ => rfl, by omega, fun _ => rfl⟩) (fun z => absurd (show (3 : Int) = 0 from z) (by decide))
    rw [if_pos (show 0 < jD c len j by omega), if_pos p5]
    have e3 : iI ((tE c len (jB c len j) : Int) - (jB c len j : Int)) - 2 = iI (jD c len j : Int) := (ii_sub _ 2).trans (congrArg iI (by omega))
    have a1' : mx_C mm_X11_make [.ref 47, .int 3, .int (iI (jD c len j : Int)), .int (-1), .int (-1), .int (-1), .int (iI (jD c len j : Int)), .int (iI (jV c len j))] h = _ := a1
    rw [e3, ← vv, a1']
    refine ⟨h', ?_, a2, a3⟩
    refine Eq.trans (e_X11_atom_203 ..) ?_
    rw [e_X11_atom_207]
  · rw [if_neg (noD (fun z => p5 z.2.2.2.2)), if_neg p5]
    have q4 : jN c len j = 0 := by
      apply Decidable.byContradiction
      intro z
      have v := (jN_v T4).mp z
      have := v.2.2.1 ((c (jB c len j)).toNat) (by
        have lL : (jL c len j).length = tE c len (jB c len j) - jB c len j := tkL_len _ _ _
        unfold jL tkL
        exact List.mem_map.mpr ⟨0, List.mem_range.mpr (by show 0 < tE c len (jB c len j) - jB c len j; omega), by rw [Nat.add_zero]; rfl⟩)
      rw [p3] at this
      exact absurd this (by decide)
    rw [if_pos q4]
    rfl
end AT
