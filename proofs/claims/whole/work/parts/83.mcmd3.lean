/-! the reference's claim, declare, perform, command -/
section MC
variable {c : Nat → Int} {len n : Nat} {s : Sc} {A : Nat → Prop} {ts : Nat → Tm} {h : mx_H}
theorem X11_claim_c {sr : Nat} (hB : ScB s) (H : NmS s) (P : Pre c len s A [] 2 n ts) (r : rdC c len s n ts = rdQ c len (rdT c len s 8 [] 2 n ts)) (J : TkJ c len 2 h) (S : ScopeM s h) (T : TermM n ts h.1) (h17 : h.1 47 17 = iI (sr : Int)) : PfO c len s n ts sr h (mx_C mm_X11_claim [.ref 47] h) := by
  obtain ⟨B1, B2, B3, B4, B5, B6, B7⟩ := id hB
  rw [c_X11_claim, e_X11_claim_0]
  have O := X11_readTerm_c H B1 J S T P
  have K := rdT_k 8 [] 2 n ts P
  cases r1 : rdT c len s 8 [] 2 n ts with
  | inl e =>
    rw [r1] at O r
    obtain ⟨h1, a1, a2, a3, n', ts', a4, a5, a6⟩ := O
    rw [a1]
    refine PfO_f (v := -1) (r.trans rfl) ?_ (by decide) a2 a3 a4 a5 a6
    refine Eq.trans (e_X11_claim_4 (s0 := iI 0) ..) ?_
    rw [if_pos (show iI 0 = 0 from rfl)]
    rfl
  | inr x =>
    obtain ⟨t, j', n1, ts1⟩ := x
    rw [r1] at O r
    obtain ⟨k1, k2, k3, k4, k5, k6, k7⟩ := K t j' n1 ts1 r1
    obtain ⟨h1, a1, J1, T1, X1, a7, a26, a27⟩ := O
    have tl := al_lt k2
    have T12 := T1.2.1
    obtain ⟨⟨u1, u2, _⟩, ush⟩ := T1.2.2 t tl
    have sb := ush.2.1
    rw [a1]
    have st : ((some (some (.int (iI (1))), h1) : Option mx_O).bind fun o => mx_D (10, mm_X11_claim, 4, [.ref 47], o.1.toList ++ []) o.2) = if iI (tS (ts1 t)) = 0 then (mx_C mm_X11_ends [.ref 47] h1).bind (fun o => mx_D (10, mm_X11_claim, 35, [.ref 47], o.1.toList ++ []) o.2) else some (some (.int (-1)), (mx_u h1.1 47 7 (h1.1 47 27), h1.2.1, h1.2.2)) := by
      refine Eq.trans (e_X11_claim_4 (s0 := iI 1) ..) ?_
      dsimp only
      rw [if_neg (show ¬ iI 1 = 0 by decide), a26, if_pos (in_t (n := 130) (by omega)), ii_cl (by omega), Int.toNat_natCast, u2]
    rw [st]
    have rq : rdQ c len (.inr (t, j', n1, ts1)) = if tS (ts1 t) = 0 then rdE c len j' (5, [], 0, t, n1, ts1) else .inl 2 := rfl
    rw [rq] at r
    by_cases q0 : tS (ts1 t) = 0
    rotate_left
    · rw [if_neg q0] at r
      rw [if_neg (show ¬ iI (tS (ts1 t)) = 0 from fun z => q0 ((ii_eq (b := 0) (by omega) (by decide)).mp z)), a27]
      refine PfO_f (v := -1) (h' := (mx_u h1.1 47 7 (iI (jB c len 2 : Int)), h1.2.1, h1.2.2)) r rfl (by decide) (by dsimp only; exact mu_s _ _ _ _) (MdX_t (Nat.le_refl _) X1 (MdX_u (by omega))) (TermM_e (by dsimp only; rw [mu_k _ _ (by decide)]) (fun a k p q => by dsimp only; rw [mu_c _ _ _ _ (by omega)]) T1) k3 k4
    rw [if_pos q0] at r
    rw [q0, if_pos (show iI 0 = 0 from rfl)]
    obtain ⟨e1, e2⟩ := X11_ends_c J1
    rcases rdE_c (c := c) (len := len) (j := j') (5, [], 0, t, n1, ts1) with ⟨q1, q2, q3⟩ | ⟨e, q3, q4⟩
    rotate_left
    · obtain ⟨h2, b1, b2, b3⟩ := e2 e q4
      rw [b1]
      refine PfO_f (v := -1) (r.trans q3) ?_ (by decide) b2 (MdX_t (Nat.le_refl _) X1 (MdX_b b3)) (TermM_e (b3.1 47 9 (by decide)) (fun a k p q => b3.1 a k (by omega)) T1) k3 k4
      refine Eq.trans (e_X11_claim_35 (s0 := iI 0) ..) ?_
      rw [if_pos (show iI 0 = 0 from rfl)]
      rfl
    obtain ⟨h2, b1, J2, F2⟩ := e1 q1 q2
    have S2 : ScopeM s h2 := ScopeM_x (d := 0) (MdX_n F2) (ScopeM_x X1 S)
    have T2 := TermM_n F2 T1
    have X2 := MdX_t (Nat.le_refl _) X1 (MdX_n (d := 0) F2)
    have b7 : h2.1 47 7 = h.1 47 7 := (F2.1 47 7 (by decide)).trans a7
    have b26 : h2.1 47 26 = iI (t : Int) := (F2.1 47 26 (by decide)).trans a26
    obtain ⟨s1, s2, s3, s4, s5, s6⟩ := id S2
    rw [b1]
    have r' := r.trans q3
    by_cases q : 12 ≤ sNa s
    · have rv : rfs 5 0 s n1 ts1 = -1000 := by unfold rfs; rw [if_pos (Or.inr (Or.inl ⟨rfl, q⟩))]
      refine PfO_r r' (by rw [rv]; decide) ?_ b7 X2 T2 k3 k4
      refine Eq.trans (e_X11_claim_35 (s0 := iI 1) ..) ?_
      dsimp only
      rw [if_neg (show ¬ iI 1 = 0 by decide), s2, if_neg (show ¬ iI (sNa s : Int) < 12 from fun z => by have := (ii_lt (b := 12) (by omega)).mp z; omega), rv]
      rfl
    have rv0 : rfs 5 0 s n1 ts1 = if 60 < n1 + 0 ∨ 2 < hv ts1 n1 then -1001 else 0 := by unfold rfs; rw [if_neg (by omega)]; rfl
    have st35 : ((some (some (.int (iI (1))), h2) : Option mx_O).bind fun o => mx_D (10, mm_X11_claim, 35, [.ref 47], o.1.toList ++ []) o.2) = mx_D (10, mm_X11_claim, 57, [.ref 47], [.int (bI (decide (60 < n1 ∨ 2 < hv ts1 n1)))]) h2 := by
      refine Eq.trans (e_X11_claim_35 (s0 := iI 1) ..) ?_
      dsimp only
      rw [if_neg (show ¬ iI 1 = 0 by decide), s2, if_pos (show iI (sNa s : Int) < 12 from (ii_lt (b := 12) (by omega)).mpr (by omega)), X11_tooMany_c T2]
      rfl
    rw [st35, e_X11_claim_57]
    by_cases q' : 60 < n1 ∨ 2 < hv ts1 n1
    · have rv : rfs 5 0 s n1 ts1 = -1001 := by rw [rv0, if_pos (show 60 < n1 + 0 ∨ 2 < hv ts1 n1 from q')]
      refine PfO_r r' (by rw [rv]; decide) ?_ b7 X2 T2 k3 k4
      rw [decide_eq_true q', if_neg (show ¬ bI true = 0 by decide), rv]
      rfl
    · have rv : rfs 5 0 s n1 ts1 = 0 := by rw [rv0, if_neg (show ¬ (60 < n1 + 0 ∨ 2 < hv ts1 n1) from q')]
      have cm : cmd c len s n ts sr = (((sNa s + 1 : Nat) : Int), some (scClaim s t, n1, ts1, sr)) := by
        unfold cmd
        rw [r']
        dsimp only
        rw [if_pos rv]
        rfl
      have n31 : (iI (sNa s : Int)).toNatClampNeg = sNa s := by rw [ii_cl (by omega)]; exact Int.toNat_natCast _
      have w : ∀ a k, (a ≠ 47 ∨ k ≠ 31) → (a ≠ 65 ∨ k ≠ sNa s) → mx_u (mx_u h2.1 65 (sNa s) (iI (t : Int))) 47 31 (iI ((sNa s + 1 : Nat) : Int)) a k = h2.1 a k := by
        intro a k z1 z2
        dsimp only [mx_u]
        rw [if_neg (by omega), if_neg (by omega)]
      have h17' : h2.1 47 17 = iI (sr : Int) := (X2.2.1 17 (by decide) (by decide) (by decide) (by decide) (by decide) (by decide) (by decide) (by decide)).trans h17
      have h38' : h2.1 47 38 = h.1 47 38 := X2.2.1 38 (by decide) (by decide) (by decide) (by decide) (by decide) (by decide) (by decide) (by decide)
      refine PfO_d (h' := (mx_u (mx_u h2.1 65 (sNa s) (iI (t : Int))) 47 31 (iI ((sNa s + 1 : Nat) : Int)), h2.2.1, h2.2.2)) r' rv cm ?_ (by omega) ((w 47 7 (by decide) (by omega)).trans b7) (TermM_e (w 47 9 (by decide) (by omega)) (fun a k p q => w a k (by omega) (by omega)) T2) ?_ ((w 47 17 (by decide) (by omega)).trans h17') ?_ ((w 47 38 (by decide) (by omega)).trans h38')
      · rw [decide_eq_false q', if_pos (show bI false = 0 from rfl), s2, if_pos (in_t (n := 12) (by omega)), n31, b26, mu_c _ _ _ _ (show (47 : Nat) ≠ 65 by decide), s2, ii_s1, mu_s]
      · refine ⟨(w 47 28 (by decide) (by omega)).trans s1, ?_, (w 47 33 (by decide) (by omega)).trans s3, fun i hi => ⟨(s4 i hi).1, (w 64 i (by omega) (by omega)).trans (s4 i hi).2⟩, fun i hi => ?_, fun i hi => ⟨(w 66 i (by omega) (by omega)).trans (s6 i hi).1, (w 67 i (by omega) (by omega)).trans (s6 i hi).2⟩⟩
        · dsimp only; rw [mu_s]; rfl
        · have hi : i < sNa s + 1 := hi
          show mx_u (mx_u h2.1 65 (sNa s) (iI (t : Int))) 47 31 (iI ((sNa s + 1 : Nat) : Int)) 65 i = iI (((if i = sNa s then t else sAt s i) : Nat) : Int)
          by_cases z : i = sNa s
          · rw [z, if_pos rfl, mu_c _ _ _ _ (by decide), mu_s]
          · rw [if_neg z, w 65 i (by omega) (by omega)]
            exact s5 i (by omega)
      · refine CmY_t (CmY_x X2) ⟨fun a k z => ?_, fun _ _ _ => rfl, rfl⟩
        dsimp only
        rw [w a k (by omega) (by omega)]
theorem X11_declare_c {sr : Nat} (hB : ScB s) (H : NmS s) (W : WF n ts) (hn : n ≤ 60) (hsr : sr ≤ 60) (hc : ∀ i, i < sNc s → sCt s i < n) (ho : off s ts (sNc s) = (sBi s : Int)) (hp : ∀ t, t < n → tk (ts t) = 0 → tp (ts t) < sr) (r : rdC c len s n ts = if jN c len 2 = 0 ∨ ¬ lkC s (jL c len 2) = -1 then .inl 2 else rdD c len (jL c len 2) n ts (rdS c len 3)) (J : TkJ c len 2 h) (S : ScopeM s h) (T : TermM n ts h.1) (h17 : h.1 47 17 = iI (sr : Int)) : PfO c len s n ts sr h (mx_C mm_X11_declare [.ref 47] h) := by
  obtain ⟨B1, B2, B3, B4, B5, B6, B7⟩ := id hB
  rw [c_X11_declare, e_X11_declare_0, X11_isName_c J]
  have l5 : h.2.1 47 5 = loL (tsL c len (jB c len 2)) := J.2.2.2.2.1
  rw [l5]
  generalize hlo : loL (tsL c len (jB c len 2)) = lo
  have st10 : ((some (some (.int (bI (decide (jN c len 2 ≠ 0)))), h) : Option mx_O).bind fun o => mx_D (9, mm_X11_declare, 10, [.ref 47, .long lo, mx_junk, mx_junk, mx_junk], o.1.toList ++ [.ref 47]) o.2) = _ := e_X11_declare_10 (s1 := bI (decide (jN c len 2 ≠ 0))) ..
  rw [st10]
  have bad : ∀ X, X = mx_D (9, mm_X11_declare, 24, [.ref 47, .long lo, mx_junk, mx_junk, mx_junk], [.ref 47]) h → rdC c len s n ts = .inl 2 → PfO c len s n ts sr h X := by
    intro X hX r'
    refine PfO_f (v := -1) (h' := (mx_u h.1 47 7 (iI (jB c len 2 : Int)), h.2.1, h.2.2)) r' ?_ (by decide) (by dsimp only; exact mu_s _ _ _ _) (MdX_u (by omega)) (TermM_e (by dsimp only; rw [mu_k _ _ (by decide)]) (fun a k p q => by dsimp only; rw [mu_c _ _ _ _ (by omega)]) T) (Nat.le_refl _) (fun _ _ => rfl)
    rw [hX, e_X11_declare_24, e_X11_declare_25, show mx_C mm_X11_pass [.ref 47, .int 0] h = _ from X11_pass_f J]
    refine Eq.trans (e_X11_declare_28 (s0 := iI 0) ..) ?_
    rw [if_pos (show iI 0 = 0 from rfl)]
    rfl
  by_cases q0 : jN c len 2 = 0
  · rw [decide_eq_false (fun z => z q0), if_pos (show bI false = 0 from rfl)]
    exact bad _ rfl (r.trans (if_pos (Or.inl q0)))
  rw [decide_eq_true q0, if_neg (show ¬ bI true = 0 by decide)]
  have v := (jN_v J.1.2.2.2).mp q0
  have h3s : jS c len 2 = 3 := by
    apply Decidable.byContradiction
    intro z
    have jl := jB_le (c := c) (len := len) 2
    have tb := tE_b (c := c) jl
    have lL : (jL c len 2).length = tE c len (jB c len 2) - jB c len 2 := tkL_len _ _ _
    have v1 := v.1
    have v2 := v.2.1
    have b1 : jB c len 2 < len := by
      apply Decidable.byContradiction
      intro x
      have : tE c len (jB c len 2) = jB c len 2 := by unfold tE; rw [if_neg x]
      omega
    have fl := v.2.2.1 ((c (jB c len 2)).toNat) (by
      unfold jL tkL
      refine List.mem_map.mpr ⟨0, List.mem_range.mpr ?_, by rw [Nat.add_zero]; rfl⟩
      show 0 < tE c len (jB c len 2) - jB c len 2
      omega)
    rw [Int.toNat_of_nonneg (by have := J.1.2.2.2 _ b1; omega)] at fl
    have := of_decide_eq_true fl
    exact z ((tso_3 jl).mpr ⟨b1, decide_eq_true (by omega), by omega⟩)
  have tl : tsL c len (jB c len 2) = jL c len 2 := tsL_3 (jB_le _) h3s
  rw [tl] at hlo
  rw [X11_isConstant_c J h3s (by have := v.2.1; omega) S H B1]
  have st17 : ((some (some (.int (bI (decide (lkC s (jL c len 2) ≠ -1)))), h) : Option mx_O).bind fun o => mx_D (9, mm_X11_declare, 17, [.ref 47, .long lo, mx_junk, mx_junk, mx_junk], o.1.toList ++ [.ref 47]) o.2) = _ := e_X11_declare_17 (s1 := bI (decide (lkC s (jL c len 2) ≠ -1))) ..
  rw [st17]
  by_cases q1 : lkC s (jL c len 2) = -1
  rotate_left
  · rw [decide_eq_true q1, if_neg (show ¬ bI true = 0 by decide)]
    exact bad _ rfl (r.trans (if_pos (Or.inr q1)))
  rw [decide_eq_false (fun z => z q1), if_pos (show bI false = 0 from rfl), e_X11_declare_25]
  have r1 := r.trans (if_neg (fun z => z.elim q0 (fun y => y q1)))
  obtain ⟨h1, a1, J1, F1⟩ := X11_pass_t J (x := 1) (by decide)
  rw [a1]
  have st28 : ((some (some (.int (iI (1))), h1) : Option mx_O).bind fun o => mx_D (9, mm_X11_declare, 28, [.ref 47, .long lo, mx_junk, mx_junk, mx_junk], o.1.toList ++ []) o.2) = (mx_C mm_X11_readSort [.ref 47] h1).bind (fun o => mx_D (9, mm_X11_declare, 37, [.ref 47, .long lo, mx_junk, mx_junk, mx_junk], o.1.toList ++ []) o.2) := by
    refine Eq.trans (e_X11_declare_28 (s0 := iI 1) ..) ?_
    rw [if_neg (show ¬ iI 1 = 0 by decide)]
  rw [st28]
  have O := X11_readSort_c J1
  have f49 : ∀ (v3 : Int32) (h' : mx_H), mx_D (9, mm_X11_declare, 49, [.ref 47, .long lo, mx_junk, .int v3, mx_junk], []) h' = some (some (.int (iI (-1))), h') := by
    intro v3 h'
    rw [e_X11_declare_49]
    rfl
  cases r2 : rdS c len (2 + 1) with
  | inl e =>
    rw [r2] at O
    obtain ⟨h2, b1, b2, b3⟩ := O
    rw [b1]
    have rr : rdC c len s n ts = .inl e := by rw [r1]; unfold rdD; rw [show (3 : Nat) = 2 + 1 from rfl, r2]
    refine PfO_f (v := -1) rr ?_ (by decide) b2 (MdX_t (Nat.le_refl _) (MdX_n F1) (MdX_b b3)) (TermM_e (b3.1 47 9 (by decide)) (fun a k p q => b3.1 a k (by omega)) (TermM_n F1 T)) (Nat.le_refl _) (fun _ _ => rfl)
    refine Eq.trans (e_X11_declare_37 (s0 := iI (-1)) ..) ?_
    rw [if_pos (by decide), f49]
  | inr x =>
    obtain ⟨so, j'⟩ := x
    rw [r2] at O
    have sb := rdS_b r2
    obtain ⟨h2, b1, J2, F2⟩ := O
    rw [b1]
    have rr : rdC c len s n ts = rdE c len j' (4, jL c len 2, so, 0, n, ts) := by rw [r1]; unfold rdD; rw [show (3 : Nat) = 2 + 1 from rfl, r2]
    have st37 : ((some (some (.int (iI (so))), h2) : Option mx_O).bind fun o => mx_D (9, mm_X11_declare, 37, [.ref 47, .long lo, mx_junk, mx_junk, mx_junk], o.1.toList ++ []) o.2) = (mx_C mm_X11_ends [.ref 47] h2).bind (fun o => mx_D (9, mm_X11_declare, 46, [.ref 47, .long lo, mx_junk, .int (iI (so)), mx_junk], o.1.toList ++ []) o.2) := by
      refine Eq.trans (e_X11_declare_37 (s0 := iI so) ..) ?_
      rw [if_neg (show ¬ iI so < 0 from fun z => by have := (ii_lt (b := 0) (by omega)).mp z; omega)]
    rw [st37]
    have F12 := NxF_t F1 F2
    obtain ⟨e1, e2⟩ := X11_ends_c J2
    rcases rdE_c (c := c) (len := len) (j := j') (4, jL c len 2, so, 0, n, ts) with ⟨q3, q4, q5⟩ | ⟨e, q5, q6⟩
    rotate_left
    · obtain ⟨h3, d1, d2, d3⟩ := e2 e q6
      rw [d1]
      refine PfO_f (v := -1) (rr.trans q5) ?_ (by decide) d2 (MdX_t (Nat.le_refl _) (MdX_n F12) (MdX_b d3)) (TermM_e (d3.1 47 9 (by decide)) (fun a k p q => d3.1 a k (by omega)) (TermM_n F12 T)) (Nat.le_refl _) (fun _ _ => rfl)
      refine Eq.trans (e_X11_declare_46 (s0 := iI 0) ..) ?_
      rw [if_pos (show iI 0 = 0 from rfl), f49]
    obtain ⟨h3, d1, J3, F3⟩ := e1 q3 q4
    have F := NxF_t F12 F3
    have S3 : ScopeM s h3 := ScopeM_x (d := 0) (MdX_n F) S
    have T3 := TermM_n F T
    have r' := rr.trans q5
    have bb := bitsS_b ⟨sb.2.2.1, sb.2.2.2⟩
    rw [d1]
    have st46 : ((some (some (.int (iI (1))), h3) : Option mx_O).bind fun o => mx_D (9, mm_X11_declare, 46, [.ref 47, .long lo, mx_junk, .int (iI (so)), mx_junk], o.1.toList ++ []) o.2) = mx_D (9, mm_X11_declare, 59, [.ref 47, .long lo, mx_junk, .int (iI (so)), mx_junk], [.int (iI (bitsS so)), .int (iI ((sBi s : Int)))]) h3 := by
      refine Eq.trans (e_X11_declare_46 (s0 := iI 1) ..) ?_
      rw [if_neg (show ¬ iI 1 = 0 by decide), X11_allBits_c S3 T3 B1 hc]
      refine Eq.trans (e_X11_declare_55 ..) ?_
      rw [X11_bitsOf_c _ ⟨sb.2.2.1, sb.2.2.2⟩, ho]
      rfl
    rw [st46, e_X11_declare_59, ii_add]
    by_cases q : 8 < (sBi s : Int) + bitsS so
    · have rv : rfs 4 so s n ts = -1000 := by unfold rfs; rw [if_pos (Or.inl ⟨rfl, q⟩)]
      refine PfO_r r' (by rw [rv]; decide) ?_ (F.1 47 7 (by decide)) (MdX_n F) T3 (Nat.le_refl _) (fun _ _ => rfl)
      rw [if_neg (fun z => by have := (ii_le (b := 8) (by omega)).mp z; omega), rv]
      rfl
    rw [if_pos (show iI ((sBi s : Int) + bitsS so) ≤ 8 from (ii_le (b := 8) (by omega)).mpr (by omega))]
    have rv0 : rfs 4 so s n ts = if 60 < n + 1 ∨ 2 < hv ts n then -1001 else 0 := by unfold rfs; rw [if_neg (by omega)]; rfl
    have shm : shp (0, so, -1, -1, -1, (sr : Int), 0, (sBi s : Int)) := by
      unfold shp
      dsimp only [tk, tS, tx, ty, tz, tp, tq, to]
      refine ⟨by omega, by omega, by omega, by omega, by omega, by decide, by decide, by decide, by omega, by omega, by omega, by omega, fun _ => rfl, fun z => absurd rfl z⟩
    have hE : ∀ t, t < n → tk (ts t) = tk (0, so, -1, -1, -1, (sr : Int), 0, (sBi s : Int)) → tS (ts t) = tS (0, so, -1, -1, -1, (sr : Int), 0, (sBi s : Int)) → tx (ts t) = tx (0, so, -1, -1, -1, (sr : Int), 0, (sBi s : Int)) → ty (ts t) = ty (0, so, -1, -1, -1, (sr : Int), 0, (sBi s : Int)) → tz (ts t) = tz (0, so, -1, -1, -1, (sr : Int), 0, (sBi s : Int)) → tp (ts t) = tp (0, so, -1, -1, -1, (sr : Int), 0, (sBi s : Int)) → tq (ts t) = tq (0, so, -1, -1, -1, (sr : Int), 0, (sBi s : Int)) → ts t = (0, so, -1, -1, -1, (sr : Int), 0, (sBi s : Int)) := by
      intro t ht z1 _ _ _ _ z6 _
      have z1 : tk (ts t) = 0 := z1
      have z6 : tp (ts t) = sr := z6
      have := hp t ht z1
      omega
    have fn : fnd ts (0, so, -1, -1, -1, (sr : Int), 0, (sBi s : Int)) n 0 = none := by
      cases y : fnd ts (0, so, -1, -1, -1, (sr : Int), 0, (sBi s : Int)) n 0 with
      | none => rfl
      | some t =>
        have b := fnd_b _ _ _ y
        have := hp t (by omega) (by rw [b.2.2]; rfl)
        rw [b.2.2] at this
        have : (sr : Int) < sr := this
        omega
    have mI : mkI n ts (0, so, -1, -1, -1, (sr : Int), 0, (sBi s : Int)) = n := by unfold mkI; rw [fn]; rfl
    have mN : mkN n ts (0, so, -1, -1, -1, (sr : Int), 0, (sBi s : Int)) = n + 1 := by unfold mkN; rw [fn]; rfl
    obtain ⟨h4, g1, T4, M4⟩ := X11_make_c T3 (by omega) W.2 shm hE
    rw [mI] at g1
    rw [mN] at T4
    have hv1 : hv (mkT n ts (0, so, -1, -1, -1, (sr : Int), 0, (sBi s : Int))) (n + 1) = hv ts n := by
      have hvE : ∀ k, k ≤ n → hv (mkT n ts (0, so, -1, -1, -1, (sr : Int), 0, (sBi s : Int))) k = hv ts k := by
        intro k
        induction k with
        | zero => intro _; rfl
        | succ k ih =>
          intro hk
          have e1 : hv (mkT n ts (0, so, -1, -1, -1, (sr : Int), 0, (sBi s : Int))) (k + 1) = hv (mkT n ts (0, so, -1, -1, -1, (sr : Int), 0, (sBi s : Int))) k + if 19 ≤ tk (mkT n ts (0, so, -1, -1, -1, (sr : Int), 0, (sBi s : Int)) k) ∧ tk (mkT n ts (0, so, -1, -1, -1, (sr : Int), 0, (sBi s : Int)) k) ≤ 21 then 1 else 0 := rfl
          have e2 : hv ts (k + 1) = hv ts k + if 19 ≤ tk (ts k) ∧ tk (ts k) ≤ 21 then 1 else 0 := rfl
          rw [e1, e2, ih (by omega), mt_old (by omega)]
      have e1 : hv (mkT n ts (0, so, -1, -1, -1, (sr : Int), 0, (sBi s : Int))) (n + 1) = hv (mkT n ts (0, so, -1, -1, -1, (sr : Int), 0, (sBi s : Int))) n + if 19 ≤ tk (mkT n ts (0, so, -1, -1, -1, (sr : Int), 0, (sBi s : Int)) n) ∧ tk (mkT n ts (0, so, -1, -1, -1, (sr : Int), 0, (sBi s : Int)) n) ≤ 21 then 1 else 0 := rfl
      rw [e1, hvE n (Nat.le_refl _), mt_new]
      rfl
    have h17' : h3.1 47 17 = iI (sr : Int) := (F.1 47 17 (by decide)).trans h17
    rw [h17', show mx_C mm_X11_make [.ref 47, .int 0, .int (iI (so)), .int (-1), .int (-1), .int (-1), .int (iI ((sr : Int))), .int 0] h3 = _ from g1]
    have st83 : ((some (some (.int (iI ((n : Int)))), h4) : Option mx_O).bind fun o => mx_D (9, mm_X11_declare, 83, [.ref 47, .long lo, mx_junk, .int (iI (so)), mx_junk], o.1.toList ++ []) o.2) = mx_D (9, mm_X11_declare, 89, [.ref 47, .long lo, mx_junk, .int (iI (so)), .int (iI ((n : Int)))], [.int (bI (decide (60 < n + 1 ∨ 2 < hv ts n)))]) h4 := by
      refine Eq.trans (e_X11_declare_83 ..) ?_
      rw [X11_tooMany_c T4, hv1]
      rfl
    rw [st83, e_X11_declare_89]
    have X4 : MdX 0 h h4 := MdX_t (Nat.le_refl _) (MdX_n F) (MdX_m M4)
    have b7 : h4.1 47 7 = h.1 47 7 := (M4.1 47 7 (by decide) (by omega)).trans (F.1 47 7 (by decide))
    by_cases q' : 60 < n + 1 ∨ 2 < hv ts n
    · have rv : rfs 4 so s n ts = -1001 := by rw [rv0, if_pos q']
      refine PfO_r r' (by rw [rv]; decide) ?_ b7 X4 T4 (by omega) (fun i hi => mt_old hi)
      rw [decide_eq_true q', if_neg (show ¬ bI true = 0 by decide), rv]
      rfl
    · have rv : rfs 4 so s n ts = 0 := by rw [rv0, if_neg q']
      have cm : cmd c len s n ts sr = (((sNc s + 1 : Nat) : Int), some (scDecl s (jL c len 2) n (bitsS so).toNat, n + 1, mkT n ts (0, so, -1, -1, -1, (sr : Int), 0, (sBi s : Int)), sr + 1)) := by
        unfold cmd
        rw [r']
        dsimp only
        rw [if_pos rv]
        rfl
      have S4 : ScopeM s h4 := ScopeM_x X4 S
      obtain ⟨s1, s2, s3, s4, s5, s6⟩ := id S4
      have h17'' : h4.1 47 17 = iI (sr : Int) := (M4.1 47 17 (by decide) (by omega)).trans h17'
      have n28 : (iI (sNc s : Int)).toNatClampNeg = sNc s := by rw [ii_cl (by omega)]; exact Int.toNat_natCast _
      have w : ∀ a k, (a ≠ 47 ∨ (k ≠ 17 ∧ k ≠ 28)) → (a ≠ 64 ∨ k ≠ sNc s) → mx_u (mx_u (mx_u h4.1 47 17 (iI ((sr + 1 : Nat) : Int))) 64 (sNc s) (iI (n : Int))) 47 28 (iI ((sNc s + 1 : Nat) : Int)) a k = h4.1 a k := by
        intro a k z1 z2
        dsimp only [mx_u]
        rw [if_neg (by omega), if_neg (by omega), if_neg (by omega)]
      have wl : ∀ a k, (a ≠ 63 ∨ k ≠ sNc s) → mx_u h4.2.1 63 (sNc s) lo a k = h4.2.1 a k := by
        intro a k z
        dsimp only [mx_u]
        rw [if_neg (by omega)]
      refine PfO_d (h' := (mx_u (mx_u (mx_u h4.1 47 17 (iI ((sr + 1 : Nat) : Int))) 64 (sNc s) (iI (n : Int))) 47 28 (iI ((sNc s + 1 : Nat) : Int)), mx_u h4.2.1 63 (sNc s) lo, h4.2.2)) r' rv cm ?_ (by omega) ((w 47 7 (by decide) (by omega)).trans b7) (TermM_e (w 47 9 (by decide) (by omega)) (fun a k p q => w a k (by omega) (by omega)) T4) ?_ ?_ ?_ ((w 47 38 (by decide) (by omega)).trans (X4.2.1 38 (by decide) (by decide) (by decide) (by decide) (by decide) (by decide) (by decide) (by decide)))
      · rw [decide_eq_false q', if_pos (show bI false = 0 from rfl), h17'', ii_s1]
        have u1 : mx_u h4.1 47 17 (iI ((sr + 1 : Nat) : Int)) 47 28 = iI (sNc s : Int) := by rw [mu_k _ _ (by decide)]; exact s1
        rw [u1, n28, if_pos (in_t (n := 12) (by omega)), if_pos (in_t (n := 12) (by omega)), mu_c _ _ _ _ (show (47 : Nat) ≠ 64 by decide), u1, ii_s1, mu_s]
      · refine ⟨?_, (w 47 31 (by decide) (by omega)).trans s2, (w 47 33 (by decide) (by omega)).trans s3, fun i hi => ?_, fun i hi => (w 65 i (by omega) (by omega)).trans (s5 i hi), fun i hi => ⟨(w 66 i (by omega) (by omega)).trans (s6 i hi).1, (w 67 i (by omega) (by omega)).trans (s6 i hi).2⟩⟩
        · dsimp only; rw [mu_s]; rfl
        · have hi : i < sNc s + 1 := hi
          show mx_u h4.2.1 63 (sNc s) lo 63 i = loL (if i = sNc s then jL c len 2 else sNm s i) ∧ mx_u (mx_u (mx_u h4.1 47 17 (iI ((sr + 1 : Nat) : Int))) 64 (sNc s) (iI (n : Int))) 47 28 (iI ((sNc s + 1 : Nat) : Int)) 64 i = iI (((if i = sNc s then n else sCt s i) : Nat) : Int)
          by_cases z : i = sNc s
          · rw [z, if_pos rfl, if_pos rfl, mu_s, mu_c _ _ _ _ (by decide), mu_s, hlo]
            exact ⟨rfl, rfl⟩
          · rw [if_neg z, if_neg z, w 64 i (by omega) (by omega), wl 63 i (by omega)]
            exact s4 i (by omega)
      · dsimp only; rw [mu_k _ _ (by decide), mu_c _ _ _ _ (by decide), mu_s]
      · refine CmY_t (CmY_x X4) ⟨fun a k z => ?_, fun a k z => ?_, rfl⟩
        · dsimp only
          rw [w a k (by omega) (by omega)]
        · dsimp only
          rw [wl a k (by omega)]
end MC
