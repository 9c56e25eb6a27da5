/-! the reference's command -/
def SltM (n : Nat) (ts : Nat → Tm) (f : Nat → Nat → Int32) : Prop := f 47 8 = iI (n : Int) ∧ n ≤ 130 ∧ ∀ t, t < n → SlotM (ts t) t f ∧ shp (ts t)
/-- what commands of the reference leave alone -/
def CmY (h h' : mx_H) : Prop := (∀ a k, a < 47 ∨ 68 ≤ a → h'.1 a k = h.1 a k) ∧ (∀ a k, a < 47 ∨ 68 ≤ a → h'.2.1 a k = h.2.1 a k) ∧ h'.2.2 = h.2.2
theorem CmY_x {d : Nat} {h h' : mx_H} (X : MdX d h h') : CmY h h' := ⟨fun a k z => X.1 a k (by omega), fun a k z => X.2.2.2.2.1 a k (by omega) (by omega), X.2.2.2.2.2⟩
theorem CmY_t {h h1 h2 : mx_H} (a : CmY h h1) (b : CmY h1 h2) : CmY h h2 := ⟨fun x k z => by rw [b.1 x k z, a.1 x k z], fun x k z => by rw [b.2.1 x k z, a.2.1 x k z], by rw [b.2.2, a.2.2]⟩
theorem CmY_r {h : mx_H} : CmY h h := ⟨fun _ _ _ => rfl, fun _ _ _ => rfl, rfl⟩
/-- what perform comes to -/
def PfO (c : Nat → Int) (len : Nat) (s : Sc) (n : Nat) (ts : Nat → Tm) (sr : Nat) (h : mx_H) (X : Option mx_O) : Prop := match rdC c len s n ts with
  | .inl e => ∃ h' v, X = some (some (.int (iI (v))), h') ∧ h'.1 47 7 = iI (jB c len e : Int) ∧ v < 0 ∧ -2000 < v ∧ MdX 0 h h' ∧ ∃ n' ts', TermM n' ts' h'.1 ∧ n ≤ n' ∧ ∀ i, i < n → ts' i = ts i
  | .inr (w, L, so, t, n', ts') => if rfs w so s n' ts' = 0 then (∃ h' a s' n2 ts2 sr', cmd c len s n ts sr = (a, some (s', n2, ts2, sr')) ∧ X = some (some (.int (iI (a))), h') ∧ 0 ≤ a ∧ a < 2000 ∧ h'.1 47 7 = h.1 47 7 ∧ TermM n2 ts2 h'.1 ∧ ScopeM s' h' ∧ h'.1 47 17 = iI (sr' : Int) ∧ CmY h h' ∧ h'.1 47 38 = h.1 47 38)
    else (∃ h', X = some (some (.int (iI (rfs w so s n' ts'))), h') ∧ h'.1 47 7 = h.1 47 7 ∧ MdX 0 h h' ∧ ∃ n2 ts2, TermM n2 ts2 h'.1 ∧ n ≤ n2 ∧ ∀ i, i < n → ts2 i = ts i)
section MC
variable {c : Nat → Int} {len n : Nat} {s : Sc} {A : Nat → Prop} {ts : Nat → Tm} {h : mx_H}
theorem PfO_f {sr e : Nat} {v : Int} {X : Option mx_O} {h' : mx_H} {n' : Nat} {ts' : Nat → Tm} (r : rdC c len s n ts = .inl e) (hX : X = some (some (.int (iI (v))), h')) (hv : v < 0 ∧ -2000 < v) (h7 : h'.1 47 7 = iI (jB c len e : Int)) (Y : MdX 0 h h') (T : TermM n' ts' h'.1) (hn : n ≤ n') (ho : ∀ i, i < n → ts' i = ts i) : PfO c len s n ts sr h X := by
  unfold PfO
  rw [r]
  exact ⟨h', v, hX, h7, hv.1, hv.2, Y, n', ts', T, hn, ho⟩
theorem PfO_r {sr w : Nat} {L : List Nat} {so : Int} {t n1 : Nat} {ts1 : Nat → Tm} {X : Option mx_O} {h' : mx_H} {n' : Nat} {ts' : Nat → Tm} (r : rdC c len s n ts = .inr (w, L, so, t, n1, ts1)) (q : ¬ rfs w so s n1 ts1 = 0) (hX : X = some (some (.int (iI (rfs w so s n1 ts1))), h')) (h7 : h'.1 47 7 = h.1 47 7) (Y : MdX 0 h h') (T : TermM n' ts' h'.1) (hn : n ≤ n') (ho : ∀ i, i < n → ts' i = ts i) : PfO c len s n ts sr h X := by
  unfold PfO
  rw [r]
  dsimp only
  rw [if_neg q]
  exact ⟨h', hX, h7, Y, n', ts', T, hn, ho⟩
theorem PfO_d {sr w : Nat} {L : List Nat} {so : Int} {t n1 : Nat} {ts1 : Nat → Tm} {X : Option mx_O} {h' : mx_H} {a : Int} {s' : Sc} {n2 sr' : Nat} {ts2 : Nat → Tm} (r : rdC c len s n ts = .inr (w, L, so, t, n1, ts1)) (q : rfs w so s n1 ts1 = 0) (hc : cmd c len s n ts sr = (a, some (s', n2, ts2, sr'))) (hX : X = some (some (.int (iI (a))), h')) (ha : 0 ≤ a ∧ a < 2000) (h7 : h'.1 47 7 = h.1 47 7) (T : TermM n2 ts2 h'.1) (S : ScopeM s' h') (h17 : h'.1 47 17 = iI (sr' : Int)) (Y : CmY h h') (h38 : h'.1 47 38 = h.1 47 38) : PfO c len s n ts sr h X := by
  unfold PfO
  rw [r]
  dsimp only
  rw [if_pos q]
  exact ⟨h', a, s', n2, ts2, sr', hc, hX, ha.1, ha.2, h7, T, S, h17, Y, h38⟩
/-- rdE against ends -/
theorem rdE_c {j : Nat} (r : Nat × List Nat × Int × Nat × Nat × (Nat → Tm)) : (jO c len j 41 = true ∧ jB c len (j + 1) = len ∧ rdE c len j r = .inr r) ∨ ∃ e, rdE c len j r = .inl e ∧ ((¬ jO c len j 41 = true ∧ e = j) ∨ (jO c len j 41 = true ∧ ¬ jB c len (j + 1) = len ∧ e = j + 1)) := by
  unfold rdE
  by_cases q1 : jO c len j 41 = true
  · rw [if_neg (fun z => z q1)]
    by_cases q2 : jB c len (j + 1) = len
    · rw [if_pos q2]; exact Or.inl ⟨q1, q2, rfl⟩
    · rw [if_neg q2]; exact Or.inr ⟨_, rfl, Or.inr ⟨q1, q2, rfl⟩⟩
  · rw [if_pos q1]; exact Or.inr ⟨_, rfl, Or.inl ⟨q1, rfl⟩⟩
theorem X11_open_c {sr : Nat} (hB : ScB s) (hn : n ≤ 60) (hh : hv ts n ≤ 2) (r : rdC c len s n ts = rdE c len 2 (6, [], 0, 0, n, ts)) (J : TkJ c len 2 h) (S : ScopeM s h) (T : TermM n ts h.1) (h17 : h.1 47 17 = iI (sr : Int)) : PfO c len s n ts sr h (mx_C mm_X11_open [.ref 47] h) := by
  obtain ⟨e1, e2⟩ := X11_ends_c J
  obtain ⟨B1, B2, B3, B4, _⟩ := hB
  rw [c_X11_open, e_X11_open_0]
  rcases rdE_c (c := c) (len := len) (j := 2) (6, [], 0, 0, n, ts) with ⟨q1, q2, q3⟩ | ⟨e, q3, q4⟩
  rotate_left
  · obtain ⟨h1, a1, a2, a3⟩ := e2 e q4
    rw [a1]
    refine PfO_f (v := -1) (r.trans q3) ?_ (by decide) a2 (MdX_b a3) (TermM_e (a3.1 47 9 (by decide)) (fun a k p q => a3.1 a k (by omega)) T) (Nat.le_refl _) (fun _ _ => rfl)
    refine Eq.trans (e_X11_open_4 (s0 := iI 0) ..) ?_
    rw [if_pos (show iI 0 = 0 from rfl)]
    rfl
  obtain ⟨h1, a1, J1, F1⟩ := e1 q1 q2
  have S1 : ScopeM s h1 := ScopeM_x (d := 0) (MdX_n F1) S
  have T1 := TermM_n F1 T
  obtain ⟨s1, s2, s3, s4, s5, s6⟩ := id S1
  rw [a1]
  have r' := r.trans q3
  by_cases q : 4 ≤ sNs s
  · have rv : rfs 6 0 s n ts = -1000 := by unfold rfs; rw [if_pos (Or.inr (Or.inr (Or.inl ⟨rfl, q⟩)))]
    refine PfO_r r' (by rw [rv]; decide) ?_ (F1.1 47 7 (by decide)) (MdX_n F1) T1 (Nat.le_refl _) (fun _ _ => rfl)
    refine Eq.trans (e_X11_open_4 (s0 := iI 1) ..) ?_
    dsimp only
    rw [if_neg (show ¬ iI 1 = 0 by decide), s3, if_neg (show ¬ iI (sNs s : Int) < 4 from fun z => by have := (ii_lt (b := 4) (by omega)).mp z; omega), rv]
    rfl
  · have rv : rfs 6 0 s n ts = 0 := by unfold rfs; rw [if_neg (by omega), if_neg (by show ¬ (60 < n + 0 ∨ 2 < hv ts n); omega)]
    have cm : cmd c len s n ts sr = (((sNs s + 1 : Nat) : Int), some (scOpen s, n, ts, sr)) := by
      unfold cmd
      rw [r']
      dsimp only
      rw [if_pos rv]
      rfl
    have n33 : (iI (sNs s : Int)).toNatClampNeg = sNs s := by rw [ii_cl (by omega)]; exact Int.toNat_natCast _
    have w : ∀ a k, (a ≠ 47 ∨ k ≠ 33) → ((a ≠ 66 ∧ a ≠ 67) ∨ k ≠ sNs s) → mx_u (mx_u (mx_u h1.1 66 (sNs s) (iI (sNc s : Int))) 67 (sNs s) (iI (sNa s : Int))) 47 33 (iI ((sNs s + 1 : Nat) : Int)) a k = h1.1 a k := by
      intro a k z1 z2
      dsimp only [mx_u]
      rw [if_neg (by omega), if_neg (by omega), if_neg (by omega)]
    refine PfO_d (h' := (mx_u (mx_u (mx_u h1.1 66 (sNs s) (iI (sNc s : Int))) 67 (sNs s) (iI (sNa s : Int))) 47 33 (iI ((sNs s + 1 : Nat) : Int)), h1.2.1, h1.2.2)) r' rv cm ?_ (by omega) ((w 47 7 (by decide) (by omega)).trans (F1.1 47 7 (by decide))) (TermM_e (w 47 9 (by decide) (by omega)) (fun a k p q => w a k (by omega) (by omega)) T1) ?_ ((w 47 17 (by decide) (by omega)).trans ((F1.1 47 17 (by decide)).trans h17)) ?_ ((w 47 38 (by decide) (by omega)).trans (F1.1 47 38 (by decide)))
    · refine Eq.trans (e_X11_open_4 (s0 := iI 1) ..) ?_
      dsimp only
      rw [if_neg (show ¬ iI 1 = 0 by decide), s3, if_pos (show iI (sNs s : Int) < 4 from (ii_lt (b := 4) (by omega)).mpr (by omega)), if_pos (in_t (n := 4) (by omega)), n33, s1]
      rw [mu_c _ _ _ _ (show (47 : Nat) ≠ 66 by decide), s3, if_pos (in_t (n := 4) (by omega)), n33, mu_c _ _ _ _ (show (47 : Nat) ≠ 66 by decide), s2, mu_c _ _ _ _ (show (47 : Nat) ≠ 67 by decide), mu_c _ _ _ _ (show (47 : Nat) ≠ 66 by decide), s3, ii_s1, mu_s]
    · refine ⟨(w 47 28 (by decide) (by omega)).trans s1, (w 47 31 (by decide) (by omega)).trans s2, ?_, fun i hi => ⟨(s4 i hi).1, (w 64 i (by omega) (by omega)).trans (s4 i hi).2⟩, fun i hi => (w 65 i (by omega) (by omega)).trans (s5 i hi), fun i hi => ?_⟩
      · dsimp only; rw [mu_s]; rfl
      · have hi : i < sNs s + 1 := hi
        show mx_u (mx_u (mx_u h1.1 66 (sNs s) (iI (sNc s : Int))) 67 (sNs s) (iI (sNa s : Int))) 47 33 (iI ((sNs s + 1 : Nat) : Int)) 66 i = iI (((if i = sNs s then sNc s else sCb s i) : Nat) : Int) ∧ mx_u (mx_u (mx_u h1.1 66 (sNs s) (iI (sNc s : Int))) 67 (sNs s) (iI (sNa s : Int))) 47 33 (iI ((sNs s + 1 : Nat) : Int)) 67 i = iI (((if i = sNs s then sNa s else sAb s i) : Nat) : Int)
        by_cases z : i = sNs s
        · rw [z, if_pos rfl, if_pos rfl, mu_c _ _ _ _ (by decide), mu_c _ _ _ _ (by decide), mu_s, mu_c _ _ _ _ (by decide), mu_s]
          exact ⟨rfl, rfl⟩
        · rw [if_neg z, if_neg z, w 66 i (by omega) (by omega), w 67 i (by omega) (by omega)]
          exact s6 i (by omega)
    · refine ⟨fun a k z => ?_, fun a k z => F1.2.1 a k (by omega), F1.2.2⟩
      dsimp only
      rw [w a k (by omega) (by omega), F1.1 a k (by omega)]
theorem X11_shut_c {sr : Nat} (hB : ScB s) (hn : n ≤ 60) (hh : hv ts n ≤ 2) (hcb : 0 < sNs s → sCb s (sNs s - 1) ≤ sNc s ∧ sAb s (sNs s - 1) ≤ sNa s) (r : rdC c len s n ts = rdE c len 2 (7, [], 0, 0, n, ts)) (J : TkJ c len 2 h) (S : ScopeM s h) (T : TermM n ts h.1) (h17 : h.1 47 17 = iI (sr : Int)) : PfO c len s n ts sr h (mx_C mm_X11_shut [.ref 47] h) := by
  obtain ⟨e1, e2⟩ := X11_ends_c J
  obtain ⟨B1, B2, B3, B4, B5, B6, B7⟩ := hB
  rw [c_X11_shut, e_X11_shut_0]
  rcases rdE_c (c := c) (len := len) (j := 2) (7, [], 0, 0, n, ts) with ⟨q1, q2, q3⟩ | ⟨e, q3, q4⟩
  rotate_left
  · obtain ⟨h1, a1, a2, a3⟩ := e2 e q4
    rw [a1]
    refine PfO_f (v := -1) (r.trans q3) ?_ (by decide) a2 (MdX_b a3) (TermM_e (a3.1 47 9 (by decide)) (fun a k p q => a3.1 a k (by omega)) T) (Nat.le_refl _) (fun _ _ => rfl)
    refine Eq.trans (e_X11_shut_4 (s0 := iI 0) ..) ?_
    rw [if_pos (show iI 0 = 0 from rfl)]
    rfl
  obtain ⟨h1, a1, J1, F1⟩ := e1 q1 q2
  have S1 : ScopeM s h1 := ScopeM_x (d := 0) (MdX_n F1) S
  have T1 := TermM_n F1 T
  obtain ⟨s1, s2, s3, s4, s5, s6⟩ := id S1
  rw [a1]
  have r' := r.trans q3
  by_cases q : sNs s = 0
  · have rv : rfs 7 0 s n ts = -1000 := by unfold rfs; rw [if_pos (Or.inr (Or.inr (Or.inr ⟨rfl, q⟩)))]
    refine PfO_r r' (by rw [rv]; decide) ?_ (F1.1 47 7 (by decide)) (MdX_n F1) T1 (Nat.le_refl _) (fun _ _ => rfl)
    refine Eq.trans (e_X11_shut_4 (s0 := iI 1) ..) ?_
    dsimp only
    rw [if_neg (show ¬ iI 1 = 0 by decide), s3, q, if_pos (by decide), rv]
    rfl
  · have rv : rfs 7 0 s n ts = 0 := by unfold rfs; rw [if_neg (by omega), if_neg (by show ¬ (60 < n + 0 ∨ 2 < hv ts n); omega)]
    have cm : cmd c len s n ts sr = (((sNs s - 1 : Nat) : Int), some (scShut s, n, ts, sr)) := by
      unfold cmd
      rw [r']
      dsimp only
      rw [if_pos rv]
      rfl
    have hc := hcb (by omega)
    have e33 : iI (sNs s : Int) - 1 = iI ((sNs s - 1 : Nat) : Int) := (ii_sub _ 1).trans (congrArg iI (by omega))
    have n33 : (iI ((sNs s - 1 : Nat) : Int)).toNatClampNeg = sNs s - 1 := by rw [ii_cl (by omega)]; exact Int.toNat_natCast _
    obtain ⟨g1, g2⟩ := s6 (sNs s - 1) (by omega)
    have w : ∀ a k, (a ≠ 47 ∨ (k ≠ 33 ∧ k ≠ 28 ∧ k ≠ 31)) → mx_u (mx_u (mx_u h1.1 47 33 (iI ((sNs s - 1 : Nat) : Int))) 47 28 (iI (sCb s (sNs s - 1) : Int))) 47 31 (iI (sAb s (sNs s - 1) : Int)) a k = h1.1 a k := by
      intro a k z1
      dsimp only [mx_u]
      rw [if_neg (by omega), if_neg (by omega), if_neg (by omega)]
    refine PfO_d (h' := (mx_u (mx_u (mx_u h1.1 47 33 (iI ((sNs s - 1 : Nat) : Int))) 47 28 (iI (sCb s (sNs s - 1) : Int))) 47 31 (iI (sAb s (sNs s - 1) : Int)), h1.2.1, h1.2.2)) r' rv cm ?_ (by omega) ((w 47 7 (by decide)).trans (F1.1 47 7 (by decide))) (TermM_e (w 47 9 (by decide)) (fun a k p q => w a k (by omega)) T1) ?_ ((w 47 17 (by decide)).trans ((F1.1 47 17 (by decide)).trans h17)) ?_ ((w 47 38 (by decide)).trans (F1.1 47 38 (by decide)))
    · refine Eq.trans (e_X11_shut_4 (s0 := iI 1) ..) ?_
      dsimp only
      rw [if_neg (show ¬ iI 1 = 0 by decide), s3, if_neg (show ¬ iI (sNs s : Int) = 0 from fun z => by have := (ii_eq (b := 0) (by omega) (by decide)).mp z; omega), e33]
      have t1 : mx_u h1.1 47 33 (iI ((sNs s - 1 : Nat) : Int)) 47 33 = iI ((sNs s - 1 : Nat) : Int) := mu_s _ _ _ _
      rw [t1, n33, if_pos (in_t (n := 4) (by omega)), mu_c _ _ _ _ (show (66 : Nat) ≠ 47 by decide), g1]
      have t2 : mx_u (mx_u h1.1 47 33 (iI ((sNs s - 1 : Nat) : Int))) 47 28 (iI (sCb s (sNs s - 1) : Int)) 47 33 = iI ((sNs s - 1 : Nat) : Int) := by rw [mu_k _ _ (by decide), mu_s]
      rw [t2, n33, if_pos (in_t (n := 4) (by omega)), mu_c _ _ _ _ (show (67 : Nat) ≠ 47 by decide), mu_c _ _ _ _ (show (67 : Nat) ≠ 47 by decide), g2, mu_k _ _ (show (33 : Nat) ≠ 31 by decide), t2]
    · refine ⟨?_, ?_, ?_, fun i hi => ?_, fun i hi => ?_, fun i hi => ?_⟩
      · dsimp only; rw [mu_k _ _ (by decide), mu_s]; rfl
      · dsimp only; rw [mu_s]; rfl
      · dsimp only; rw [mu_k _ _ (by decide), mu_k _ _ (by decide), mu_s]; rfl
      · have hi : i < sCb s (sNs s - 1) := hi
        exact ⟨(s4 i (by omega)).1, (w 64 i (by omega)).trans (s4 i (by omega)).2⟩
      · have hi : i < sAb s (sNs s - 1) := hi
        exact (w 65 i (by omega)).trans (s5 i (by omega))
      · have hi : i < sNs s - 1 := hi
        exact ⟨(w 66 i (by omega)).trans (s6 i (by omega)).1, (w 67 i (by omega)).trans (s6 i (by omega)).2⟩
    · refine ⟨fun a k z => ?_, fun a k z => F1.2.1 a k (by omega), F1.2.2⟩
      dsimp only
      rw [w a k (by omega), F1.1 a k (by omega)]
end MC
