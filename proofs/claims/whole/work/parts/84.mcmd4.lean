/-! the reference's perform and command -/
/-- what both programs hold: scopes, terms, serial -/
def WS (s : Sc) (n : Nat) (ts : Nat → Tm) (sr : Nat) : Prop := ScB s ∧ NmS s ∧ n ≤ 60 ∧ hv ts n ≤ 2 ∧ sr ≤ n ∧ WF n ts ∧ (∀ i, i < sNc s → sCt s i < n ∧ tk (ts (sCt s i)) = 0 ∧ to (ts (sCt s i)) = off s ts i) ∧ (∀ i k, i < k → k < sNc s → sCt s i < sCt s k) ∧ off s ts (sNc s) = (sBi s : Int) ∧ (∀ t, t < n → tk (ts t) = 0 → tp (ts t) < sr) ∧
  (∀ k, k < sNa s → al n ts (fun u => ∃ i, i < sNc s ∧ sCt s i = u) (sAt s k) ∧ tS (ts (sAt s k)) = 0) ∧
  (∀ i, i < sNs s → sCb s i ≤ sNc s ∧ sAb s i ≤ sNa s ∧ (sBb s i : Int) = off s ts (sCb s i) ∧ ∀ k, k < sAb s i → al n ts (fun u => ∃ x, x < sCb s i ∧ sCt s x = u) (sAt s k)) ∧
  (∀ i k, i < k → k < sNs s → sCb s i ≤ sCb s k ∧ sAb s i ≤ sAb s k)
def CsA (s : Sc) : Nat → Prop := fun u => ∃ i, i < sNc s ∧ sCt s i = u
section MC
variable {c : Nat → Int} {len n : Nat} {s : Sc} {ts : Nat → Tm} {h : mx_H}
theorem al_self {A : Nat → Prop} {t : Nat} (h1 : t < n) (h2 : A t) (h3 : shp (ts t)) (h4 : tk (ts t) = 0) : al n ts A t := by
  have z : np (tk (ts t)) = 0 := by rw [h4]; rfl
  refine ⟨fun u => u = t, rfl, fun u hu => ?_⟩
  subst hu
  obtain ⟨_, _, _, _, _, p1, p2, p3, _⟩ := h3
  exact ⟨h1, fun _ => h2, fun y => by omega, fun y => by omega, fun y => by omega⟩
theorem WS_pre {sr : Nat} (K : WS s n ts sr) (hl : len ≤ 120) : Pre c len s (CsA s) [] 2 n ts := by
  obtain ⟨k1, k2, k3, k4, k5, k6, k7, k8, k9, k10, k11, k12⟩ := K
  refine ⟨k6, by omega, ⟨fun i hi => ?_, fun p hp => by cases hp⟩, hl⟩
  obtain ⟨a1, a2, a3⟩ := k7 i hi
  exact al_self a1 ⟨i, hi, rfl⟩ (k6.1 _ a1).1 a2
theorem WS_cb {sr : Nat} (K : WS s n ts sr) : 0 < sNs s → sCb s (sNs s - 1) ≤ sNc s ∧ sAb s (sNs s - 1) ≤ sNa s := by
  intro z
  obtain ⟨k1, k2, k3, k4, k5, k6, k7, k8, k9, k10, k11, k12, k13⟩ := K
  have := k12 (sNs s - 1) (by omega)
  exact ⟨this.1, this.2.1⟩
theorem PfO_t {sr : Nat} {h1 : mx_H} {X : Option mx_O} (F : NxF h h1) (O : PfO c len s n ts sr h1 X) : PfO c len s n ts sr h X := by
  have z7 : h1.1 47 7 = h.1 47 7 := F.1 47 7 (by decide)
  have z38 : h1.1 47 38 = h.1 47 38 := F.1 47 38 (by decide)
  unfold PfO at O ⊢
  cases r : rdC c len s n ts with
  | inl e =>
    rw [r] at O
    obtain ⟨h', v, o1, o2, o3, o4, o5, o6⟩ := O
    exact ⟨h', v, o1, o2, o3, o4, MdX_t (Nat.le_refl _) (MdX_n F) o5, o6⟩
  | inr x =>
    obtain ⟨w, L, so, t, n1, ts1⟩ := x
    rw [r] at O
    dsimp only at O ⊢
    by_cases q : rfs w so s n1 ts1 = 0
    · rw [if_pos q] at O ⊢
      obtain ⟨h', a, s', n2, ts2, sr', o1, o2, o3, o4, o5, o6, o7, o8, o9, o10⟩ := O
      exact ⟨h', a, s', n2, ts2, sr', o1, o2, o3, o4, o5.trans z7, o6, o7, o8, CmY_t (CmY_x (MdX_n (d := 0) F)) o9, o10.trans z38⟩
    · rw [if_neg q] at O ⊢
      obtain ⟨h', o1, o2, o3, o4⟩ := O
      exact ⟨h', o1, o2.trans z7, MdX_t (Nat.le_refl _) (MdX_n F) o3, o4⟩
theorem X11_perform_c {sr : Nat} (K : WS s n ts sr) (T : TxtM c len h.1) (he : h.1 47 4 = iI 0) (S : ScopeM s h) (M : TermM n ts h.1) (h17 : h.1 47 17 = iI (sr : Int)) : PfO c len s n ts sr h (mx_C mm_X11_perform [.ref 47] h) := by
  obtain ⟨k1, k2, k3, k4, k5, k6, k7, k8, k9, k10, k11, k12⟩ := id K
  have P := WS_pre (c := c) (len := len) K T.2.2.1
  obtain ⟨h1, a1, tk1, F1⟩ := X11_next_c (e := 0) T he (Nat.zero_le _)
  have J1 : TkJ c len 0 h1 := ⟨TxtM_n F1 T, tk1⟩
  have S1 : ScopeM s h1 := ScopeM_x (d := 0) (MdX_n F1) S
  have M1 := TermM_n F1 M
  have z17 : h1.1 47 17 = iI (sr : Int) := (F1.1 47 17 (by decide)).trans h17
  rw [c_X11_perform, e_X11_perform_0, a1]
  refine PfO_t F1 ?_
  have s1 : h1.1 47 2 = iI (jS c len 0) := J1.2.2.2.1
  refine Eq.subst (motive := fun X => PfO c len s n ts sr h1 X) (e_X11_perform_4 ..).symm ?_
  dsimp only
  rw [s1]
  by_cases q1 : jO c len 0 40 = true
  rotate_left
  · have r : rdC c len s n ts = .inl 0 := by unfold rdC; rw [if_pos q1]
    rw [if_neg (jS_n1 (fun z => q1 (jS_1.mp z))), e_X11_perform_18, show mx_C mm_X11_pass [.ref 47, .int 0] h1 = _ from X11_pass_f J1]
    refine PfO_f (v := -1) (h' := (mx_u h1.1 47 7 (iI (jB c len 0 : Int)), h1.2.1, h1.2.2)) r ?_ (by decide) (by dsimp only; exact mu_s _ _ _ _) (MdX_u (by omega)) (TermM_e (by dsimp only; rw [mu_k _ _ (by decide)]) (fun a k p q => by dsimp only; rw [mu_c _ _ _ _ (by omega)]) M1) (Nat.le_refl _) (fun _ _ => rfl)
    refine Eq.trans (e_X11_perform_21 (s0 := iI 0) ..) ?_
    rw [if_pos (show iI 0 = 0 from rfl)]
    rfl
  rw [jS_1.mpr q1, if_pos (show iI 1 = 1 from rfl), e_X11_perform_18]
  obtain ⟨h2, a2, J2, F2⟩ := X11_pass_t J1 (x := 1) (by decide)
  rw [a2]
  refine PfO_t F2 ?_
  have S2 : ScopeM s h2 := ScopeM_x (d := 0) (MdX_n F2) S1
  have M2 := TermM_n F2 M1
  have z17 : h2.1 47 17 = iI (sr : Int) := (F2.1 47 17 (by decide)).trans z17
  have s2 : h2.1 47 2 = iI (jS c len 1) := J2.2.2.2.1
  -- which command
  have kd : ∃ (v1 : Int32) (k : Int), ((some (some (.int (iI (1))), h2) : Option mx_O).bind fun o => mx_D (11, mm_X11_perform, 21, [.ref 47, mx_junk, mx_junk], o.1.toList ++ []) o.2) = mx_D (11, mm_X11_perform, 155, [.ref 47, .int v1, mx_junk], [.int (iI (k))]) h2 ∧ ((k = 1 ∧ jW c len 1 = some 4) ∨ (k = 2 ∧ jW c len 1 = some 5) ∨ (k = 3 ∧ jW c len 1 = some 6) ∨ (k = 4 ∧ jW c len 1 = some 7) ∨ (k = 0 ∧ ¬ (jW c len 1 = some 4 ∨ jW c len 1 = some 5 ∨ jW c len 1 = some 6 ∨ jW c len 1 = some 7))) := by
    have e0 : ((some (some (.int (iI (1))), h2) : Option mx_O).bind fun o => mx_D (11, mm_X11_perform, 21, [.ref 47, mx_junk, mx_junk], o.1.toList ++ []) o.2) = _ := e_X11_perform_21 (s0 := iI 1) ..
    rw [e0, if_neg (show ¬ iI 1 = 0 by decide)]
    dsimp only
    rw [s2]
    by_cases p3 : jS c len 1 = 3
    · rw [p3, if_pos (show iI 3 = 3 from rfl), e_X11_perform_39, if_neg (c := (1 : Int32) = 0) (by decide), e_X11_perform_70, if_neg (c := (1 : Int32) = 0) (by decide), e_X11_perform_98, if_neg (c := (1 : Int32) = 0) (by decide), e_X11_perform_126, if_neg (c := (1 : Int32) = 0) (by decide), e_X11_perform_154]
      simp only [lg0]
      have c4 := jW_cmp J2 (w := 4) (lo := 3271146467110380900) (hi := 500152823651) (by decide) (by decide) (by decide) p3
      have c5 := jW_cmp J2 (w := 5) (lo := 128034677158753) (hi := 0) (by decide) (by decide) (by decide) p3
      have c6 := jW_cmp J2 (w := 6) (lo := 1752397168) (hi := 0) (by decide) (by decide) (by decide) p3
      have c7 := jW_cmp J2 (w := 7) (lo := 7368560) (hi := 0) (by decide) (by decide) (by decide) p3
      have el : ∀ (a b : Prop) [Decidable a] [Decidable b] (x y : Option mx_O), (if a then if b then x else y else y) = if a ∧ b then x else y := by
        intro a b _ _ x y
        by_cases p : a
        · by_cases q : b
          · rw [if_pos p, if_pos q, if_pos ⟨p, q⟩]
          · rw [if_pos p, if_neg q, if_neg (fun z => q z.2)]
        · rw [if_neg p, if_neg (fun z => p z.1)]
      rw [el, el, el, el]
      by_cases z4 : jW c len 1 = some 4
      · exact ⟨1, 1, by rw [if_pos (c4.mpr z4)]; rfl, Or.inl ⟨rfl, z4⟩⟩
      rw [if_neg (fun z => z4 (c4.mp z))]
      by_cases z5 : jW c len 1 = some 5
      · exact ⟨1, 2, by rw [if_pos (c5.mpr z5)]; rfl, Or.inr (Or.inl ⟨rfl, z5⟩)⟩
      rw [if_neg (fun z => z5 (c5.mp z))]
      by_cases z6 : jW c len 1 = some 6
      · exact ⟨1, 3, by rw [if_pos (c6.mpr z6)]; rfl, Or.inr (Or.inr (Or.inl ⟨rfl, z6⟩))⟩
      rw [if_neg (fun z => z6 (c6.mp z))]
      by_cases z7 : jW c len 1 = some 7
      · exact ⟨1, 4, by rw [if_pos (c7.mpr z7)]; rfl, Or.inr (Or.inr (Or.inr (Or.inl ⟨rfl, z7⟩)))⟩
      rw [if_neg (fun z => z7 (c7.mp z))]
      exact ⟨1, 0, rfl, Or.inr (Or.inr (Or.inr (Or.inr ⟨rfl, fun z => z.elim z4 (fun z => z.elim z5 (fun z => z.elim z6 z7))⟩)))⟩
    · rw [if_neg (jS_n3 p3), e_X11_perform_39, if_pos rfl, e_X11_perform_70, if_pos rfl, e_X11_perform_98, if_pos rfl, e_X11_perform_126, if_pos rfl, e_X11_perform_154]
      exact ⟨0, 0, rfl, Or.inr (Or.inr (Or.inr (Or.inr ⟨rfl, fun z => z.elim (fun y => p3 (jW_3 J2 y)) (fun z => z.elim (fun y => p3 (jW_3 J2 y)) (fun z => z.elim (fun y => p3 (jW_3 J2 y)) (fun y => p3 (jW_3 J2 y))))⟩)))⟩
  obtain ⟨v1, k, ke, kc⟩ := kd
  rw [ke, e_X11_perform_155]
  by_cases kz : k = 0
  · have nn : ¬ (jW c len 1 = some 4 ∨ jW c len 1 = some 5 ∨ jW c len 1 = some 6 ∨ jW c len 1 = some 7) := by
      rcases kc with z | z | z | z | z
      · omega
      · omega
      · omega
      · omega
      · exact z.2
    have r : rdC c len s n ts = .inl 1 := by
      unfold rdC
      rw [if_neg (fun z => z q1), if_neg (fun z => nn (Or.inr (Or.inr (Or.inl z)))), if_neg (fun z => nn (Or.inr (Or.inr (Or.inr z)))), if_neg (fun z => nn (Or.inl z)), if_neg (fun z => nn (Or.inr (Or.inl z)))]
    rw [kz, if_pos (show iI 0 ≤ 0 by decide), e_X11_perform_166, show mx_C mm_X11_pass [.ref 47, .int 0] h2 = _ from X11_pass_f J2]
    refine PfO_f (v := -1) (h' := (mx_u h2.1 47 7 (iI (jB c len 1 : Int)), h2.2.1, h2.2.2)) r ?_ (by decide) (by dsimp only; exact mu_s _ _ _ _) (MdX_u (by omega)) (TermM_e (by dsimp only; rw [mu_k _ _ (by decide)]) (fun a k p q => by dsimp only; rw [mu_c _ _ _ _ (by omega)]) M2) (Nat.le_refl _) (fun _ _ => rfl)
    refine Eq.trans (e_X11_perform_169 (s0 := iI 0) ..) ?_
    rw [if_pos (show iI 0 = 0 from rfl)]
    rfl
  have kb : 1 ≤ k ∧ k ≤ 4 := by
    rcases kc with z | z | z | z | z <;> omega
  rw [if_neg (show ¬ iI k ≤ 0 from fun z => by have := (ii_le (b := 0) (by omega)).mp z; omega), e_X11_perform_166]
  obtain ⟨h3, a3, J3, F3⟩ := X11_pass_t J2 (x := 1) (by decide)
  rw [a3]
  refine PfO_t F3 ?_
  have S3 : ScopeM s h3 := ScopeM_x (d := 0) (MdX_n F3) S2
  have M3 := TermM_n F3 M2
  have z17 : h3.1 47 17 = iI (sr : Int) := (F3.1 47 17 (by decide)).trans z17
  refine Eq.subst (motive := fun X => PfO c len s n ts sr h3 X) (e_X11_perform_169 (s0 := iI 1) ..).symm ?_
  rw [if_neg (show ¬ iI 1 = 0 by decide)]
  have pass : ∀ (m : mx_M) (g : mx_O → Option mx_O), (∀ v h'', g (some (.int v), h'') = some (some (.int v), h'')) → ∀ X, PfO c len s n ts sr h3 X → PfO c len s n ts sr h3 (X.bind g) := by
    intro m g hg X O
    have key : ∀ v h'', X = some (some (.int v), h'') → X.bind g = X := fun v h'' e => by rw [e]; exact hg v h''
    unfold PfO at O ⊢
    cases r : rdC c len s n ts with
    | inl e =>
      rw [r] at O
      obtain ⟨h', v, o1, o⟩ := O
      exact ⟨h', v, (key _ _ o1).trans o1, o⟩
    | inr x =>
      obtain ⟨w, L, so, t, n1, ts1⟩ := x
      rw [r] at O
      dsimp only at O ⊢
      by_cases q : rfs w so s n1 ts1 = 0
      · rw [if_pos q] at O ⊢
        obtain ⟨h', a, s', n2, ts2, sr', o1, o2, o⟩ := O
        exact ⟨h', a, s', n2, ts2, sr', o1, (key _ _ o2).trans o2, o⟩
      · rw [if_neg q] at O ⊢
        obtain ⟨h', o1, o⟩ := O
        exact ⟨h', (key _ _ o1).trans o1, o⟩
  rcases kc with ⟨rfl, z⟩ | ⟨rfl, z⟩ | ⟨rfl, z⟩ | ⟨rfl, z⟩ | ⟨rfl, z⟩
  · have r : rdC c len s n ts = if jN c len 2 = 0 ∨ ¬ lkC s (jL c len 2) = -1 then .inl 2 else rdD c len (jL c len 2) n ts (rdS c len 3) := by
      unfold rdC
      rw [if_neg (fun y => y q1), if_neg (by rw [z]; intro y; cases y), if_neg (by rw [z]; intro y; cases y), if_pos z]
    rw [if_pos (show iI 1 = 1 from rfl)]
    refine pass mm_X11_declare _ (fun v h'' => ?_) _ (X11_declare_c k1 k2 k6 k3 (by omega) (fun i hi => (k7 i hi).1) k9 k10 r J3 S3 M3 z17)
    refine Eq.trans (e_X11_perform_183 ..) ?_
    rw [e_X11_perform_214]
  · have r : rdC c len s n ts = rdQ c len (rdT c len s 8 [] 2 n ts) := by
      unfold rdC
      rw [if_neg (fun y => y q1), if_neg (by rw [z]; intro y; cases y), if_neg (by rw [z]; intro y; cases y), if_neg (by rw [z]; intro y; cases y), if_pos z]
    rw [if_neg (show ¬ iI 2 = 1 by decide), if_pos (show iI 2 = 2 from rfl)]
    refine pass mm_X11_claim _ (fun v h'' => ?_) _ (X11_claim_c k1 k2 P r J3 S3 M3 z17)
    refine Eq.trans (e_X11_perform_195 ..) ?_
    rw [e_X11_perform_214]
  · have r : rdC c len s n ts = rdE c len 2 (6, [], 0, 0, n, ts) := by
      unfold rdC
      rw [if_neg (fun y => y q1), if_pos z]
    rw [if_neg (show ¬ iI 3 = 1 by decide), if_neg (show ¬ iI 3 = 2 by decide), if_pos (show iI 3 = 3 from rfl)]
    refine pass mm_X11_open _ (fun v h'' => ?_) _ (X11_open_c k1 k3 k4 r J3 S3 M3 z17)
    refine Eq.trans (e_X11_perform_207 ..) ?_
    rw [e_X11_perform_214]
  · have r : rdC c len s n ts = rdE c len 2 (7, [], 0, 0, n, ts) := by
      unfold rdC
      rw [if_neg (fun y => y q1), if_neg (by rw [z]; intro y; cases y), if_pos z]
    rw [if_neg (show ¬ iI 4 = 1 by decide), if_neg (show ¬ iI 4 = 2 by decide), if_neg (show ¬ iI 4 = 3 by decide)]
    refine pass mm_X11_shut _ (fun v h'' => ?_) _ (X11_shut_c k1 k3 k4 (WS_cb K) r J3 S3 M3 z17)
    exact e_X11_perform_214 ..
  · exact absurd rfl kz
def CmM (s : Sc) (n : Nat) (ts : Nat → Tm) (sr : Nat) (h : mx_H) (r : Int × Option (Sc × Nat × (Nat → Tm) × Nat)) (X : Option mx_O) : Prop := match r with
  | (a, none) => ∃ h', X = some (some (.int (iI (a))), h') ∧ SltM n ts h'.1 ∧ ScopeM s h' ∧ h'.1 47 17 = iI (sr : Int) ∧ h'.1 47 38 = h.1 47 38 ∧ h'.1 47 1 = iI 0 ∧ CmY h h'
  | (a, some (s', n', ts', sr')) => ∃ h', X = some (some (.int (iI (a))), h') ∧ SltM n' ts' h'.1 ∧ ScopeM s' h' ∧ h'.1 47 17 = iI (sr' : Int) ∧ h'.1 47 38 = iI 0 ∧ h'.1 47 1 = iI 0 ∧ CmY h h'
theorem ScopeM_e {h' : mx_H} (h1 : ∀ a k, (a ≠ 47 ∨ (k ≠ 1 ∧ k ≠ 4 ∧ k ≠ 7 ∧ k ≠ 8 ∧ k ≠ 9 ∧ k ≠ 38)) → h'.1 a k = h.1 a k) (h2 : h'.2 = h.2) (S : ScopeM s h) : ScopeM s h' := by
  obtain ⟨s1, s2, s3, s4, s5, s6⟩ := S
  exact ⟨by rw [h1 47 28 (by decide)]; exact s1, by rw [h1 47 31 (by decide)]; exact s2, by rw [h1 47 33 (by decide)]; exact s3, fun i hi => by rw [h1 64 i (by omega), h2]; exact s4 i hi, fun i hi => by rw [h1 65 i (by omega)]; exact s5 i hi, fun i hi => by rw [h1 66 i (by omega), h1 67 i (by omega)]; exact s6 i hi⟩
theorem X11_command_c {sr : Nat} (K : WS s n ts sr) (T : TxtM c len h.1) (S : ScopeM s h) (M : SltM n ts h.1) (h17 : h.1 47 17 = iI (sr : Int)) : CmM s n ts sr h (cmd c len s n ts sr) (mx_C mm_X11_command [.ref 47] h) := by
  obtain ⟨M1, M2, M3⟩ := M
  rw [c_X11_command, e_X11_command_0]
  have w : ∀ a k, (a ≠ 47 ∨ (k ≠ 7 ∧ k ≠ 4 ∧ k ≠ 9)) → mx_u (mx_u (mx_u h.1 47 7 (-1)) 47 4 0) 47 9 ((mx_u (mx_u h.1 47 7 (-1)) 47 4 0) 47 8) a k = h.1 a k := by
    intro a k z
    dsimp only [mx_u]
    rw [if_neg (by omega), if_neg (by omega), if_neg (by omega)]
  have w7 : mx_u (mx_u (mx_u h.1 47 7 (-1)) 47 4 0) 47 9 ((mx_u (mx_u h.1 47 7 (-1)) 47 4 0) 47 8) 47 7 = iI (-1) := by rw [mu_k _ _ (by decide), mu_k _ _ (by decide), mu_s]; rfl
  have w4 : mx_u (mx_u (mx_u h.1 47 7 (-1)) 47 4 0) 47 9 ((mx_u (mx_u h.1 47 7 (-1)) 47 4 0) 47 8) 47 4 = iI 0 := by rw [mu_k _ _ (by decide), mu_s]; rfl
  have w9 : mx_u (mx_u (mx_u h.1 47 7 (-1)) 47 4 0) 47 9 ((mx_u (mx_u h.1 47 7 (-1)) 47 4 0) 47 8) 47 9 = iI (n : Int) := by rw [mu_s, mu_k _ _ (by decide), mu_k _ _ (by decide)]; exact M1
  obtain ⟨h0, hh0⟩ : ∃ h0 : mx_H, h0 = (mx_u (mx_u (mx_u h.1 47 7 (-1)) 47 4 0) 47 9 ((mx_u (mx_u h.1 47 7 (-1)) 47 4 0) 47 8), h.2.1, h.2.2) := ⟨_, rfl⟩
  rw [← hh0]
  have w : ∀ a k, (a ≠ 47 ∨ (k ≠ 7 ∧ k ≠ 4 ∧ k ≠ 9)) → h0.1 a k = h.1 a k := by rw [hh0]; exact w
  have w7 : h0.1 47 7 = iI (-1) := by rw [hh0]; exact w7
  have w4 : h0.1 47 4 = iI 0 := by rw [hh0]; exact w4
  have w9 : h0.1 47 9 = iI (n : Int) := by rw [hh0]; exact w9
  have wl : h0.2 = h.2 := by rw [hh0]
  clear hh0
  have Y0 : CmY h h0 := ⟨fun a k z => w a k (by omega), fun a k z => by rw [wl], by rw [wl]⟩
  have T0 : TxtM c len h0.1 := ⟨(w 47 1 (by decide)).trans T.1, fun i hi => (w 48 i (by omega)).trans (T.2.1 i hi), T.2.2⟩
  have S0 : ScopeM s h0 := ScopeM_e (fun a k z => w a k (by omega)) wl S
  have SL : ∀ t, t < n → SlotM (ts t) t h0.1 ∧ shp (ts t) := by
    intro t ht
    obtain ⟨⟨b1, b2, b3, b4, b5, b6, b7⟩, d⟩ := M3 t ht
    exact ⟨⟨(w 49 t (by omega)).trans b1, (w 50 t (by omega)).trans b2, (w 51 t (by omega)).trans b3, (w 52 t (by omega)).trans b4, (w 53 t (by omega)).trans b5, (w 54 t (by omega)).trans b6, (w 55 t (by omega)).trans b7⟩, d⟩
  have M0 : TermM n ts h0.1 := ⟨w9, M2, SL⟩
  have h170 : h0.1 47 17 = iI (sr : Int) := (w 47 17 (by decide)).trans h17
  have h80 : h0.1 47 8 = iI (n : Int) := (w 47 8 (by decide)).trans M1
  have h380 : h0.1 47 38 = h.1 47 38 := w 47 38 (by decide)
  have O := X11_perform_c K T0 w4 S0 M0 h170
  -- when nothing is kept
  have undo : ∀ (h' : mx_H) (n' : Nat) (ts' : Nat → Tm), MdX 0 h0 h' → TermM n' ts' h'.1 → n ≤ n' → (∀ i, i < n → ts' i = ts i) → ∀ h'' : mx_H, h'' = (mx_u h'.1 47 1 0, h'.2.1, h'.2.2) → SltM n ts h''.1 ∧ ScopeM s h'' ∧ h''.1 47 17 = iI (sr : Int) ∧ h''.1 47 38 = h.1 47 38 ∧ h''.1 47 1 = iI 0 ∧ CmY h h'' := by
    intro h' n' ts' X T' hn ho h'' e
    have v : ∀ a k, (a ≠ 47 ∨ k ≠ 1) → h''.1 a k = h'.1 a k := by
      intro a k z
      rw [e]
      dsimp only [mx_u]
      rw [if_neg (by omega)]
    have x47 : ∀ k, k ≠ 2 → k ≠ 3 → k ≠ 4 → k ≠ 7 → k ≠ 9 → k ≠ 18 → k ≠ 26 → k ≠ 27 → k ≠ 1 → h''.1 47 k = h0.1 47 k := fun k p1 p2 p3 p4 p5 p6 p7 p8 p9 => (v 47 k (by omega)).trans (X.2.1 k p1 p2 p3 p4 p5 p6 p7 p8)
    refine ⟨⟨(x47 8 (by decide) (by decide) (by decide) (by decide) (by decide) (by decide) (by decide) (by decide) (by decide)).trans h80, M2, fun t ht => ?_⟩, ?_, (x47 17 (by decide) (by decide) (by decide) (by decide) (by decide) (by decide) (by decide) (by decide) (by decide)).trans h170, (x47 38 (by decide) (by decide) (by decide) (by decide) (by decide) (by decide) (by decide) (by decide) (by decide)).trans h380, by rw [e]; dsimp only; rw [mu_s]; rfl, ?_⟩
    · have y := T'.2.2 t (by omega)
      rw [ho t ht] at y
      obtain ⟨⟨b1, b2, b3, b4, b5, b6, b7⟩, d⟩ := y
      exact ⟨⟨(v 49 t (by omega)).trans b1, (v 50 t (by omega)).trans b2, (v 51 t (by omega)).trans b3, (v 52 t (by omega)).trans b4, (v 53 t (by omega)).trans b5, (v 54 t (by omega)).trans b6, (v 55 t (by omega)).trans b7⟩, d⟩
    · exact ScopeM_e (h := h') (fun a k z => v a k (by omega)) (by rw [e]) (ScopeM_x X S0)
    · exact CmY_t Y0 (CmY_t (CmY_x X) ⟨fun a k z => v a k (by omega), fun a k z => by rw [e], by rw [e]⟩)
  unfold PfO at O
  unfold cmd
  unfold cmd at O
  cases r : rdC c len s n ts with
  | inl e =>
    rw [r] at O
    obtain ⟨h', v, o1, o2, o3, o4, X, n', ts', o5, o6, o7⟩ := O
    rw [o1]
    have jb := jB_le (c := c) (len := len) e
    have len1 := T.2.2.1
    refine ⟨(mx_u h'.1 47 1 0, h'.2.1, h'.2.2), ?_, undo h' n' ts' X o5 o6 o7 _ rfl⟩
    refine Eq.trans (e_X11_command_22 ..) ?_
    dsimp only
    rw [mu_k _ _ (show (7 : Nat) ≠ 1 by decide), o2, if_neg (show ¬ iI (jB c len e : Int) < 0 from fun z => by have := (ii_lt (b := 0) (by omega)).mp z; omega)]
    have m1 : (-1 : Int32) = iI (-1) := by decide
    rw [m1, ii_sub]
  | inr x =>
    obtain ⟨w', L, so, t, n1, ts1⟩ := x
    rw [r] at O
    dsimp only at O ⊢
    by_cases q : rfs w' so s n1 ts1 = 0
    · rw [if_pos q] at O ⊢
      obtain ⟨h', a, s', n2, ts2, sr', o1, o2, o3, o4, o5, o6, o7, o8, o9, o10⟩ := O
      rw [if_pos q] at o1
      rw [o1, o2]
      have v : ∀ a k, (a ≠ 47 ∨ (k ≠ 1 ∧ k ≠ 8 ∧ k ≠ 38)) → mx_u (mx_u (mx_u h'.1 47 1 0) 47 8 (iI (n2 : Int))) 47 38 0 a k = h'.1 a k := by
        intro a k z
        dsimp only [mx_u]
        rw [if_neg (by omega), if_neg (by omega), if_neg (by omega)]
      refine ⟨(mx_u (mx_u (mx_u h'.1 47 1 0) 47 8 (iI (n2 : Int))) 47 38 0, h'.2.1, h'.2.2), ?_, ⟨?_, o6.2.1, fun t ht => ?_⟩, ?_, (v 47 17 (by decide)).trans o8, ?_, ?_, ?_⟩
      · refine Eq.trans (e_X11_command_22 ..) ?_
        dsimp only
        rw [mu_k _ _ (show (7 : Nat) ≠ 1 by decide), o5, w7, if_pos (by decide), if_pos (show (0 : Int32) ≤ iI a from (ii_le (a := 0) (by omega)).mpr (by omega)), mu_k _ _ (show (9 : Nat) ≠ 1 by decide), o6.1]
      · dsimp only; rw [mu_k _ _ (by decide), mu_s]
      · obtain ⟨⟨b1, b2, b3, b4, b5, b6, b7⟩, d⟩ := o6.2.2 t ht
        exact ⟨⟨(v 49 t (by omega)).trans b1, (v 50 t (by omega)).trans b2, (v 51 t (by omega)).trans b3, (v 52 t (by omega)).trans b4, (v 53 t (by omega)).trans b5, (v 54 t (by omega)).trans b6, (v 55 t (by omega)).trans b7⟩, d⟩
      · exact ScopeM_e (h := h') (fun a k z => v a k (by omega)) rfl o7
      · dsimp only; rw [mu_s]; rfl
      · dsimp only; rw [mu_k _ _ (by decide), mu_k _ _ (by decide), mu_s]; rfl
      · exact CmY_t Y0 (CmY_t o9 ⟨fun a k z => v a k (by omega), fun a k z => rfl, rfl⟩)
    · rw [if_neg q] at O ⊢
      obtain ⟨h', o1, o2, X, n2, ts2, o5, o6, o7⟩ := O
      rw [o1]
      have rb : rfs w' so s n1 ts1 = -1000 ∨ rfs w' so s n1 ts1 = -1001 := by
        have rb : rfs w' so s n1 ts1 = 0 ∨ rfs w' so s n1 ts1 = -1000 ∨ rfs w' so s n1 ts1 = -1001 := by
          unfold rfs
          repeat' split
          all_goals first | exact Or.inl rfl | exact Or.inr (Or.inl rfl) | exact Or.inr (Or.inr rfl)
        exact rb.elim (fun z => absurd z q) id
      refine ⟨(mx_u h'.1 47 1 0, h'.2.1, h'.2.2), ?_, undo h' n2 ts2 X o5 o6 o7 _ rfl⟩
      refine Eq.trans (e_X11_command_22 ..) ?_
      dsimp only
      rw [mu_k _ _ (show (7 : Nat) ≠ 1 by decide), o2, w7, if_pos (by decide), if_neg (show ¬ (0 : Int32) ≤ iI (rfs w' so s n1 ts1) from fun z => by have := (ii_le (a := 0) (by omega)).mp z; omega)]
end MC
