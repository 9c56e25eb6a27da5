/-! commands keep what is well formed -/
section KP
variable {c : Nat → Int} {len : Nat} {s : Sc}
def Qn (n0 n : Nat) (ts : Nat → Tm) : Prop := ∀ t, n0 ≤ t → t < n → tk (ts t) ≠ 0
theorem Qn_mk {n0 n : Nat} {ts : Nat → Tm} {m : Tm} (h0 : tk m ≠ 0) (Q : Qn n0 n ts) : Qn n0 (mkN n ts m) (mkT n ts m) := by
  intro t h1 h2
  by_cases z : t = n
  · rw [z, mt_new]; exact h0
  · have : t < n := by
      have := (mt_at (n := n) (ts := ts) (m := m)).2.2.2
      omega
    rw [mt_old this]
    exact Q t h1 this
theorem rdA_q {n0 : Nat} {lets : List (List Nat × Nat)} {j n : Nat} {ts : Nat → Tm} (Q : Qn n0 n ts) {t j' n' : Nat} {ts' : Nat → Tm} (e : rdA c len s lets j n ts = .inr (t, j', n', ts')) : Qn n0 n' ts' := by
  unfold rdA mkR at e
  split at e
  · simp only [Sum.inr.injEq, Prod.mk.injEq] at e
    obtain ⟨_, _, rfl, rfl⟩ := e
    exact Qn_mk (by decide) Q
  · split at e
    · simp only [Sum.inr.injEq, Prod.mk.injEq] at e
      obtain ⟨_, _, rfl, rfl⟩ := e
      exact Qn_mk (by decide) Q
    · split at e
      · simp only [Sum.inr.injEq, Prod.mk.injEq] at e
        obtain ⟨_, _, rfl, rfl⟩ := e
        exact Qn_mk (fun z => absurd (show (3 : Int) = 0 from z) (by decide)) Q
      · split at e
        · cases e
        · split at e
          · cases e
          · simp only [Sum.inr.injEq, Prod.mk.injEq] at e
            obtain ⟨_, _, rfl, rfl⟩ := e
            exact Q
theorem rdP_q {n0 : Nat} {rd : Nat → Nat → (Nat → Tm) → Rd} (H : ∀ j n ts, Qn n0 n ts → ∀ t j' n' ts', rd j n ts = .inr (t, j', n', ts') → Qn n0 n' ts') {k p : Int} : ∀ (d : Nat) (ps : List Nat) (j n : Nat) (ts : Nat → Tm), Qn n0 n ts → ∀ ps' j' n' ts', rdP rd k p d ps j n ts = .inr (ps', j', n', ts') → Qn n0 n' ts' := by
  intro d
  induction d with
  | zero =>
    intro ps j n ts Q ps' j' n' ts' e
    simp only [rdP, Sum.inr.injEq, Prod.mk.injEq] at e
    obtain ⟨_, _, rfl, rfl⟩ := e
    exact Q
  | succ d ih =>
    intro ps j n ts Q ps' j' n' ts' e
    unfold rdP at e
    cases r : rd j n ts with
    | inl x => rw [r] at e; cases e
    | inr x =>
      obtain ⟨t, j1, n1, ts1⟩ := x
      rw [r] at e
      dsimp only at e
      split at e
      · exact ih _ _ _ _ (H j n ts Q t j1 n1 ts1 r) _ _ _ _ e
      · cases e
theorem rdT_q {n0 : Nat} : ∀ (f : Nat) (lets : List (List Nat × Nat)) (j n : Nat) (ts : Nat → Tm), Qn n0 n ts → ∀ t j' n' ts', rdT c len s f lets j n ts = .inr (t, j', n', ts') → Qn n0 n' ts' := by
  intro f
  induction f with
  | zero => intro lets j n ts Q t j' n' ts' e; cases e
  | succ f ih =>
    intro lets j n ts Q t j' n' ts' e
    by_cases q1 : jO c len j 40 = true
    rotate_left
    · have e1 : rdT c len s (f + 1) lets j n ts = rdA c len s lets j n ts := if_pos q1
      rw [e1] at e
      exact rdA_q Q e
    rw [rdT_h q1] at e
    cases r : hdH c len j (j + 1) with
    | inl x => rw [r] at e; cases e
    | inr x =>
      obtain ⟨fr, j1⟩ := x
      rw [r] at e
      dsimp only at e
      rcases hdH_b r with ⟨k35, _, _⟩ | ⟨kb, _⟩
      · rw [if_pos k35] at e
        unfold rdL2 at e
        cases r1 : rdT c len s f lets j1 n ts with
        | inl x => rw [r1] at e; cases e
        | inr x =>
          obtain ⟨t2, j2, n2, ts2⟩ := x
          rw [r1] at e
          have Q2 := ih lets j1 n ts Q t2 j2 n2 ts2 r1
          dsimp only at e
          split at e
          · cases e
          · split at e
            · cases e
            · cases r3 : rdT c len s f ((fL fr, t2) :: lets) (j2 + 2) n2 ts2 with
              | inl x => rw [r3] at e; cases e
              | inr x =>
                obtain ⟨t3, j3, n3, ts3⟩ := x
                rw [r3] at e
                have Q3 := ih _ (j2 + 2) n2 ts2 Q2 t3 j3 n3 ts3 r3
                dsimp only at e
                split at e
                · simp only [Sum.inr.injEq, Prod.mk.injEq] at e
                  obtain ⟨_, _, rfl, rfl⟩ := e
                  exact Q3
                · cases e
      · rw [if_neg (by omega)] at e
        unfold rdApp rdF at e
        cases r1 : rdP (rdT c len s f lets) (fk fr) (fp fr) (np (fk fr)).toNat [] j1 n ts with
        | inl x => rw [r1] at e; cases e
        | inr x =>
          obtain ⟨ps, j2, n2, ts2⟩ := x
          rw [r1] at e
          have Q2 := rdP_q (fun j n ts Q t j' n' ts' e => ih lets j n ts Q t j' n' ts' e) _ _ _ _ _ Q _ _ _ _ r1
          dsimp only at e
          split at e
          · simp only [mkR, Sum.inr.injEq, Prod.mk.injEq] at e
            obtain ⟨_, _, rfl, rfl⟩ := e
            exact Qn_mk (by dsimp only [tmOf, tk]; omega) Q2
          · cases e
theorem rdC_v (hc : ∀ i, i < len → 32 ≤ c i ∧ c i ≤ 126) {n : Nat} {ts : Nat → Tm} {w : Nat} {L : List Nat} {so : Int} {t n' : Nat} {ts' : Nat → Tm} (e : rdC c len s n ts = .inr (w, L, so, t, n', ts')) : (w = 4 → vName L) ∧ Qn n n' ts' := by
  have Q0 : Qn n n ts := fun t h1 h2 => by omega
  unfold rdC at e
  split at e
  · cases e
  · split at e
    · have := rdE_k e
      simp only [Prod.mk.injEq] at this
      obtain ⟨rfl, _, _, _, rfl, rfl⟩ := this
      exact ⟨(fun z => by cases z), Q0⟩
    · split at e
      · have := rdE_k e
        simp only [Prod.mk.injEq] at this
        obtain ⟨rfl, _, _, _, rfl, rfl⟩ := this
        exact ⟨(fun z => by cases z), Q0⟩
      · split at e
        · split at e
          · cases e
          · rename_i q2
            unfold rdD at e
            cases r : rdS c len 3 with
            | inl x => rw [r] at e; cases e
            | inr x =>
              obtain ⟨so', j'⟩ := x
              rw [r] at e
              have := rdE_k e
              simp only [Prod.mk.injEq] at this
              obtain ⟨rfl, rfl, _, _, rfl, rfl⟩ := this
              exact ⟨fun _ => (jN_v hc).mp (fun z => q2 (Or.inl z)), Q0⟩
        · split at e
          · unfold rdQ at e
            cases r : rdT c len s 8 [] 2 n ts with
            | inl x => rw [r] at e; cases e
            | inr x =>
              obtain ⟨t', j', n1, ts1⟩ := x
              rw [r] at e
              dsimp only at e
              split at e
              · have := rdE_k e
                simp only [Prod.mk.injEq] at this
                obtain ⟨rfl, _, _, _, rfl, rfl⟩ := this
                exact ⟨(fun z => by cases z), rdT_q 8 [] 2 n ts Q0 _ _ _ _ r⟩
              · cases e
          · cases e
theorem al_mono {n : Nat} {ts : Nat → Tm} {A B : Nat → Prop} {t : Nat} (hAB : ∀ u, A u → B u) (h : al n ts A t) : al n ts B t := by
  obtain ⟨S, a, b⟩ := h
  exact ⟨S, a, fun u hu => ⟨(b u hu).1, fun z => hAB u ((b u hu).2.1 z), (b u hu).2.2⟩⟩
theorem off_e {s' : Sc} {ts ts' : Nat → Tm} : ∀ k, (∀ i, i < k → sCt s' i = sCt s i) → (∀ i, i < k → ts' (sCt s i) = ts (sCt s i)) → off s' ts' k = off s ts k := by
  intro k
  induction k with
  | zero => intro _ _; rfl
  | succ k ih =>
    intro h1 h2
    unfold off
    rw [ih (fun i hi => h1 i (by omega)) (fun i hi => h2 i (by omega)), h1 k (by omega), h2 k (by omega)]
theorem hv_e {ts ts' : Nat → Tm} : ∀ k, (∀ i, i < k → ts' i = ts i) → hv ts' k = hv ts k := by
  intro k
  induction k with
  | zero => intro _; rfl
  | succ k ih =>
    intro h
    have e1 : hv ts' (k + 1) = hv ts' k + if 19 ≤ tk (ts' k) ∧ tk (ts' k) ≤ 21 then 1 else 0 := rfl
    have e2 : hv ts (k + 1) = hv ts k + if 19 ≤ tk (ts k) ∧ tk (ts k) ≤ 21 then 1 else 0 := rfl
    rw [e1, e2, ih (fun i hi => h i (by omega)), h k (by omega)]
theorem WS_cmd {n : Nat} {ts : Nat → Tm} {sr : Nat} (K : WS s n ts sr) (hl : len ≤ 120) (hc : ∀ i, i < len → 32 ≤ c i ∧ c i ≤ 126) {a : Int} {s' : Sc} {n' : Nat} {ts' : Nat → Tm} {sr' : Nat} (e : cmd c len s n ts sr = (a, some (s', n', ts', sr'))) : WS s' n' ts' sr' ∧ n ≤ n' ∧ ∀ i, i < n → ts' i = ts i := by
  have P := WS_pre (c := c) (len := len) K hl
  obtain ⟨k1, k2, k3, k4, k5, k6, k7, k8, k9, k10, k11, k12, k13⟩ := K
  obtain ⟨B1, B2, B3, B4, B5, B6, B7⟩ := k1
  have sNcB : sNc s ≤ sBi s := by
    have := (off_b (s := s) ts (fun i hi => (k6.1 _ (k7 i hi).1).1.2.1) (sNc s) (Nat.le_refl _)).1
    omega
  unfold cmd at e
  cases r : rdC c len s n ts with
  | inl x => rw [r] at e; injection e with _ e; cases e
  | inr x =>
    obtain ⟨w, L, so, t, n1, ts1⟩ := x
    rw [r] at e
    dsimp only at e
    obtain ⟨j1, j2, j3, j4, j5, j6, j7, j8⟩ := rdC_k P k3 r
    obtain ⟨v1, v2⟩ := rdC_v hc r
    by_cases q : rfs w so s n1 ts1 = 0
    rotate_left
    · rw [if_neg q] at e; injection e with _ e; cases e
    rw [if_pos q] at e
    rcases j1 with rfl | rfl | rfl | rfl
    · -- declare
      rw [if_pos rfl] at e
      simp only [Prod.mk.injEq, Option.some.injEq] at e
      obtain ⟨_, rfl, rfl, rfl, rfl⟩ := e
      obtain ⟨rfl, rfl⟩ := j4 (by decide)
      obtain ⟨l1, l2, l3, l4⟩ := j2 rfl
      have bb := bitsS_b ⟨l3, l4⟩
      have u : ¬ 8 < (sBi s : Int) + bitsS so := by
        intro z
        unfold rfs at q
        rw [if_pos (Or.inl ⟨rfl, z⟩)] at q
        omega
      have u2 : ¬ (60 < n1 + 1 ∨ 2 < hv ts1 n1) := by
        intro z
        unfold rfs at q
        rw [if_neg (by omega)] at q
        have : (if 60 < n1 + (if 4 = 4 then 1 else 0) ∨ 2 < hv ts1 n1 then (-1001 : Int) else 0) = -1001 := if_pos z
        omega
      have nw : ∀ i, i < sNc s → sNm s i ≠ L := fun i hi z => (lkC_iff.mpr ⟨i, hi, z⟩) l2
      generalize hm : ((0, so, -1, -1, -1, (sr : Int), 0, (sBi s : Int)) : Tm) = m
      have mk0 : tk m = 0 := by rw [← hm]; rfl
      have mS : tS m = so := by rw [← hm]; rfl
      have mto : to m = (sBi s : Int) := by rw [← hm]; rfl
      have mtp : tp m = (sr : Int) := by rw [← hm]; rfl
      have fn : fnd ts1 m n1 0 = none := by
        cases y : fnd ts1 m n1 0 with
        | none => rfl
        | some t =>
          have b := fnd_b _ _ _ y
          have := k10 t (by omega) (by rw [b.2.2]; exact mk0)
          rw [b.2.2, mtp] at this
          omega
      have mN : mkN n1 ts1 m = n1 + 1 := by unfold mkN; rw [fn]; rfl
      have W' : WF (n1 + 1) (mkT n1 ts1 m) := by
        rw [← mN]
        refine mt_wf k6 ?_ ?_ ?_
        · rw [← hm]
          unfold shp
          dsimp only [tk, tS, tx, ty, tz, tp, tq, to]
          refine ⟨by omega, by omega, by omega, by omega, by omega, by decide, by decide, by decide, by omega, by omega, by omega, by omega, fun _ => rfl, fun z => absurd rfl z⟩
        · rw [← hm]
          exact ⟨by show (-1 : Int) < n1; omega, by show (-1 : Int) < n1; omega, by show (-1 : Int) < n1; omega⟩
        · unfold typ
          rw [mk0, mS, mto]
          exact ⟨fun _ => by omega, fun z => by omega, fun z => by omega, fun z => by omega⟩
      have old : ∀ i, i < n1 → mkT n1 ts1 m i = ts1 i := fun i hi => mt_old hi
      have ct : ∀ i, i < sNc s → sCt (scDecl s L n1 (bitsS so).toNat) i = sCt s i := fun i hi => if_neg (by omega)
      have ctn : sCt (scDecl s L n1 (bitsS so).toNat) (sNc s) = n1 := if_pos rfl
      have of1 : ∀ k, k ≤ sNc s → off (scDecl s L n1 (bitsS so).toNat) (mkT n1 ts1 m) k = off s ts1 k := fun k hk => off_e k (fun i hi => ct i (by omega)) (fun i hi => old _ (k7 i (by omega)).1)
      refine ⟨⟨⟨?_, ?_, B3, B4, ?_, B6, B7⟩, ⟨?_, ?_⟩, by omega, ?_, by omega, W', ?_, ?_, ?_, ?_, ?_, ?_, k13⟩, by omega, old⟩
      · show sNc s + 1 ≤ 8; omega
      · show sBi s + (bitsS so).toNat ≤ 8; omega
      · intro i hi
        have hi : i < sNc s + 1 := hi
        show lets4 (if i = sNc s then L else sNm s i) ∧ (if i = sNc s then n1 else sCt s i) < 60
        by_cases z : i = sNc s
        · rw [if_pos z, if_pos z]; exact ⟨l1, by omega⟩
        · rw [if_neg z, if_neg z]; exact B5 i (by omega)
      · intro i hi
        have hi : i < sNc s + 1 := hi
        show vName (if i = sNc s then L else sNm s i)
        by_cases z : i = sNc s
        · rw [if_pos z]; exact v1 rfl
        · rw [if_neg z]; exact k2.1 i (by omega)
      · intro i k h1 h2
        have h2 : k < sNc s + 1 := h2
        show (if i = sNc s then L else sNm s i) ≠ (if k = sNc s then L else sNm s k)
        rw [if_neg (by omega)]
        by_cases z : k = sNc s
        · rw [if_pos z]; exact nw i (by omega)
        · rw [if_neg z]; exact k2.2 i k h1 (by omega)
      · have e1 : hv (mkT n1 ts1 m) (n1 + 1) = hv (mkT n1 ts1 m) n1 + if 19 ≤ tk (mkT n1 ts1 m n1) ∧ tk (mkT n1 ts1 m n1) ≤ 21 then 1 else 0 := rfl
        rw [e1, hv_e n1 old, mt_new, mk0, if_neg (by decide)]
        omega
      · intro i hi
        have hi : i < sNc s + 1 := hi
        by_cases z : i = sNc s
        · rw [z, ctn, mt_new, of1 _ (Nat.le_refl _), k9]
          exact ⟨by omega, mk0, mto⟩
        · have := k7 i (by omega)
          rw [ct i (by omega), old _ this.1, of1 i (by omega)]
          exact ⟨by omega, this.2⟩
      · intro i k h1 h2
        have h2 : k < sNc s + 1 := h2
        rw [ct i (by omega)]
        by_cases z : k = sNc s
        · rw [z, ctn]; exact (k7 i (by omega)).1
        · rw [ct k (by omega)]; exact k8 i k h1 (by omega)
      · show off (scDecl s L n1 (bitsS so).toNat) (mkT n1 ts1 m) (sNc s + 1) = ((sBi s + (bitsS so).toNat : Nat) : Int)
        have e1 : off (scDecl s L n1 (bitsS so).toNat) (mkT n1 ts1 m) (sNc s + 1) = off (scDecl s L n1 (bitsS so).toNat) (mkT n1 ts1 m) (sNc s) + bitsS (tS (mkT n1 ts1 m (sCt (scDecl s L n1 (bitsS so).toNat) (sNc s)))) := rfl
        rw [e1, of1 _ (Nat.le_refl _), k9, ctn, mt_new, mS]
        omega
      · intro t ht h0
        by_cases z : t = n1
        · rw [z, mt_new, mtp]; omega
        · rw [old t (by omega)] at h0 ⊢
          have := k10 t (by omega) h0
          omega
      · intro k hk
        obtain ⟨a1, a2⟩ := k11 k hk
        have lt := al_lt a1
        refine ⟨?_, ?_⟩
        · refine al_mono ?_ (al_ext (by omega) old a1)
          rintro u ⟨i, hi, rfl⟩
          exact ⟨i, (by show i < sNc s + 1; omega), ct i hi⟩
        · show tS (mkT n1 ts1 m (sAt s k)) = 0
          rw [old _ lt]; exact a2
      · intro i hi
        obtain ⟨a1, a2, a3, a4⟩ := k12 i hi
        refine ⟨(by show sCb s i ≤ sNc s + 1; omega), a2, a3.trans (of1 _ a1).symm, fun k hk => ?_⟩
        refine al_mono ?_ (al_ext (by omega) old (a4 k hk))
        rintro u ⟨x, hx, rfl⟩
        exact ⟨x, hx, ct x (by omega)⟩
    · -- assert
      rw [if_neg (by decide), if_pos rfl] at e
      simp only [Prod.mk.injEq, Option.some.injEq] at e
      obtain ⟨_, rfl, rfl, rfl, rfl⟩ := e
      obtain ⟨l1, l2⟩ := j3 rfl
      have lt := al_lt l1
      have u : sNa s < 12 := by
        apply Decidable.byContradiction
        intro z
        unfold rfs at q
        rw [if_pos (Or.inr (Or.inl ⟨rfl, by omega⟩))] at q
        omega
      have u2 : ¬ (60 < n1 ∨ 2 < hv ts1 n1) := by
        intro z
        unfold rfs at q
        rw [if_neg (by omega)] at q
        have : (if 60 < n1 + (if 5 = 4 then 1 else 0) ∨ 2 < hv ts1 n1 then (-1001 : Int) else 0) = -1001 := if_pos z
        omega
      have of1 : ∀ k, k ≤ sNc s → off (scClaim s t) ts1 k = off s ts k := fun k hk => off_e k (fun i hi => rfl) (fun i hi => j7 _ (k7 i (by omega)).1)
      refine ⟨⟨⟨B1, B2, ?_, B4, B5, ?_, B7⟩, k2, by omega, by omega, by omega, j5, ?_, k8, ?_, ?_, ?_, ?_, ?_⟩, j6, j7⟩
      · show sNa s + 1 ≤ 12; omega
      · intro i hi
        have hi : i < sNa s + 1 := hi
        show (if i = sNa s then t else sAt s i) < 60
        by_cases z : i = sNa s
        · rw [if_pos z]; omega
        · rw [if_neg z]; exact B6 i (by omega)
      · intro i hi
        obtain ⟨a1, a2, a3⟩ := k7 i hi
        rw [of1 i (Nat.le_of_lt hi), show sCt (scClaim s t) i = sCt s i from rfl, j7 _ a1]
        exact ⟨by omega, a2, a3⟩
      · exact (of1 _ (Nat.le_refl _)).trans k9
      · intro t' ht h0
        by_cases z : t' < n
        · rw [j7 t' z] at h0 ⊢; exact k10 t' z h0
        · exact absurd h0 (v2 t' (by omega) ht)
      · intro k hk
        have hk : k < sNa s + 1 := hk
        show al n1 ts1 (fun u => ∃ i, i < sNc s ∧ sCt s i = u) (if k = sNa s then t else sAt s k) ∧ tS (ts1 (if k = sNa s then t else sAt s k)) = 0
        by_cases z : k = sNa s
        · rw [if_pos z]; exact ⟨l1, l2⟩
        · rw [if_neg z]
          obtain ⟨a1, a2⟩ := k11 k (by omega)
          rw [j7 _ (al_lt a1)]
          exact ⟨al_ext j6 j7 a1, a2⟩
      · intro i hi
        obtain ⟨a1, a2, a3, a4⟩ := k12 i hi
        refine ⟨a1, (by show sAb s i ≤ sNa s + 1; omega), a3.trans (of1 _ a1).symm, fun k hk => ?_⟩
        have hk : k < sAb s i := hk
        show al n1 ts1 (fun u => ∃ x, x < sCb s i ∧ sCt s x = u) (if k = sNa s then t else sAt s k)
        rw [if_neg (by omega)]
        exact al_ext j6 j7 (a4 k hk)
      · exact k13
    · -- push
      rw [if_neg (by decide), if_neg (by decide), if_pos rfl] at e
      simp only [Prod.mk.injEq, Option.some.injEq] at e
      obtain ⟨_, rfl, rfl, rfl, rfl⟩ := e
      obtain ⟨rfl, rfl⟩ := j4 (by decide)
      have u : sNs s < 4 := by
        apply Decidable.byContradiction
        intro z
        unfold rfs at q
        rw [if_pos (Or.inr (Or.inr (Or.inl ⟨rfl, by omega⟩)))] at q
        omega
      have of1 : ∀ k, off (scOpen s) ts1 k = off s ts1 k := fun k => off_e k (fun i hi => rfl) (fun i hi => rfl)
      refine ⟨⟨⟨B1, B2, B3, ?_, B5, B6, ?_⟩, k2, k3, k4, k5, k6, ?_, k8, ?_, k10, k11, ?_, ?_⟩, Nat.le_refl _, fun _ _ => rfl⟩
      · show sNs s + 1 ≤ 4; omega
      · intro i hi
        have hi : i < sNs s + 1 := hi
        show (if i = sNs s then sNc s else sCb s i) ≤ 8 ∧ (if i = sNs s then sBi s else sBb s i) ≤ 8 ∧ (if i = sNs s then sNa s else sAb s i) ≤ 12
        by_cases z : i = sNs s
        · rw [if_pos z, if_pos z, if_pos z]; omega
        · rw [if_neg z, if_neg z, if_neg z]; exact B7 i (by omega)
      · intro i hi
        rw [of1]
        exact k7 i hi
      · exact (of1 _).trans k9
      · intro i hi
        have hi : i < sNs s + 1 := hi
        show (if i = sNs s then sNc s else sCb s i) ≤ sNc s ∧ (if i = sNs s then sNa s else sAb s i) ≤ sNa s ∧ (((if i = sNs s then sBi s else sBb s i) : Nat) : Int) = off (scOpen s) ts1 (if i = sNs s then sNc s else sCb s i) ∧ ∀ k, k < (if i = sNs s then sNa s else sAb s i) → al n1 ts1 (fun u => ∃ x, x < (if i = sNs s then sNc s else sCb s i) ∧ sCt s x = u) (sAt s k)
        by_cases z : i = sNs s
        · simp only [if_pos z]
          exact ⟨Nat.le_refl _, Nat.le_refl _, (k9.symm.trans (of1 _).symm), fun k hk => (k11 k hk).1⟩
        · simp only [if_neg z]
          obtain ⟨a1, a2, a3, a4⟩ := k12 i (by omega)
          exact ⟨a1, a2, a3.trans (of1 _).symm, a4⟩
      · intro i k h1 h2
        have h2 : k < sNs s + 1 := h2
        show (if i = sNs s then sNc s else sCb s i) ≤ (if k = sNs s then sNc s else sCb s k) ∧ (if i = sNs s then sNa s else sAb s i) ≤ (if k = sNs s then sNa s else sAb s k)
        simp only [if_neg (show ¬ i = sNs s by omega)]
        by_cases z : k = sNs s
        · simp only [if_pos z]
          have := k12 i (by omega)
          exact ⟨this.1, this.2.1⟩
        · simp only [if_neg z]; exact k13 i k h1 (by omega)
    · -- pop
      rw [if_neg (by decide), if_neg (by decide), if_neg (by decide)] at e
      simp only [Prod.mk.injEq, Option.some.injEq] at e
      obtain ⟨_, rfl, rfl, rfl, rfl⟩ := e
      obtain ⟨rfl, rfl⟩ := j4 (by decide)
      have u : 0 < sNs s := by
        apply Decidable.byContradiction
        intro z
        unfold rfs at q
        rw [if_pos (Or.inr (Or.inr (Or.inr ⟨rfl, by omega⟩)))] at q
        omega
      have of1 : ∀ k, off (scShut s) ts1 k = off s ts1 k := fun k => off_e k (fun i hi => rfl) (fun i hi => rfl)
      obtain ⟨a1, a2, a3, a4⟩ := k12 (sNs s - 1) (by omega)
      have b7 := B7 (sNs s - 1) (by omega)
      refine ⟨⟨⟨b7.1, b7.2.1, b7.2.2, ?_, ?_, ?_, ?_⟩, ⟨?_, ?_⟩, k3, k4, k5, k6, ?_, ?_, ?_, k10, ?_, ?_, ?_⟩, Nat.le_refl _, fun _ _ => rfl⟩
      · show sNs s - 1 ≤ 4; omega
      · intro i hi
        have hi : i < sCb s (sNs s - 1) := hi
        exact B5 i (by omega)
      · intro i hi
        have hi : i < sAb s (sNs s - 1) := hi
        exact B6 i (by omega)
      · intro i hi
        have hi : i < sNs s - 1 := hi
        exact B7 i (by omega)
      · intro i hi
        have hi : i < sCb s (sNs s - 1) := hi
        exact k2.1 i (by omega)
      · intro i k h1 h2
        have h2 : k < sCb s (sNs s - 1) := h2
        exact k2.2 i k h1 (by omega)
      · intro i hi
        have hi : i < sCb s (sNs s - 1) := hi
        rw [of1]
        exact k7 i (by omega)
      · intro i k h1 h2
        have h2 : k < sCb s (sNs s - 1) := h2
        exact k8 i k h1 (by omega)
      · exact (of1 _).trans a3.symm
      · intro k hk
        have hk : k < sAb s (sNs s - 1) := hk
        exact ⟨a4 k hk, (k11 k (by omega)).2⟩
      · intro i hi
        have hi : i < sNs s - 1 := hi
        have m := k13 i (sNs s - 1) hi (by omega)
        obtain ⟨b1, b2, b3, b4⟩ := k12 i (by omega)
        exact ⟨m.1, m.2, b3.trans (of1 _).symm, b4⟩
      · intro i k h1 h2
        have h2 : k < sNs s - 1 := h2
        exact k13 i k h1 (by omega)
end KP
