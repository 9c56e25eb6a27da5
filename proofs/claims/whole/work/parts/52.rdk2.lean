/-! reading keeps terms well formed -/
theorem pN_lt {ps : List Nat} {i : Nat} (h : i < ps.length) : pN ps i = (ps.getD i 0 : Int) := by
  unfold pN
  rw [List.getD_eq_getElem?_getD, List.getElem?_eq_getElem h]
  rfl
theorem pN_ge {ps : List Nat} {i : Nat} (h : ps.length ≤ i) : pN ps i = -1 ∧ ps.getD i 0 = 0 := by
  unfold pN
  rw [List.getD_eq_getElem?_getD, List.getElem?_eq_none h]
  exact ⟨rfl, rfl⟩
theorem pN_tn {ps : List Nat} {i : Nat} : (pN ps i).toNat = ps.getD i 0 := by
  by_cases h : i < ps.length
  · rw [pN_lt h]; exact Int.toNat_natCast _
  · rw [(pN_ge (by omega)).1, (pN_ge (by omega)).2]; rfl
theorem gd_mem {ps : List Nat} {i : Nat} (h : i < ps.length) : ps.getD i 0 ∈ ps := by
  rw [List.getD_eq_getElem?_getD, List.getElem?_eq_getElem h]
  exact List.getElem_mem h
theorem gd_app {ps : List Nat} {i t : Nat} (h : i < ps.length) : (ps ++ [t]).getD i 0 = ps.getD i 0 := by
  rw [List.getD_eq_getElem?_getD, List.getD_eq_getElem?_getD, List.getElem?_append_left h]
theorem gd_new {ps : List Nat} {t : Nat} : (ps ++ [t]).getD ps.length 0 = t := by
  rw [List.getD_eq_getElem?_getD, List.getElem?_append_right (Nat.le_refl _), Nat.sub_self]
  rfl
def ftA (k p : Int) (ts : Nat → Tm) (ps : List Nat) : Prop := ∀ i, i < ps.length → fitP k i (tS (ts (ps.getD i 0))) (tS (ts (ps.getD 0 0))) (tS (ts (ps.getD 1 0))) p
theorem ftA_app {k p : Int} {ts : Nat → Tm} {ps : List Nat} {t : Nat} (h : ftA k p ts ps) (hf : fitP k ps.length (tS (ts t)) (tS (ts ((ps ++ [t]).getD 0 0))) (tS (ts ((ps ++ [t]).getD 1 0))) p) : ftA k p ts (ps ++ [t]) := by
  intro i hi
  rw [List.length_append, List.length_singleton] at hi
  by_cases e : i = ps.length
  · subst e
    rw [gd_new]
    exact hf
  · have hi' : i < ps.length := by omega
    rw [gd_app hi']
    have := h i hi'
    by_cases z : i = 0
    · subst z
      exact fp_0.mp this
    · have h0 : 0 < ps.length := by omega
      rw [gd_app h0]
      by_cases z1 : 1 < ps.length
      · rw [gd_app z1]; exact this
      · omega
theorem ftA_ext {k p : Int} {n : Nat} {ts ts' : Nat → Tm} {ps : List Nat} (h : ftA k p ts ps) (hn : 0 < n) (hp : ∀ t, t ∈ ps → t < n) (he : ∀ i, i < n → ts' i = ts i) : ftA k p ts' ps := by
  intro i hi
  have q : ∀ x, ps.getD x 0 < n := by
    intro x
    by_cases z : x < ps.length
    · exact hp _ (gd_mem z)
    · rw [(pN_ge (by omega)).2]; exact hn
  rw [he _ (q i), he _ (q 0), he _ (q 1)]
  exact h i hi
theorem tm_ok {k p q : Int} {n : Nat} {ts : Nat → Tm} {ps : List Nat} {A : Nat → Prop} (hk : 4 ≤ k ∧ k ≤ 34) (hp : 0 ≤ p ∧ p ≤ 99) (hq : 0 ≤ q ∧ q ≤ 99) (h30 : k = 30 → q ≤ p) (hp0 : ¬ (30 ≤ k ∧ k ≤ 32) → p = 0) (hq0 : k ≠ 30 → q = 0) (W : WF n ts) (hn : n ≤ 100) (hl : ps.length = (np k).toNat) (ha : ∀ t, t ∈ ps → al n ts A t) (hf : ftA k p ts ps) :
    shp (tmOf k ts ps p q) ∧ (tx (tmOf k ts ps p q) < n ∧ ty (tmOf k ts ps p q) < n ∧ tz (tmOf k ts ps p q) < n) ∧ typ ts (tmOf k ts ps p q) ∧ tk (tmOf k ts ps p q) ≠ 0 ∧ (0 ≤ tx (tmOf k ts ps p q) → al n ts A (tx (tmOf k ts ps p q)).toNat) ∧ (0 ≤ ty (tmOf k ts ps p q) → al n ts A (ty (tmOf k ts ps p q)).toNat) ∧ (0 ≤ tz (tmOf k ts ps p q) → al n ts A (tz (tmOf k ts ps p q)).toNat) := by
  have nb := np_b hk
  have h0 : 0 < ps.length := by omega
  have n0 : 0 < n := Nat.lt_of_le_of_lt (Nat.zero_le _) (al_lt (ha _ (gd_mem h0)))
  have lt : ∀ x, ps.getD x 0 < n := by
    intro x
    by_cases z : x < ps.length
    · exact al_lt (ha _ (gd_mem z))
    · rw [(pN_ge (by omega)).2]; exact n0
  have sb : ∀ x, 0 ≤ tS (ts (ps.getD x 0)) ∧ tS (ts (ps.getD x 0)) ≤ 8 := fun x => (W.1 _ (lt x)).1.2.1
  have pb : ∀ x, -1 ≤ pN ps x ∧ pN ps x < n ∧ (0 ≤ pN ps x ↔ x < ps.length) := by
    intro x
    by_cases z : x < ps.length
    · rw [pN_lt z]; have := lt x; omega
    · rw [(pN_ge (by omega)).1]; omega
  have f0 : fitP k 0 (tS (ts (ps.getD 0 0))) (tS (ts (ps.getD 0 0))) 0 p := fp_0.mp (hf 0 h0)
  have f1 : 2 ≤ np k → fitP k 1 (tS (ts (ps.getD 1 0))) (tS (ts (ps.getD 0 0))) (tS (ts (ps.getD 1 0))) p := fun z => hf 1 (by omega)
  have f2 : 3 ≤ np k → fitP k 2 (tS (ts (ps.getD 2 0))) (tS (ts (ps.getD 0 0))) (tS (ts (ps.getD 1 0))) p := fun z => hf 2 (by omega)
  have rb := res_b hk (sb 0) (sb 1) hp.1 hq.1 h30 f0 f1
  have b0 := pb 0
  have b1 := pb 1
  have b2 := pb 2
  have eal : ∀ x, 0 ≤ pN ps x → al n ts A (pN ps x).toNat := by
    intro x z
    have := (pb x).2.2.mp z
    rw [pN_tn]
    exact ha _ (gd_mem this)
  refine ⟨?_, ⟨b0.2.1, b1.2.1, b2.2.1⟩, ?_, ?_, eal 0, eal 1, eal 2⟩
  · unfold shp tmOf
    dsimp only [tk, tS, tx, ty, tz, tp, tq, to]
    refine ⟨by omega, rb, by omega, by omega, by omega, by omega, by omega, by omega, by omega, by omega, by omega, by omega, by omega, fun _ => rfl⟩
  · unfold typ tmOf
    dsimp only [tk, tS, tx, ty, tz, tp, tq, to]
    rw [pN_tn, pN_tn, pN_tn]
    exact ⟨fun z => by omega, fun z => by omega, fun z => by omega, fun _ => ⟨f0, f1, f2, rfl, h30, hp0, hq0⟩⟩
  · dsimp only [tmOf, tk]; omega
theorem mkR_k {A : Nat → Prop} {j n : Nat} {ts : Nat → Tm} {m : Tm} (W : WF n ts) (hs : shp m) (hp : tx m < n ∧ ty m < n ∧ tz m < n) (ht : typ ts m) (h0 : tk m ≠ 0) (h1 : 0 ≤ tx m → al n ts A (tx m).toNat) (h2 : 0 ≤ ty m → al n ts A (ty m).toNat) (h3 : 0 ≤ tz m → al n ts A (tz m).toNat) {t j' n' : Nat} {ts' : Nat → Tm} (e : mkR n ts m j = .inr (t, j', n', ts')) : WF n' ts' ∧ al n' ts' A t ∧ n ≤ n' ∧ n' ≤ n + 1 ∧ (∀ i, i < n → ts' i = ts i) ∧ j' = j := by
  simp only [mkR, Sum.inr.injEq, Prod.mk.injEq] at e
  obtain ⟨rfl, rfl, rfl, rfl⟩ := e
  have b := mt_at (n := n) (ts := ts) (m := m)
  exact ⟨mt_wf W hs hp ht, mt_al h0 h1 h2 h3, b.2.2.1, b.2.2.2, fun i hi => mt_old hi, rfl⟩
theorem lkF_m {s : Sc} {L : List Nat} : ∀ (d i : Nat), lkF s L d i = -1 ∨ ∃ k, i ≤ k ∧ k < i + d ∧ sNm s k = L ∧ lkF s L d i = (sCt s k : Int) := by
  intro d
  induction d with
  | zero => intro i; exact Or.inl rfl
  | succ d ih =>
    intro i
    unfold lkF
    by_cases q : sNm s i = L
    · rw [if_pos q]; exact Or.inr ⟨i, by omega, by omega, q, rfl⟩
    · rw [if_neg q]
      rcases ih (i + 1) with z | ⟨k, a, b, x, y⟩
      · exact Or.inl z
      · exact Or.inr ⟨k, by omega, by omega, x, y⟩
/-- constants and lets are built of A -/
def AL (s : Sc) (lets : List (List Nat × Nat)) (A : Nat → Prop) (n : Nat) (ts : Nat → Tm) : Prop := (∀ i, i < sNc s → al n ts A (sCt s i)) ∧ ∀ p, p ∈ lets → al n ts A p.2
theorem AL_ext {s : Sc} {lets : List (List Nat × Nat)} {A : Nat → Prop} {n n' : Nat} {ts ts' : Nat → Tm} (h : AL s lets A n ts) (hn : n ≤ n') (he : ∀ i, i < n → ts' i = ts i) : AL s lets A n' ts' := ⟨fun i hi => al_ext hn he (h.1 i hi), fun p hp => al_ext hn he (h.2 p hp)⟩
theorem mng_m {s : Sc} {A : Nat → Prop} {n : Nat} {ts : Nat → Tm} {L : List Nat} : ∀ (lets : List (List Nat × Nat)), AL s lets A n ts → mng s lets L = -1 ∨ ∃ t : Nat, mng s lets L = (t : Int) ∧ al n ts A t := by
  intro lets
  induction lets with
  | nil =>
    intro H
    rcases lkF_m (s := s) (L := L) (sNc s) 0 with z | ⟨k, a, b, x, y⟩
    · exact Or.inl z
    · exact Or.inr ⟨_, y, H.1 k (by omega)⟩
  | cons p r ih =>
    intro H
    unfold mng
    by_cases q : p.1 = L
    · rw [if_pos q]; exact Or.inr ⟨_, rfl, H.2 p (List.mem_cons_self ..)⟩
    · rw [if_neg q]; exact ih ⟨H.1, fun x hx => H.2 x (List.mem_cons_of_mem _ hx)⟩
section RK
variable {c : Nat → Int} {len : Nat} {s : Sc} {A : Nat → Prop}
def Pre (c : Nat → Int) (len : Nat) (s : Sc) (A : Nat → Prop) (lets : List (List Nat × Nat)) (j n : Nat) (ts : Nat → Tm) : Prop := WF n ts ∧ 3 * n ≤ 180 + jB c len j ∧ AL s lets A n ts ∧ len ≤ 120
/-- what holds behind a reading; u the room that the head gave -/
def Aft (c : Nat → Int) (len : Nat) (A : Nat → Prop) (u j n : Nat) (ts : Nat → Tm) (t j' n' : Nat) (ts' : Nat → Tm) : Prop := WF n' ts' ∧ al n' ts' A t ∧ n ≤ n' ∧ (∀ i, i < n → ts' i = ts i) ∧ j < j' ∧ j' + jB c len j ≤ j + jB c len j' ∧ 3 * n' + jB c len j ≤ 3 * n + jB c len j' + u
theorem jB_le (j : Nat) : jB c len j ≤ len := tB_le j
theorem rdA_k {lets : List (List Nat × Nat)} {j n : Nat} {ts : Nat → Tm} (P : Pre c len s A lets j n ts) {t j' n' : Nat} {ts' : Nat → Tm} (e : rdA c len s lets j n ts = .inr (t, j', n', ts')) : Aft c len A 0 j n ts t j' n' ts' := by
  have lit : ∀ (m : Tm) (d : Nat), (∃ k w v : Int, m = (k, w, -1, -1, -1, if k = 3 then w else 0, v, 0) ∧ (1 ≤ k ∧ k ≤ 3) ∧ (0 ≤ w ∧ w ≤ 4) ∧ (k ≠ 3 → w = 0 ∧ v = 0) ∧ (k = 3 → 1 ≤ w) ∧ 0 ≤ v ∧ v < 2 ^ w.toNat) → 3 ≤ d → jB c len j + d ≤ jB c len (j + 1) → mkR n ts m (j + 1) = .inr (t, j', n', ts') → Aft c len A 0 j n ts t j' n' ts' := by
    intro m d hm hd ha e
    obtain ⟨k, w, v, rfl, hk, hw, hk3, hk1, hv, hv2⟩ := hm
    have n0 : np k = 0 := if_pos hk.2
    have v16 : v < 16 := by
      have : w = 0 ∨ w = 1 ∨ w = 2 ∨ w = 3 ∨ w = 4 := by omega
      rcases this with rfl | rfl | rfl | rfl | rfl <;> exact Int.lt_of_lt_of_le hv2 (by decide)
    have := mkR_k (A := A) (j := j + 1) P.1 (m := (k, w, -1, -1, -1, if k = 3 then w else 0, v, 0)) (by
      unfold shp
      dsimp only [tk, tS, tx, ty, tz, tp, tq, to]
      rw [n0]
      refine ⟨by omega, by omega, by omega, by omega, by omega, by omega, by omega, by omega, ?_, by omega, by omega, ?_, by omega, fun _ => rfl⟩
      · split <;> omega
      · intro z; rw [if_pos z]) ⟨by dsimp only [tx]; omega, by dsimp only [ty]; omega, by dsimp only [tz]; omega⟩ (by
      unfold typ
      dsimp only [tk, tS, tx, ty, tz, tp, tq, to]
      exact ⟨fun z => by omega, fun z => by omega, fun z => ⟨by omega, hv2⟩, fun z => by omega⟩) (by dsimp only [tk]; omega) (by dsimp only [tx]; intro z; omega) (by dsimp only [ty]; intro z; omega) (by dsimp only [tz]; intro z; omega) e
    obtain ⟨a, b, x, y, z, rfl⟩ := this
    exact ⟨a, b, x, z, by omega, by omega, by omega⟩
  unfold rdA at e
  by_cases q1 : jW c len j = some 8
  · rw [if_pos q1] at e
    exact lit _ 4 ⟨1, 0, 0, rfl, by decide, by decide, by decide, by decide, by decide, by decide⟩ (by decide) (adv_W q1) e
  rw [if_neg q1] at e
  by_cases q2 : jW c len j = some 9
  · rw [if_pos q2] at e
    exact lit _ 5 ⟨2, 0, 0, rfl, by decide, by decide, by decide, by decide, by decide, by decide⟩ (by decide) (adv_W q2) e
  rw [if_neg q2] at e
  by_cases q3 : 0 < jD c len j
  · rw [if_pos q3] at e
    have := jD_l q3
    exact lit _ 3 ⟨3, jD c len j, jV c len j, rfl, by decide, by omega, fun z => absurd rfl z, by omega, this.2.2.2.1, by rw [Int.toNat_natCast]; exact this.2.2.2.2.1⟩ (by decide) this.2.2.1 e
  rw [if_neg q3] at e
  by_cases q4 : jN c len j = 0
  · rw [if_pos q4] at e; cases e
  rw [if_neg q4] at e
  by_cases q5 : mng s lets (jL c len j) = -1
  · rw [if_pos q5] at e; cases e
  rw [if_neg q5] at e
  simp only [Sum.inr.injEq, Prod.mk.injEq] at e
  obtain ⟨rfl, rfl, rfl, rfl⟩ := e
  have b := jN_l q4
  rcases mng_m (L := jL c len j) lets P.2.2.1 with z | ⟨t, x, y⟩
  · exact absurd z q5
  · rw [x, Int.toNat_natCast]
    exact ⟨P.1, y, Nat.le_refl _, fun _ _ => rfl, by omega, by omega, by omega⟩
theorem rdP_k {rd : Nat → Nat → (Nat → Tm) → Rd} {lets : List (List Nat × Nat)} (H : ∀ j n ts, Pre c len s A lets j n ts → ∀ t j' n' ts', rd j n ts = .inr (t, j', n', ts') → Aft c len A 0 j n ts t j' n' ts') {k p : Int} : ∀ (d : Nat) (ps : List Nat) (j n : Nat) (ts : Nat → Tm), Pre c len s A lets j n ts → (∀ t, t ∈ ps → al n ts A t) → ftA k p ts ps → ∀ ps' j' n' ts', rdP rd k p d ps j n ts = .inr (ps', j', n', ts') → ps'.length = ps.length + d ∧ (∀ t, t ∈ ps' → al n' ts' A t) ∧ ftA k p ts' ps' ∧ WF n' ts' ∧ n ≤ n' ∧ (∀ i, i < n → ts' i = ts i) ∧ j ≤ j' ∧ j' + jB c len j ≤ j + jB c len j' ∧ 3 * n' + jB c len j ≤ 3 * n + jB c len j' := by
  intro d
  induction d with
  | zero =>
    intro ps j n ts P ha hf ps' j' n' ts' e
    simp only [rdP, Sum.inr.injEq, Prod.mk.injEq] at e
    obtain ⟨rfl, rfl, rfl, rfl⟩ := e
    exact ⟨rfl, ha, hf, P.1, Nat.le_refl _, fun _ _ => rfl, Nat.le_refl _, by omega, by omega⟩
  | succ d ih =>
    intro ps j n ts P ha hf ps' j' n' ts' e
    unfold rdP at e
    cases r : rd j n ts with
    | inl x => rw [r] at e; cases e
    | inr x =>
      obtain ⟨t, j1, n1, ts1⟩ := x
      rw [r] at e
      have a := H j n ts P t j1 n1 ts1 r
      dsimp only at e
      split at e
      · rename_i fq
        have fq := fitB_t.mp fq
        have P1 : Pre c len s A lets j1 n1 ts1 := ⟨a.1, by have := a.2.2.2.2.2.2; have := P.2.1; omega, AL_ext P.2.2.1 a.2.2.1 a.2.2.2.1, P.2.2.2⟩
        have ha1 : ∀ t', t' ∈ ps ++ [t] → al n1 ts1 A t' := by
          intro t' ht
          rcases List.mem_append.mp ht with z | z
          · exact al_ext a.2.2.1 a.2.2.2.1 (ha t' z)
          · rw [List.mem_singleton.mp z]; exact a.2.1
        have hf0 : ftA k p ts1 ps := by
          by_cases z : ps = []
          · subst z; intro i hi; cases hi
          · have l0 : 0 < ps.length := List.length_pos_iff.mpr z
            exact ftA_ext hf (Nat.lt_of_le_of_lt (Nat.zero_le _) (al_lt (ha _ (gd_mem l0)))) (fun t' ht => al_lt (ha t' ht)) a.2.2.2.1
        have := ih (ps ++ [t]) j1 n1 ts1 P1 ha1 (ftA_app hf0 fq) ps' j' n' ts' e
        obtain ⟨b1, b2, b3, b4, b5, b6, b7, b8, b9⟩ := this
        obtain ⟨a1, a2, a3, a4, a5, a6, a7⟩ := a
        refine ⟨by rw [b1, List.length_append, List.length_singleton]; omega, b2, b3, b4, by omega, fun i hi => by rw [b6 i (by omega), a4 i hi], by omega, by omega, by omega⟩
      · cases e
theorem rdApp_k {rd : Nat → Nat → (Nat → Tm) → Rd} {lets : List (List Nat × Nat)} (H : ∀ j n ts, Pre c len s A lets j n ts → ∀ t j' n' ts', rd j n ts = .inr (t, j', n', ts') → Aft c len A 0 j n ts t j' n' ts') {k p q : Int} (hk : 4 ≤ k ∧ k ≤ 34) (hp : 0 ≤ p ∧ p ≤ 99) (hq : 0 ≤ q ∧ q ≤ 99) (h30 : k = 30 → q ≤ p) (hp0 : ¬ (30 ≤ k ∧ k ≤ 32) → p = 0) (hq0 : k ≠ 30 → q = 0) {j n : Nat} {ts : Nat → Tm} (P : Pre c len s A lets j n ts) {t j' n' : Nat} {ts' : Nat → Tm} (e : rdApp c len rd k p q j n ts = .inr (t, j', n', ts')) : Aft c len A 2 j n ts t j' n' ts' := by
  unfold rdApp at e
  cases r : rdP rd k p (np k).toNat [] j n ts with
  | inl x => rw [r] at e; cases e
  | inr x =>
    obtain ⟨ps, j1, n1, ts1⟩ := x
    rw [r] at e
    obtain ⟨b1, b2, b3, b4, b5, b6, b7, b8, b9⟩ := rdP_k H _ _ _ _ _ P (fun t z => by cases z) (fun i z => by cases z) _ _ _ _ r
    unfold rdF at e
    dsimp only at e
    split at e
    · rename_i o
      have a1 := adv_O o
      have l := jB_le (c := c) (len := len) j1
      have p2 := P.2.1
      have p3 := P.2.2.2
      have := tm_ok hk hp hq h30 hp0 hq0 b4 (by omega) (by rw [b1]; exact Nat.zero_add _) b2 b3
      obtain ⟨c1, c2, c3, c4, c5, c6, c7⟩ := this
      obtain ⟨d1, d2, d3, d4, d5, rfl⟩ := mkR_k b4 c1 c2 c3 c4 c5 c6 c7 e
      exact ⟨d1, d2, by omega, fun i hi => by rw [d5 i (by omega), b6 i hi], by omega, by omega, by omega⟩
    · cases e
theorem Pre_mv {lets : List (List Nat × Nat)} {j j' n : Nat} {ts : Nat → Tm} (P : Pre c len s A lets j n ts) (h : jB c len j ≤ jB c len j') : Pre c len s A lets j' n ts := ⟨P.1, by have := P.2.1; omega, P.2.2⟩
theorem Aft_mv {j j0 n t j' n' u v : Nat} {ts ts' : Nat → Tm} (h : Aft c len A u j0 n ts t j' n' ts') (h1 : j ≤ j0) (h2 : j0 + jB c len j ≤ j + jB c len j0) (h3 : jB c len j + u ≤ jB c len j0 + v) : Aft c len A v j n ts t j' n' ts' := by
  obtain ⟨d1, d2, d3, d4, d5, d6, d7⟩ := h
  exact ⟨d1, d2, d3, d4, by omega, by omega, by omega⟩
theorem rdNum_k {rd : Nat → Nat → (Nat → Tm) → Rd} {lets : List (List Nat × Nat)} (H : ∀ j n ts, Pre c len s A lets j n ts → ∀ t j' n' ts', rd j n ts = .inr (t, j', n', ts') → Aft c len A 0 j n ts t j' n' ts') {j n : Nat} {ts : Nat → Tm} (P : Pre c len s A lets j n ts) {t j' n' : Nat} {ts' : Nat → Tm} (e : rdNum c len rd j n ts = .inr (t, j', n', ts')) : Aft c len A 0 j n ts t j' n' ts' := by
  unfold rdNum at e
  by_cases q1 : jW c len j = some 3
  · rw [if_neg (fun z => z q1)] at e
    have a1 := adv_W1 q1
    by_cases q2 : jW c len (j + 1) = some 37 ∨ jW c len (j + 1) = some 38 ∨ jW c len (j + 1) = some 39
    · rw [if_neg (fun z => z q2)] at e
      have a2 : jB c len (j + 1) + 1 ≤ jB c len (j + 1 + 1) := by rcases q2 with z | z | z <;> exact adv_W1 z
      by_cases q3 : jU c len (j + 2) = -1
      · rw [if_pos q3] at e; cases e
      rw [if_neg q3] at e
      have a3 := jU_l q3
      by_cases q4 : jW c len (j + 1) = some 37
      · rw [if_pos q4] at e
        by_cases q5 : jU c len (j + 3) = -1 ∨ jU c len (j + 2) < jU c len (j + 3)
        · rw [if_pos q5] at e; cases e
        rw [if_neg q5] at e
        have a4 := jU_l (c := c) (len := len) (j := j + 3) (fun z => q5 (Or.inl z))
        by_cases q6 : jO c len (j + 4) 41 = true
        · rw [if_pos q6] at e
          have a5 := adv_O q6
          simp only [Nat.add_assoc, Nat.reduceAdd] at a1 a2 a3 a4 a5
          have := rdApp_k H (by decide) ⟨a3.1, a3.2.1⟩ ⟨a4.1, a4.2.1⟩ (fun _ => by omega) (fun z => absurd (by decide) z) (fun z => absurd rfl z) (Pre_mv P (by omega)) e
          exact Aft_mv this (by omega) (by omega) (by omega)
        · rw [if_neg q6] at e; cases e
      · rw [if_neg q4] at e
        by_cases q6 : jO c len (j + 3) 41 = true
        · rw [if_pos q6] at e
          have a5 := adv_O q6
          simp only [Nat.add_assoc, Nat.reduceAdd] at a1 a2 a3 a5
          have := rdApp_k H (by split <;> decide) ⟨a3.1, a3.2.1⟩ (by decide) (fun _ => a3.1) (by split <;> (intro z; exact absurd (by decide) z)) (fun _ => rfl) (Pre_mv P (by omega)) e
          exact Aft_mv this (by omega) (by omega) (by omega)
        · rw [if_neg q6] at e; cases e
    · rw [if_pos q2] at e; cases e
  · rw [if_pos q1] at e; cases e
theorem rdLet_k {rd : List (List Nat × Nat) → Nat → Nat → (Nat → Tm) → Rd} {lets : List (List Nat × Nat)} (H : ∀ lets j n ts, Pre c len s A lets j n ts → ∀ t j' n' ts', rd lets j n ts = .inr (t, j', n', ts') → Aft c len A 0 j n ts t j' n' ts') {j n : Nat} {ts : Nat → Tm} (P : Pre c len s A lets j n ts) {t j' n' : Nat} {ts' : Nat → Tm} (e : rdLet c len rd lets j n ts = .inr (t, j', n', ts')) : Aft c len A 0 j n ts t j' n' ts' := by
  unfold rdLet at e
  by_cases q1 : jO c len j 40 = true
  · rw [if_neg (fun z => z q1)] at e
    have a1 := adv_O q1
    by_cases q2 : jO c len (j + 1) 40 = true
    · rw [if_neg (fun z => z q2)] at e
      have a2 := adv_O q2
      by_cases q3 : jN c len (j + 2) = 0
      · rw [if_pos q3] at e; cases e
      rw [if_neg q3] at e
      have a3 := (jN_l q3).2.2.1
      simp only [Nat.add_assoc, Nat.reduceAdd] at a1 a2 a3
      cases r : rd lets (j + 3) n ts with
      | inl x => rw [r] at e; cases e
      | inr x =>
        obtain ⟨t1, j1, n1, ts1⟩ := x
        rw [r] at e
        have b := H lets (j + 3) n ts (Pre_mv P (by omega)) t1 j1 n1 ts1 r
        obtain ⟨d1, d2, d3, d4, d5, d6, d7⟩ := b
        unfold rdL2 at e
        dsimp only at e
        by_cases q4 : jO c len j1 41 = true
        · rw [if_neg (fun z => z q4)] at e
          have a4 := adv_O q4
          by_cases q5 : jO c len (j1 + 1) 41 = true
          · rw [if_neg (fun z => z q5)] at e
            have a5 := adv_O q5
            simp only [Nat.add_assoc, Nat.reduceAdd] at a4 a5
            cases r2 : rd ((jL c len (j + 2), t1) :: lets) (j1 + 2) n1 ts1 with
            | inl x => rw [r2] at e; cases e
            | inr x =>
              obtain ⟨t2, j2, n2, ts2⟩ := x
              rw [r2] at e
              have A1 := AL_ext P.2.2.1 d3 d4
              have p2 := P.2.1
              have P2 : Pre c len s A ((jL c len (j + 2), t1) :: lets) (j1 + 2) n1 ts1 := ⟨d1, by omega, ⟨A1.1, fun p hp => by
                rcases List.mem_cons.mp hp with z | z
                · rw [z]; exact d2
                · exact A1.2 p z⟩, P.2.2.2⟩
              obtain ⟨f1, f2, f3, f4, f5, f6, f7⟩ := H _ (j1 + 2) n1 ts1 P2 t2 j2 n2 ts2 r2
              dsimp only at e
              by_cases q6 : jO c len j2 41 = true
              · rw [if_pos q6] at e
                have a6 := adv_O q6
                simp only [Sum.inr.injEq, Prod.mk.injEq] at e
                obtain ⟨rfl, rfl, rfl, rfl⟩ := e
                exact ⟨f1, f2, by omega, fun i hi => by rw [f4 i (by omega), d4 i hi], by omega, by omega, by omega⟩
              · rw [if_neg q6] at e; cases e
          · rw [if_pos q5] at e; cases e
        · rw [if_pos q4] at e; cases e
    · rw [if_pos q2] at e; cases e
  · rw [if_pos q1] at e; cases e
theorem rdT_k : ∀ (f : Nat) (lets : List (List Nat × Nat)) (j n : Nat) (ts : Nat → Tm), Pre c len s A lets j n ts → ∀ t j' n' ts', rdT c len s f lets j n ts = .inr (t, j', n', ts') → Aft c len A 0 j n ts t j' n' ts' := by
  intro f
  induction f with
  | zero => intro lets j n ts P t j' n' ts' e; cases e
  | succ f ih =>
    intro lets j n ts P t j' n' ts' e
    unfold rdT at e
    by_cases q1 : jO c len j 40 = true
    · rw [if_neg (fun z => z q1)] at e
      have a1 := adv_O q1
      by_cases q2 : jO c len (j + 1) 40 = true
      · rw [if_pos q2] at e
        have a2 := adv_O q2
        simp only [Nat.add_assoc, Nat.reduceAdd] at a1 a2
        exact Aft_mv (rdNum_k (ih lets) (Pre_mv P (by omega)) e) (by omega) (by omega) (by omega)
      rw [if_neg q2] at e
      cases hw : jW c len (j + 1) with
      | none => rw [hw] at e; cases e
      | some w =>
        rw [hw] at e
        have a2 := adv_W1 hw
        have wl : w < 42 := wdx_lt hw
        simp only [Nat.add_assoc, Nat.reduceAdd] at a1 a2
        dsimp only at e
        by_cases q3 : w = 10
        · rw [if_pos q3] at e
          exact Aft_mv (rdLet_k ih (Pre_mv P (by omega)) e) (by omega) (by omega) (by omega)
        rw [if_neg q3] at e
        by_cases q4 : 11 ≤ w ∧ ¬ (37 ≤ w ∧ w ≤ 39)
        · rw [if_pos q4] at e
          exact Aft_mv (rdApp_k (ih lets) (by omega) (by decide) (by decide) (by omega) (fun _ => rfl) (fun _ => rfl) (Pre_mv P (by omega)) e) (by omega) (by omega) (by omega)
        · rw [if_neg q4] at e; cases e
    · rw [if_pos q1] at e
      exact rdA_k P e
end RK
