/-! the search: learnFrom, whole -/
/-- what is learned -/
def LN (s s' : Se) (w : Nat) (g ix : Nat → Nat) (t' : Nat) : Prop := (1 ≤ w ∧ (∀ j, j < w → ix j < eT s ∧ eR s (ix j) = -2 ∧ g j = ng (eX s (ix j))) ∧ ∀ j j', j < j' → j' < w → ix j' < ix j) ∧ (t' ≤ ix 0 ∧ ∀ i, i < eT s → dcn (eR s) (i + 1) = 0 → i < t') ∧ (w = 1 → s' = asg (ctT s t') (g 0) (-1) ∧ dcn (eR s) t' = 0) ∧ (2 ≤ w → w ≤ 8 ∧ s' = asg (ctT (fin s g w) t') (g 0) (eM s : Int))
section LH
variable {z : Nat} {gs : Nat → Gt} {N : Nat} {od : Nat → Nat} {Sol : Int → Prop} {s : Se}
theorem tr_inj (T : trI z s) {i j : Nat} (hi : i < eT s) (hj : j < eT s) (e : eX s i / 2 = eX s j / 2) : i = j := by
  by_cases a : i < j
  · exact absurd e (T.2 i j a hj)
  · by_cases b : j < i
    · exact absurd e.symm (T.2 j i b hi)
    · omega
theorem ix_inj {ix : Nat → Nat} {w : Nat} (J : ∀ j j', j < j' → j' < w → ix j' < ix j) {i j : Nat} (hi : i < w) (hj : j < w) (e : ix i = ix j) : i = j := by
  by_cases a : i < j
  · have := J i j a hj; omega
  · by_cases b : j < i
    · have := J j i b hi; omega
    · omega
theorem dcn_s {R : Nat → Int} {i : Nat} (h : R i = -2) : dcn R (i + 1) = dcn R i + 1 := by
  show dcn R i + (if R i = -2 then 1 else 0) = _
  rw [if_pos h]
theorem uI_new {g0 : Nat} {r : Int} {t' : Nat} : uI (asg (ctT s t') g0 r) t' := by
  refine ⟨by show t' ≤ t' + 1; omega, fun i h1 h2 => ?_⟩
  have h2 : i < t' + 1 := h2
  rw [show i = t' by omega]
  rfl
theorem X6_learnFrom_c (z6 : z ≤ 1065) (O : odI N od) {ch : Nat → List Nat} {h : mx_H} {q c : Nat} (C : SeC z s ch h) (K : MkC z (fun _ => False) h) (hq : q < eT s) (eq : eQ s = q + 1) (I : IvI z gs N od Sol s q) (hc : c < eM s) (al : ∀ l, inC s c l → ∃ i, i < eT s ∧ eX s i = ng l) (hm : eM s < 4515) (h8 : eF s (eM s) + 8 ≤ 14828) : (∃ h', mx_C mm_X6_learnFrom [.ref 33, .int (iI ((c : Int)))] h = some (some (.int 0), h') ∧ (∀ x, ¬ Sol x) ∧ SF h h' ∧ h'.1 36 0 = h.1 36 0) ∨ ∃ w g ix t' s' ch' h', mx_C mm_X6_learnFrom [.ref 33, .int (iI ((c : Int)))] h = some (some (.int 1), h') ∧ SeC z s' ch' h' ∧ MkC z (fun _ => False) h' ∧ SF h h' ∧ IvI z gs N od Sol s' (eQ s') ∧ LN s s' w g ix t' := by
  obtain ⟨I1, I2, I3, I4, I5, I6⟩ := I
  have lN := lev_N I2 I4 O
  have N8 := O.1
  have Tl := tr_l6 I2 z6
  obtain ⟨w, g, ix, h1, k1, k2, k3⟩ := X6_collect_c z6 I1 I2 I3 I4 (by omega) hc al C.1 C.2.1 C.2.2.1.1 K
  obtain ⟨J1, J2, J3, J4, J5, J6, J7, J8⟩ := k2
  have w8 : w ≤ 8 := by have : dcn (eR s) 0 = 0 := rfl; omega
  have gx : ∀ j, j < w → g j / 2 = eX s (ix j) / 2 := fun j hj => by rw [(J5 j hj).2.2.2, ng_2]
  have C1 : ClC s h1 := ClC_k C.1 (fun a k p1 p2 => k3.1 a k (by omega) (by omega) (by omega))
  have T1 : TrC z s h1 := TrC_k C.2.1 (fun a k p1 p2 => k3.1 a k (by omega) (by omega) (by omega))
  have K1 : ChR z s ch [] h1 := ChR_k C.2.2.2 (fun a k p => k3.1 a k (by omega) (by omega) (by omega)) rfl (fun _ => rfl)
  have h9 : h1.1 33 9 = iI (eT s : Int) := by rw [k3.1 _ _ (by decide) (by decide) (by decide)]; exact C.2.2.1.1
  have h10 : h1.1 33 10 = iI ((q + 1 : Nat) : Int) := by rw [k3.1 _ _ (by decide) (by decide) (by decide), C.2.2.1.2.1, eq]
  have call : mx_C mm_X6_learnFrom [.ref 33, .int (iI ((c : Int)))] h = mx_D (13, mm_X6_learnFrom, 5, [.ref 33, .int (iI ((c : Int))), mx_junk, mx_junk, mx_junk], []) h1 := by
    rw [c_X6_learnFrom, e_X6_learnFrom_0, k1]
    rfl
  have sound : ∀ x, Sol x → ∃ j, j < w ∧ lv gs x (g j) = true := by
    intro x hx
    apply Classical.byContradiction
    intro y
    refine J8 x hx (fun j hj => ?_) (fun j hj => by omega)
    cases e : lv gs x (g j) with
    | false => rfl
    | true => exact absurd ⟨j, hj, e⟩ y
  by_cases w0 : w = 0
  · left
    refine ⟨h1, ?_, ?_, ⟨fun a k p => k3.1 a k (by omega) (by omega) (by omega), k3.2⟩, k3.1 _ _ (by decide) (by decide) (by decide)⟩
    · rw [call, e_X6_learnFrom_5, J3, w0, if_pos (by decide)]
    · intro x hx
      obtain ⟨j, j1, _⟩ := sound x hx
      omega
  · right
    have i0 := J5 0 (by omega)
    have r0 := dcn_s i0.2.2.1
    by_cases w1 : w = 1
    · obtain ⟨t', h', a1, a2, a3, a4, a5, a6, a7, a8, a9⟩ := learn_80 z6 (v1 := iI (c : Int)) (v4 := mx_junk) (sB := s) (back := 0) (g0 := g 0) (r := -1) C1 T1 K1 h9 h10 (J4 0 (by omega)) I2 I6 hq (by omega) (by decide) (i0 := ix 0) i0.2.1 (gx 0 (by omega)) (by omega) (Or.inl rfl)
      refine ⟨w, g, ix, t', asg (ctT s t') (g 0) (-1), ch, h', ?_, a7, ?_, ?_, ?_, ?_⟩
      · rw [call, e_X6_learnFrom_5, J3, w1, if_neg (by decide), if_pos (by decide)]
        exact a6
      · intro u hu
        rw [a8 40 u (by omega) (by omega)]
        exact J1 u hu
      · refine ⟨fun a k p => ?_, by rw [a9, k3.2]⟩
        rw [a8 a k (by omega) (by omega), k3.1 a k (by omega) (by omega) (by omega)]
      · show IvI z gs N od Sol (asg (ctT s t') (g 0) (-1)) t'
        have tT : t' ≤ eT s := by omega
        refine ⟨I1, ?_, fun c hc x hx => I3 c hc x hx, ?_, ?_, uI_new⟩
        · refine trI_asg (trI_ct I2 tT) (by rw [gx 0 (by omega)]; exact I2.1 _ i0.2.1) (fun i hi => ?_)
          have hi : i < t' := hi
          rw [gx 0 (by omega)]
          exact I2.2 i (ix 0) (by omega) i0.2.1
        · refine rsI_asg (rsI_ct I4 tT) (Or.inl ⟨rfl, fun x hx => ?_⟩)
          obtain ⟨j, j1, j2⟩ := sound x hx
          rw [show (0 : Nat) = j by omega]
          exact j2
        · exact waI_asg (s := ctT s t') (Nat.le_refl _) (waI_ct I5 I6.1 a1 a3 a4)
      · refine ⟨⟨by omega, fun j hj => ⟨(J5 j hj).2.1, (J5 j hj).2.2.1, (J5 j hj).2.2.2⟩, J6⟩, ⟨a2, fun i hi e => ?_⟩, fun _ => ⟨rfl, a5⟩, fun y => by omega⟩
        by_cases y : i < t'
        · exact y
        · have := a4 i (by omega) hi
          omega
    · have w2 : 2 ≤ w := by omega
      have i1 := J5 1 (by omega)
      have i10 := J6 0 1 (by omega) (by omega)
      have hg : ∀ j, j < w → 1 ≤ g j / 2 ∧ g j / 2 < z := fun j hj => by rw [gx j hj]; exact I2.1 _ (J5 j hj).2.1
      have hd : ∀ i j, i < w → j < w → g i / 2 = g j / 2 → i = j := by
        intro i j hi hj e
        rw [gx i hi, gx j hj] at e
        exact ix_inj J6 hi hj (tr_inj I2 (J5 i hi).2.1 (J5 j hj).2.1 e)
      have b1 := hg 1 (by omega)
      obtain ⟨h2, e1, e2, e3, e4⟩ := learn_43 (v1 := iI (c : Int)) (v2 := -1) (v3 := iI ((dcn (eR s) (ix 1 + 1) : Nat) : Int)) (g := g) I1 w8 h8 w 0 h1 (by omega) (GaC_0 C1) J3 J4
      have K2 : ChR z s ch [] h2 := ChR_k K1 (fun a k p => e3 a k (by omega) (by omega)) rfl (fun _ => rfl)
      obtain ⟨h3, ch', f1, f2, f3, f4⟩ := X2_finish_c I1 z6 e2 w2 hg hd hm (by omega) K2
      have fr : ∀ a k, ¬ (34 ≤ a ∧ a ≤ 38) → h3.1 a k = h1.1 a k := fun a k p => by rw [f4.1 a k p, e3 a k (by omega) (by omega)]
      have T3 : TrC z (fin s g w) h3 := TrC_k (s := s) T1 (fun a k p1 p2 => fr a k (by omega))
      have bb := dcn_mono (R := eR s) (show ix 1 + 1 ≤ ix 0 by omega)
      obtain ⟨t', h', a1, a2, a3, a4, a5, a6, a7, a8, a9⟩ := learn_80 z6 (v1 := iI (c : Int)) (v4 := .int (iI ((w : Int)))) (sB := fin s g w) (back := dcn (eR s) (ix 1 + 1)) (g0 := g 0) (r := (eM s : Int)) f2 T3 f3 (by rw [fr _ _ (by decide)]; exact h9) (by rw [fr _ _ (by decide)]; exact h10) (by rw [fr _ _ (by decide)]; exact J4 0 (by omega)) (show trI z (fin s g w) from I2) (show uI (fin s g w) q from I6) hq (show dcn (eR s) (eT s) ≤ 8 by omega) (by omega) (i0 := ix 0) i0.2.1 (gx 0 (by omega)) (show dcn (eR s) (ix 1 + 1) < dcn (eR s) (ix 0 + 1) by omega) (Or.inr ⟨ix 1, i1.2.1, rfl⟩)
      have a3 : ∀ i, i < t' → dcn (eR s) (i + 1) ≤ dcn (eR s) (ix 1 + 1) := a3
      have a4 : ∀ i, t' ≤ i → i < eT s → dcn (eR s) (ix 1 + 1) < dcn (eR s) (i + 1) := a4
      have a5 : dcn (eR s) t' = dcn (eR s) (ix 1 + 1) := a5
      have tT : t' ≤ eT s := by omega
      have below : ∀ j, 1 ≤ j → j < w → ix j < t' := by
        intro j j1 j2
        by_cases y : ix j < t'
        · exact y
        · have := a4 (ix j) (by omega) (J5 j j2).2.1
          have le : ix j ≤ ix 1 := by
            by_cases e : j = 1
            · rw [e]; exact Nat.le_refl _
            · have := J6 1 j (by omega) j2
              omega
          have := dcn_mono (R := eR s) (show ix j + 1 ≤ ix 1 + 1 by omega)
          omega
      refine ⟨w, g, ix, t', asg (ctT (fin s g w) t') (g 0) (eM s : Int), ch', h', ?_, a7, ?_, ?_, ?_, ?_⟩
      · rw [call, e_X6_learnFrom_5, J3, if_neg (fun y => by have := (ii_eq (b := 0) (by omega) (by omega)).mp y; omega), if_neg (fun y => by have := (ii_le (b := 1) (by omega)).mp y; omega), if_pos (by decide), show ((1 : Int32).toNatClampNeg) = 1 from rfl, J4 1 (by omega), ii_h (by omega), if_pos (in_ (by omega) (by decide)), cln (by omega), gx 1 (by omega), (T1.2.1 (ix 1) i1.2.1).2.1]
        refine Eq.trans e1 ?_
        rw [f1]
        refine Eq.trans (e_X6_learnFrom_79 ..) ?_
        exact a6
      · intro u hu
        rw [a8 40 u (by omega) (by omega), fr _ _ (by decide)]
        exact J1 u hu
      · refine ⟨fun a k p => ?_, by rw [a9, f4.2, e4, k3.2]⟩
        rw [a8 a k (by omega) (by omega), fr a k (by omega), k3.1 a k (by omega) (by omega) (by omega)]
      · show IvI z gs N od Sol (asg (ctT (fin s g w) t') (g 0) (eM s : Int)) t'
        have cI : clI z (fin s g w) := clI_fin I1 w2 hg hd hm (by omega)
        refine ⟨cI, ?_, ?_, ?_, ?_, uI_new⟩
        · refine trI_asg (trI_ct (s := fin s g w) I2 tT) (hg 0 (by omega)) (fun i hi => ?_)
          have hi : i < t' := hi
          rw [gx 0 (by omega)]
          exact I2.2 i (ix 0) (by omega) i0.2.1
        · exact fun c hc x hx => sdI_fin I1 I3 sound c hc x hx
        · refine rsI_asg (rsI_ct (rsI_fin I1 I4) tT) (Or.inr (Or.inr ⟨eM s, by show eM s < eM s + 1; omega, rfl, inC_new.mpr ⟨0, by omega, rfl⟩, fun l' hl ne => ?_⟩))
          obtain ⟨j, j1, j2⟩ := inC_new.mp (show inC (fin s g w) (eM s) l' from hl)
          have j0 : j ≠ 0 := fun e => ne (by rw [← j2, e])
          refine ⟨ix j, below j (by omega) j1, ?_⟩
          show eX s (ix j) = ng l'
          rw [← j2, (J5 j j1).2.2.2, ng_ng]
        · intro k hk i hi e
          have hk : k < 2 * (eM s + 1) := hk
          have dn : dcn (eR (asg (ctT (fin s g w) t') (g 0) (eM s : Int))) (t' + 1) = dcn (eR s) (ix 1 + 1) := by
            have x : dcn (eR (asg (ctT (fin s g w) t') (g 0) (eM s : Int))) (t' + 1) = dcn (eR s) t' + (if (eM s : Int) = -2 then 1 else 0) := asg_dn (s := ctT (fin s g w) t')
            rw [x, if_neg (by omega), a5]; rfl
          have dk : ∀ i, i ≤ t' → dcn (eR (asg (ctT (fin s g w) t') (g 0) (eM s : Int))) i = dcn (eR s) i := fun i hi => asg_d (s := ctT (fin s g w) t') hi
          have e : eX s i = ng (wl (fin s g w) k) := by rw [← show eX (asg (ctT (fin s g w) t') (g 0) (eM s : Int)) i = eX s i from asg_X (s := ctT (fin s g w) t') hi]; exact e
          show ∃ j, j < t' + 1 ∧ eX (asg (ctT (fin s g w) t') (g 0) (eM s : Int)) j = wl (fin s g w) (ng k) ∧ _
          by_cases y : k < 2 * eM s
          · rw [wl_fin I1 y] at e
            rw [wl_fin I1 (ng_l y)]
            obtain ⟨j, j1, j2, j3⟩ := waI_ct I5 I6.1 a1 a3 a4 k y i hi e
            have j1 : j < t' := j1
            exact ⟨j, by omega, by rw [show eX (asg (ctT (fin s g w) t') (g 0) (eM s : Int)) j = eX s j from asg_X (s := ctT (fin s g w) t') j1]; exact j2, by rw [dk _ (by omega), dk _ (by omega)]; exact j3⟩
          · by_cases y0 : k = 2 * eM s
            · rw [y0, show 2 * eM s = 2 * eM s + 0 from rfl, wl_new (by decide), i0.2.2.2, ng_ng] at e
              have := tr_inj I2 (show i < eT s by omega) i0.2.1 (by rw [e])
              omega
            · have y1 : k = 2 * eM s + 1 := by omega
              rw [y1, wl_new (by decide), i1.2.2.2, ng_ng] at e
              have e := tr_inj I2 (show i < eT s by omega) i1.2.1 (by rw [e])
              refine ⟨t', by omega, ?_, ?_⟩
              · rw [y1, show ng (2 * eM s + 1) = 2 * eM s + 0 by unfold ng; rw [if_neg (by omega)]; omega, wl_new (by decide)]
                exact asg_Xn (s := ctT (fin s g w) t')
              · rw [dn, dk _ (by omega), e]
                exact Nat.le_refl _
      · refine ⟨⟨by omega, fun j hj => ⟨(J5 j hj).2.1, (J5 j hj).2.2.1, (J5 j hj).2.2.2⟩, J6⟩, ⟨a2, fun i hi e => ?_⟩, fun y => by omega, fun _ => ⟨w8, rfl⟩⟩
        by_cases y : i < t'
        · exact y
        · have := a4 i (by omega) hi
          omega
end LH
