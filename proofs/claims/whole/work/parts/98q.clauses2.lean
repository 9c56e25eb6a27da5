/-! clauses that are written; an open place -/
def GaC (s : Se) (g : Nat → Nat) (w : Nat) (h : mx_H) : Prop := h.1 34 2 = iI (eM s : Int) ∧ (∀ c, c ≤ eM s → h.1 36 c = iI (eF s c : Int)) ∧ h.1 36 (eM s + 1) = iI ((eF s (eM s) + w : Nat) : Int) ∧ (∀ p, p < eF s (eM s) → h.1 35 p = iI (eP s p : Int)) ∧ ∀ j, j < w → h.1 35 (eF s (eM s) + j) = iI (g j : Int)
def fin (s : Se) (g : Nat → Nat) (w : Nat) : Se := (eM s + 1, (fun c => if c = eM s + 1 then eF s (eM s) + w else eF s c), (fun p => if eF s (eM s) ≤ p then g (p - eF s (eM s)) else eP s p), eT s, eX s, eR s, eQ s)
def CwF (h h' : mx_H) : Prop := (∀ a k, ¬ (34 ≤ a ∧ a ≤ 38) → h'.1 a k = h.1 a k) ∧ h'.2 = h.2
section CD
variable {z : Nat} {s : Se} {h : mx_H}
theorem GaC_0 {g : Nat → Nat} (C : ClC s h) : GaC s g 0 h := ⟨C.1, C.2.1, C.2.2.1, C.2.2.2, fun j hj => by omega⟩
theorem X2_gather_c {g : Nat → Nat} {w l : Nat} (I : clI z s) (C : GaC s g w h) (hw : eF s (eM s) + w < 14828) : ∃ h', mx_C mm_X2_gather [.ref 34, .int (iI ((l : Int)))] h = some (none, h') ∧ GaC s (fun j => if j = w then l else g j) (w + 1) h' ∧ (∀ a k, a ≠ 35 → a ≠ 36 → h'.1 a k = h.1 a k) ∧ h'.2 = h.2 := by
  have m5 := I.2.2.2.2.1
  obtain ⟨C1, C2, C3, C4, C5⟩ := C
  have em : iI (eM s : Int) + 1 = iI ((eM s + 1 : Nat) : Int) := ii_s _
  refine ⟨(mx_u (mx_u h.1 35 (eF s (eM s) + w) (iI (l : Int))) 36 (eM s + 1) (iI ((eF s (eM s) + (w + 1) : Nat) : Int)), h.2.1, h.2.2), ?_, ⟨?_, fun c hc => ?_, ?_, fun p hp => ?_, fun j hj => ?_⟩, fun a k a1 a2 => ?_, rfl⟩
  · rw [c_X2_gather, e_X2_gather_0, mu_c _ _ _ _ (by decide), mu_c _ _ _ _ (by decide), C1, em, cln (i := eM s + 1) (by omega), C3, if_neg (show ¬ (4516 : Int32) ≤ iI (eM s : Int) from fun q => by have := (ii_le (a := 4516) (by omega)).mp q; omega), if_pos (in_ (by omega) (by decide)), if_neg (show ¬ (14828 : Int32) ≤ iI ((eF s (eM s) + w : Nat) : Int) from fun q => by have := (ii_le (a := 14828) (by omega)).mp q; omega), if_pos (in_ (by omega) (by decide)), if_pos (in_ (by omega) (by decide)), if_pos (in_ (by omega) (by decide)), if_pos (in_ (by omega) (by decide)), e_X2_gather_59, cln (by omega), ii_s]
    rfl
  · dsimp only; rw [mu_c _ _ _ _ (by decide), mu_c _ _ _ _ (by decide)]; exact C1
  · dsimp only; rw [mu_k _ _ (by omega), mu_c _ _ _ _ (by decide)]; exact C2 c hc
  · dsimp only; rw [mu_s]
  · dsimp only; rw [mu_c _ _ _ _ (by decide), mu_k _ _ (by omega)]; exact C4 p hp
  · dsimp only; rw [mu_c _ _ _ _ (by decide)]
    by_cases e : j = w
    · rw [e, mu_s, if_pos rfl]
    · rw [mu_k _ _ (by omega), if_neg e]; exact C5 j (by omega)
  · dsimp only; rw [mu_c _ _ _ _ a2, mu_c _ _ _ _ a1]
theorem clI_fin {g : Nat → Nat} {w : Nat} (I : clI z s) (hw : 2 ≤ w) (hg : ∀ j, j < w → 1 ≤ g j / 2 ∧ g j / 2 < z) (hd : ∀ i j, i < w → j < w → g i / 2 = g j / 2 → i = j) (hm : eM s < 4515) (h8 : eF s (eM s) + w ≤ 14828) : clI z (fin s g w) := by
  obtain ⟨i1, i2, i3, i4, i5, i6⟩ := id I
  have F0 : ∀ c, c ≤ eM s → eF (fin s g w) c = eF s c := fun c hc => if_neg (by omega)
  have F1 : eF (fin s g w) (eM s + 1) = eF s (eM s) + w := if_pos rfl
  have P0 : ∀ p, p < eF s (eM s) → eP (fin s g w) p = eP s p := fun p hp => if_neg (by omega)
  have P1 : ∀ p, eF s (eM s) ≤ p → eP (fin s g w) p = g (p - eF s (eM s)) := fun p hp => if_pos hp
  refine ⟨by rw [F0 0 (by omega)]; exact i1, fun c hc => ?_, fun p hp => ?_, fun c p p' hc h1 h2 e => ?_, by show eM s + 1 ≤ 4515; omega, by show eF (fin s g w) (eM s + 1) ≤ 14828; rw [F1]; exact h8⟩
  · have hc : c < eM s + 1 := hc
    by_cases e : c = eM s
    · rw [e, F1, F0 _ (by omega)]; omega
    · rw [F0 c (by omega), F0 (c + 1) (by omega)]; exact i2 c (by omega)
  · have hp : p < eF (fin s g w) (eM s + 1) := hp
    rw [F1] at hp
    by_cases e : p < eF s (eM s)
    · rw [P0 p e]; exact i3 p e
    · rw [P1 p (by omega)]; exact hg _ (by omega)
  · have hc : c < eM s + 1 := hc
    unfold inR at h1 h2
    by_cases y : c = eM s
    · rw [y, F1, F0 _ (Nat.le_refl _)] at h1 h2
      rw [P1 p h1.1, P1 p' h2.1] at e
      have := hd _ _ (by omega) (by omega) e
      omega
    · rw [F0 c (by omega), F0 (c + 1) (by omega)] at h1 h2
      have l1 := inR_lt I (show c < eM s by omega) h1
      have l2 := inR_lt I (show c < eM s by omega) h2
      rw [P0 p l1, P0 p' l2] at e
      exact i4 c p p' (by omega) h1 h2 e
theorem X2_finish_c {g : Nat → Nat} {w : Nat} (I : clI z s) (z6 : z ≤ 1065) (C : GaC s g w h) (hw : 2 ≤ w) (hg : ∀ j, j < w → 1 ≤ g j / 2 ∧ g j / 2 < z) (hd : ∀ i j, i < w → j < w → g i / 2 = g j / 2 → i = j) (hm : eM s < 4515) (h8 : eF s (eM s) + w ≤ 14828) {ch : Nat → List Nat} (K : ChR z s ch [] h) : ∃ h' ch', mx_C mm_X2_finish [.ref 34] h = some (some (.int (iI ((eM s : Int)))), h') ∧ ClC (fin s g w) h' ∧ ChR z (fin s g w) ch' [] h' ∧ CwF h h' := by
  have m5 := I.2.2.2.2.1
  have I' := clI_fin I hw hg hd hm h8
  obtain ⟨C1, C2, C3, C4, C5⟩ := C
  have em : iI (eM s : Int) + 1 = iI ((eM s + 1 : Nat) : Int) := ii_s _
  have F0 : ∀ c, c ≤ eM s → eF (fin s g w) c = eF s c := fun c hc => if_neg (by omega)
  have F1 : eF (fin s g w) (eM s + 1) = eF s (eM s) + w := if_pos rfl
  have P0 : ∀ p, p < eF s (eM s) → eP (fin s g w) p = eP s p := fun p hp => if_neg (by omega)
  have P1 : ∀ p, eF s (eM s) ≤ p → eP (fin s g w) p = g (p - eF s (eM s)) := fun p hp => if_pos hp
  obtain ⟨h1, hh⟩ : ∃ h1 : mx_H, h1 = (mx_u (mx_u h.1 34 2 (iI ((eM s + 1 : Nat) : Int))) 36 (eM s + 2) (iI ((eF s (eM s) + w : Nat) : Int)), h.2.1, h.2.2) := ⟨_, rfl⟩
  have o1 : ∀ a j, a ≠ 34 → a ≠ 36 → h1.1 a j = h.1 a j := fun a j a1 a2 => by rw [hh]; dsimp only; rw [mu_c _ _ _ _ a2, mu_c _ _ _ _ a1]
  have CC1 : ClC (fin s g w) h1 := by
    refine ⟨?_, fun c hc => ?_, ?_, fun p hp => ?_⟩
    · show h1.1 34 2 = iI ((eM s + 1 : Nat) : Int)
      rw [hh]; dsimp only; rw [mu_c _ _ _ _ (by decide), mu_s]
    · have hc : c ≤ eM s + 1 := hc
      rw [hh]; dsimp only
      rw [mu_k _ _ (by omega), mu_c _ _ _ _ (by decide)]
      by_cases e : c = eM s + 1
      · rw [e, F1]; exact C3
      · rw [F0 c (by omega)]; exact C2 c (by omega)
    · show h1.1 36 (eM s + 1 + 1) = iI (eF (fin s g w) (eM s + 1) : Int)
      rw [F1, hh]; dsimp only; rw [mu_s]
    · have hp : p < eF (fin s g w) (eM s + 1) := hp
      rw [F1] at hp
      rw [o1 _ _ (by decide) (by decide)]
      by_cases e : p < eF s (eM s)
      · rw [P0 p e]; exact C4 p e
      · rw [P1 p (by omega)]
        have := C5 (p - eF s (eM s)) (by omega)
        rw [show eF s (eM s) + (p - eF s (eM s)) = p by omega] at this
        exact this
  have K1 : ChR z (fin s g w) ch (2 * eM s :: [2 * eM s + 1]) h1 := by
    intro l hl
    obtain ⟨c1, c2, c3⟩ := K l hl
    refine ⟨?_, c2, fun k => ?_⟩
    · rw [o1 37 l (by decide) (by decide)]
      exact Ch_e _ _ (fun j _ => o1 38 j (by decide) (by decide)) c1
    · have we : k < 2 * eM s → wl (fin s g w) k = wl s k := fun hk => by
        unfold wl
        rw [F0 _ (by omega), P0 _ (inR_lt I (show k / 2 < eM s by omega) (inR_w I hk))]
      rw [c3 k]
      constructor
      · intro q
        refine ⟨by show k < 2 * (eM s + 1); omega, by rw [we q.1]; exact q.2.1, fun y => ?_⟩
        have := q.1
        rcases List.mem_cons.mp y with y | y
        · omega
        · have := List.mem_singleton.mp y; omega
      · intro q
        have q1 : k < 2 * (eM s + 1) := q.1
        have q2 : k ≠ 2 * eM s := fun e => q.2.2 (by rw [e]; exact List.mem_cons_self ..)
        have q3 : k ≠ 2 * eM s + 1 := fun e => q.2.2 (List.mem_cons_of_mem _ (List.mem_singleton.mpr e))
        exact ⟨by omega, by rw [← we (by omega)]; exact q.2.1, by simp⟩
  obtain ⟨h2, a1, a2, a3, a4, a5, a6⟩ := X2_watch_c I' z6 CC1 (show 2 * eM s < 2 * (eM s + 1) by omega) K1 (by intro y; have := List.mem_singleton.mp y; omega)
  obtain ⟨h3, b1, b2, b3, b4, b5, b6⟩ := X2_watch_c I' z6 a4 (show 2 * eM s + 1 < 2 * (eM s + 1) by omega) a2 (by simp)
  refine ⟨h3, _, ?_, b4, b2, fun a k ha => by rw [b5.1 a k (by omega) (by omega) (by omega), a5.1 a k (by omega) (by omega) (by omega), o1 a k (by omega) (by omega)], by rw [b5.2, a5.2, hh]⟩
  have f0 : eF s (eM s) = eF s (eM s) := rfl
  rw [c_X2_finish, e_X2_finish_0, mu_s, C1, em, cln (i := eM s + 1) (by omega), cln (i := eM s) (by omega), mu_c _ _ _ _ (by decide), C3, C2 (eM s) (Nat.le_refl _), ii_sub, ii_s, if_neg (show ¬ (4516 : Int32) ≤ iI (eM s : Int) from fun q => by have := (ii_le (a := 4516) (by omega)).mp q; omega), if_pos (in_ (by omega) (by decide)), if_pos (in_ (by omega) (by decide)), if_pos (show (2 : Int32) ≤ iI (((eF s (eM s) + w : Nat) : Int) - (eF s (eM s) : Int)) from (ii_le (a := 2) (by omega)).mpr (by omega)), if_neg (show ¬ (4516 : Int32) ≤ iI ((eM s + 1 : Nat) : Int) from fun q => by have := (ii_le (a := 4516) (by omega)).mp q; omega), if_pos (in_ (by omega) (by decide)), if_pos (in_ (by omega) (by decide)), cln (by omega), show eM s + 1 + 1 = eM s + 2 from rfl, ← hh, e_X2_finish_82, show (2 : Int32) * iI (eM s : Int) = iI ((2 * eM s : Nat) : Int) from by rw [show (2 : Int32) = iI 2 from rfl, ii_mul]; rfl, a1]
  refine Eq.trans (e_X2_finish_89 ..) ?_
  rw [show (2 : Int32) * iI (eM s : Int) + 1 = iI ((2 * eM s + 1 : Nat) : Int) from by rw [show (2 : Int32) = iI 2 from rfl, ii_mul, show (1 : Int32) = iI 1 from rfl, ii_add]; rfl, b1]
  exact e_X2_finish_98 ..
theorem openPlace_12 (I : clI z s) (z6 : z ≤ 1065) (C : ClC s h) (TT : TrC z s h) (TI : trI z s) {c : Nat} (hc : c < eM s) : ∀ (d p : Nat), p + d = eF s (c + 1) → eF s c + 2 ≤ p → (∀ p', eF s c + 2 ≤ p' → p' < p → ∃ i, i < eT s ∧ eX s i = ng (eP s p')) → ∃ r, mx_D (2, mm_X6_openPlace, 12, [.ref 33, .int (iI ((c : Int))), .int (iI ((p : Int)))], []) h = some (some (.int r), h) ∧ ((r = -1 ∧ ∀ p', eF s c + 2 ≤ p' → p' < eF s (c + 1) → ∃ i, i < eT s ∧ eX s i = ng (eP s p')) ∨ ∃ p' : Nat, r = iI (p' : Int) ∧ (eF s c + 2 ≤ p' ∧ p' < eF s (c + 1)) ∧ ¬ ∃ i, i < eT s ∧ eX s i = ng (eP s p')) := by
  have m5 := I.2.2.2.2.1
  have f8 := I.2.2.2.2.2
  have fc := fr_mono I (show c + 1 ≤ eM s from hc) (Nat.le_refl _)
  intro d
  induction d with
  | zero =>
    intro p hp h2 hf
    refine ⟨-1, ?_, Or.inl ⟨rfl, fun p' a b => hf p' a (by omega)⟩⟩
    rw [e_X6_openPlace_12, ii_s, if_pos (in_ (by omega) (by decide)), cln (by omega), C.2.1 (c + 1) hc, if_pos ((ii_le (by omega)).mpr (by omega))]
  | succ d ih =>
    intro p hp h2 hf
    have lb := I.2.2.1 p (by omega)
    have e0 : mx_D (2, mm_X6_openPlace, 12, [.ref 33, .int (iI ((c : Int))), .int (iI ((p : Int)))], []) h = (mx_C mm_X6_truthOf [.ref 33, .int (iI ((eP s p : Int)))] h).bind (fun o => mx_D (2, mm_X6_openPlace, 40, [.ref 33, .int (iI ((c : Int))), .int (iI ((p : Int)))], o.1.toList ++ []) o.2) := by
      rw [e_X6_openPlace_12, ii_s, if_pos (in_ (by omega) (by decide)), cln (by omega), C.2.1 (c + 1) hc, if_neg (fun q => by have := (ii_le (by omega)).mp q; omega), if_pos (in_ (by omega) (by decide)), cln (by omega), C.2.2.2 p (by omega)]
    rw [e0]
    rcases tv_cases s (eP s p) with ⟨i, t⟩ | ⟨i, t⟩ | t
    · rw [truth_1 TT (by omega) t]
      refine ⟨iI (p : Int), ?_, Or.inr ⟨p, rfl, ⟨h2, by omega⟩, fun ⟨j, tj⟩ => tv_not TI t tj⟩⟩
      exact Eq.trans (e_X6_openPlace_40 ..) (if_neg (by decide))
    · rw [truth_0 TT (by omega) t]
      obtain ⟨r, r1, r2⟩ := ih (p + 1) (by omega) (by omega) (fun p' a b => by
        by_cases e : p' = p
        · rw [e]; exact ⟨i, t⟩
        · exact hf p' a (by omega))
      refine ⟨r, ?_, r2⟩
      refine Eq.trans (e_X6_openPlace_40 ..) ?_
      rw [if_pos rfl, ii_s]
      exact r1
    · rw [truth_2 TT (by omega) t]
      refine ⟨iI (p : Int), ?_, Or.inr ⟨p, rfl, ⟨h2, by omega⟩, fun ⟨j, tj⟩ => t j tj.1 (by rw [tj.2, ng_2])⟩⟩
      exact Eq.trans (e_X6_openPlace_40 ..) (if_neg (by decide))
theorem X6_openPlace_c (I : clI z s) (z6 : z ≤ 1065) (C : ClC s h) (TT : TrC z s h) (TI : trI z s) {c : Nat} (hc : c < eM s) : ∃ r, mx_C mm_X6_openPlace [.ref 33, .int (iI ((c : Int)))] h = some (some (.int r), h) ∧ ((r = -1 ∧ ∀ p', eF s c + 2 ≤ p' → p' < eF s (c + 1) → ∃ i, i < eT s ∧ eX s i = ng (eP s p')) ∨ ∃ p' : Nat, r = iI (p' : Int) ∧ (eF s c + 2 ≤ p' ∧ p' < eF s (c + 1)) ∧ ¬ ∃ i, i < eT s ∧ eX s i = ng (eP s p')) := by
  have m5 := I.2.2.2.2.1
  have i2 := I.2.1 c hc
  obtain ⟨r, r1, r2⟩ := openPlace_12 I z6 C TT TI hc (eF s (c + 1) - (eF s c + 2)) (eF s c + 2) (by omega) (by omega) (fun p' a b => by omega)
  refine ⟨r, ?_, r2⟩
  rw [c_X6_openPlace, e_X6_openPlace_0, if_pos (in_ (by omega) (by decide)), cln (by omega), C.2.1 c (by omega), show iI (eF s c : Int) + 2 = iI ((eF s c + 2 : Nat) : Int) from by rw [show (2 : Int32) = iI 2 from rfl, ii_add]; rfl]
  exact r1
end CD
