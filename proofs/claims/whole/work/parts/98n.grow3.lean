/-! the class's circuits: all terms; circuits of more terms -/
/-- circuits of b terms -/
def CirC (n : Nat) (ts : Nat → Tm) (h : mx_H) (b z : Nat) (gs : Nat → Gt) : Prop := h.1 28 3 = iI (b : Int) ∧ GtC z gs h.1 ∧ GW z gs ∧ CirB n ts z gs h b ∧ z ≤ 9 + 16 * b + 48 * hv ts b
def GrF (h h' : mx_H) : Prop := (∀ a k, a < 22 ∨ 32 < a → h'.1 a k = h.1 a k) ∧ h'.2 = h.2
section GU
variable {n : Nat} {ts : Nat → Tm}
theorem hv_mo : ∀ {b n : Nat}, b ≤ n → hv ts b ≤ hv ts n := by
  intro b n h
  induction n with
  | zero => rw [show b = 0 by omega]; exact Nat.le_refl _
  | succ n ih =>
    by_cases e : b = n + 1
    · rw [e]; exact Nat.le_refl _
    · exact Nat.le_trans (ih (by omega)) (by show hv ts n ≤ hv ts n + _; omega)
theorem hv_s (b : Nat) : hv ts (b + 1) = hv ts b + (if 19 ≤ tk (ts b) ∧ tk (ts b) ≤ 21 then 1 else 0) := rfl
theorem X1_grow_0 (W : WF n ts) (n6 : n ≤ 60) (h2 : hv ts n ≤ 2) : ∀ (d b z : Nat) (gs : Nat → Gt) (h : mx_H) (u1 u2 u3 u4 : Value), b + d = n → TermC n ts h.1 h.2.2 → CirC n ts h b z gs → ∃ z' gs' h', mx_D (14, mm_X1_grow, 0, [.ref 28, u1, u2, u3, u4], []) h = some (none, h') ∧ CirC n ts h' n z' gs' ∧ GrF h h' := by
  intro d
  induction d with
  | zero =>
    intro b z gs h u1 u2 u3 u4 hb T K
    have bn : b = n := by omega
    rw [bn] at K
    refine ⟨z, gs, h, ?_, K, fun _ _ _ => rfl, rfl⟩
    rw [e_X1_grow_0, K.1, T.1, if_pos ((ii_le (by omega)).mpr (by omega)), e_X1_grow_274]
  | succ d ih =>
    intro b z gs h u1 u2 u3 u4 hb T K
    obtain ⟨K1, K2, K3, K4, K5⟩ := K
    have bn : b < n := by omega
    have C : Cx n b ts h := ⟨K1, bn, n6, T⟩
    have hs := hv_s (ts := ts) b
    have hm := hv_mo (ts := ts) (show b + 1 ≤ n by omega)
    have st : GrO n ts b (if 19 ≤ tk (ts b) ∧ tk (ts b) ≤ 21 then 64 else 16) z gs h (mx_D (14, mm_X1_grow, 0, [.ref 28, u1, u2, u3, u4], []) h) := by
      by_cases k4 : 4 ≤ tk (ts b)
      · refine grow_b W C K2 K3 K4 k4 ?_ u1 u2 u3 u4
        by_cases y : 19 ≤ tk (ts b) ∧ tk (ts b) ≤ 21
        · rw [if_pos y] at hs ⊢; omega
        · rw [if_neg y] at hs ⊢; omega
      · exact GrO_w (grow_a W C K2 K3 (by omega) u1 u2 u3 u4) (by omega)
    obtain ⟨z1, gs1, h1, v1, v2, v3, v4, e1, e2, e3⟩ := st
    have C1 := Cx_y e2 TD_29 C
    have zb := e2.2.2.2.1
    have h1f : ∀ a k, a < 22 ∨ 32 < a → h1.1 a k = h.1 a k := fun a k p => e2.2.2.2.2.2.1 a k (by omega) (by omega) (fun q => by rcases q with q | q; (have := q.1; have := q.2; omega); (have := q.1; omega))
    have K' : CirC n ts (mx_u h1.1 28 3 (h1.1 28 3 + 1), h1.2.1, h1.2.2) (b + 1) z1 gs1 := by
      obtain ⟨G1, G2, G3, G4⟩ := e2.1
      refine ⟨?_, ⟨?_, G2, G3, fun g a1 a2 => ?_⟩, e2.2.1, fun t ht i hi => ?_, ?_⟩
      · dsimp only
        rw [mu_s, C1.1, ii_s]
      · dsimp only
        rw [mu_c _ _ _ _ (by decide)]
        exact G1
      · dsimp only
        rw [mu_c _ _ _ _ (by decide), mu_c _ _ _ _ (by decide), mu_c _ _ _ _ (by decide), mu_c _ _ _ _ (by decide)]
        exact G4 g a1 a2
      · have sb := (T.2.2 t (by omega)).2.2.1
        have bb := bitsS_b sb
        have : CL z1 gs1 (QT n ts t) h1 29 (8 * t + i) (fun x => bt (vX ts x t) i) := by
          by_cases e : t = b
          · rw [e] at hi ⊢; exact e3 i hi
          · exact CL_y K3 e2 (by decide) (TD_t (w := 8) (by omega) t i (by omega) (by omega)) (K4 t (by omega) i hi)
        obtain ⟨l, l1, l2⟩ := this
        exact ⟨l, by dsimp only; rw [mu_c _ _ _ _ (by decide)]; exact l1, l2⟩
      · rw [hs]
        by_cases y : 19 ≤ tk (ts b) ∧ tk (ts b) ≤ 21
        · rw [if_pos y] at zb ⊢; omega
        · rw [if_neg y] at zb ⊢; omega
    have T' : TermC n ts (mx_u h1.1 28 3 (h1.1 28 3 + 1)) h1.2.2 := TermC_q (h' := (mx_u h1.1 28 3 (h1.1 28 3 + 1), h1.2.1, h1.2.2)) C1.2.2.2 (fun a k ha => by dsimp only; rw [mu_c _ _ _ _ (by omega)]) rfl
    obtain ⟨z2, gs2, h3, r1, r2, r3⟩ := ih (b + 1) z1 gs1 (mx_u h1.1 28 3 (h1.1 28 3 + 1), h1.2.1, h1.2.2) (mx_rf v1) (.int v2) (.int v3) (.int v4) (by omega) T' K'
    refine ⟨z2, gs2, h3, ?_, r2, fun a k p => ?_, ?_⟩
    · rw [e1, e_X1_grow_261]
      exact r1
    · rw [r3.1 a k p]
      dsimp only
      rw [mu_c _ _ _ _ (by omega)]
      exact h1f a k p
    · rw [r3.2]
      exact e2.2.2.2.2.2.2
theorem X1_grow_c (W : WF n ts) (n6 : n ≤ 60) (h2 : hv ts n ≤ 2) {b z : Nat} {gs : Nat → Gt} {h : mx_H} (hb : b ≤ n) (T : TermC n ts h.1 h.2.2) (K : CirC n ts h b z gs) : ∃ z' gs' h', mx_C mm_X1_grow [.ref 28] h = some (none, h') ∧ CirC n ts h' n z' gs' ∧ GrF h h' := by
  rw [c_X1_grow]
  exact X1_grow_0 W n6 h2 (n - b) b z gs h _ _ _ _ (by omega) T K
/-- old terms mean what they meant -/
theorem vX_ext {n' : Nat} {ts' : Nat → Tm} (W : WF n ts) (W' : WF n' ts') (hn : n ≤ n') (he : ∀ i, i < n → ts' i = ts i) {x : Int} : ∀ t, t < n → vX ts' x t = vX ts x t := by
  intro t
  induction t using Nat.strongRecOn with
  | _ t ih =>
    intro ht
    unfold vX
    have et := he t ht
    by_cases k0 : tk (ts t) = 0
    · rw [tvl_c k0, tvl_c (by rw [et]; exact k0)]
      unfold rhoX
      rw [et]
    · rw [tvl_o W ht k0, tvl_o W' (by omega) (by rw [et]; exact k0)]
      obtain ⟨_, pl, _⟩ := W.1 t ht
      have p : ∀ a : Int, a < t → prV (tvl ts' (rhoX ts' x)) a = prV (tvl ts (rhoX ts x)) a := by
        intro a ha
        unfold prV
        by_cases y : a < 0
        · rw [if_pos y, if_pos y]
        · rw [if_neg y, if_neg y]
          exact ih a.toNat (by omega) (by omega)
      have q : ∀ (a : Int) (d : Int), a < t → (if a < 0 then d else tS (ts' a.toNat)) = (if a < 0 then d else tS (ts a.toNat)) := by
        intro a d ha
        by_cases y : a < 0
        · rw [if_pos y, if_pos y]
        · rw [if_neg y, if_neg y, he _ (by omega)]
      unfold opT
      rw [et, p _ pl.1, p _ pl.2.1, p _ pl.2.2, q _ _ pl.1, q _ _ pl.2.1]
theorem al_res {n' : Nat} {ts' : Nat → Tm} (W : WF n ts) (he : ∀ i, i < n → ts' i = ts i) {A : Nat → Prop} {t : Nat} (ht : t < n) (a : al n' ts' A t) : al n ts A t := by
  obtain ⟨S, s1, s2⟩ := a
  refine ⟨fun u => S u ∧ u < n, ⟨s1, ht⟩, fun u hu => ?_⟩
  obtain ⟨p1, p2, p3, p4, p5⟩ := s2 u hu.1
  have pl := (W.1 u hu.2).2.1
  have eu := he u hu.2
  rw [eu] at p2 p3 p4 p5
  exact ⟨hu.2, p2, fun e => ⟨p3 e, by omega⟩, fun e => ⟨p4 e, by omega⟩, fun e => ⟨p5 e, by omega⟩⟩
theorem hv_ext {ts' : Nat → Tm} : ∀ b, (∀ i, i < b → ts' i = ts i) → hv ts' b = hv ts b := by
  intro b
  induction b with
  | zero => intro _; rfl
  | succ b ih =>
    intro he
    show hv ts' b + _ = hv ts b + _
    rw [ih (fun i hi => he i (by omega)), he b (by omega)]
theorem CirC_ext {n' : Nat} {ts' : Nat → Tm} (W : WF n ts) (W' : WF n' ts') (hn : n ≤ n') (he : ∀ i, i < n → ts' i = ts i) {h h' : mx_H} {z : Nat} {gs : Nat → Gt} (hh : ∀ a k, 22 ≤ a → h'.1 a k = h.1 a k) (K : CirC n ts h n z gs) : CirC n' ts' h' n z gs := by
  obtain ⟨K1, ⟨G1, G2, G3, G4⟩, K3, K4, K5⟩ := K
  refine ⟨by rw [hh _ _ (by decide)]; exact K1, ⟨by rw [hh _ _ (by decide)]; exact G1, G2, G3, fun g a b => by rw [hh _ _ (by decide), hh _ _ (by decide), hh _ _ (by decide), hh _ _ (by decide)]; exact G4 g a b⟩, K3, fun t ht i hi => ?_, by rw [hv_ext n he]; exact K5⟩
  rw [he t ht] at hi
  obtain ⟨l, l1, l2⟩ := K4 t ht i hi
  refine ⟨l, by rw [hh _ _ (by decide)]; exact l1, ?_⟩
  refine ⟨l2.1, fun x => by rw [l2.2.1]; dsimp only; rw [vX_ext W W' hn he t ht], fun I hI => l2.2.2 I ?_⟩
  obtain ⟨A, a1, a2⟩ := hI
  refine ⟨A, al_res W he ht a1, fun u hA hu hk j hj => ?_⟩
  have := a2 u hA (by omega) (by rw [he u hu]; exact hk) j (by rw [he u hu]; exact hj)
  rw [he u hu] at this
  exact this
end GU
