/-! clauses and their chains -/
def wl (s : Se) (k : Nat) : Nat := eP s (eF s (k / 2) + k % 2)
def inR (s : Se) (c p : Nat) : Prop := eF s c ≤ p ∧ p < eF s (c + 1)
def clI (z : Nat) (s : Se) : Prop := eF s 0 = 0 ∧ (∀ c, c < eM s → eF s c + 2 ≤ eF s (c + 1)) ∧ (∀ p, p < eF s (eM s) → 1 ≤ eP s p / 2 ∧ eP s p / 2 < z) ∧ (∀ c p p', c < eM s → inR s c p → inR s c p' → eP s p / 2 = eP s p' / 2 → p = p') ∧ eM s ≤ 4515 ∧ eF s (eM s) ≤ 14828
def Ch (f : Nat → Int32) : Int32 → List Nat → Prop
  | v, [] => v = -1
  | v, k :: R => v = iI (k : Int) ∧ Ch f (f k) R
def ChR (z : Nat) (s : Se) (ch : Nat → List Nat) (R : List Nat) (h : mx_H) : Prop := ∀ l, l < 2 * z → Ch (h.1 38) (h.1 37 l) (ch l) ∧ (ch l).Nodup ∧ ∀ k, k ∈ ch l ↔ (k < 2 * eM s ∧ wl s k = l ∧ k ∉ R)
theorem Ch_e {f f' : Nat → Int32} : ∀ (R : List Nat) (v : Int32), (∀ k, k ∈ R → f' k = f k) → Ch f v R → Ch f' v R := by
  intro R
  induction R with
  | nil => intro v _ c; exact c
  | cons k R ih =>
    intro v h c
    refine ⟨c.1, ?_⟩
    rw [h k (List.mem_cons_self ..)]
    exact ih _ (fun j hj => h j (List.mem_cons_of_mem _ hj)) c.2
section CC
variable {z : Nat} {s : Se} {h : mx_H}
theorem fr_mono (I : clI z s) : ∀ {c c' : Nat}, c ≤ c' → c' ≤ eM s → eF s c ≤ eF s c' := by
  intro c c' h1 h2
  induction c' with
  | zero => rw [show c = 0 by omega]; exact Nat.le_refl _
  | succ d ih =>
    by_cases e : c = d + 1
    · rw [e]; exact Nat.le_refl _
    · have := ih (by omega) (by omega)
      have := I.2.1 d (by omega)
      omega
theorem inR_lt (I : clI z s) {c p : Nat} (hc : c < eM s) (h : inR s c p) : p < eF s (eM s) := Nat.lt_of_lt_of_le h.2 (fr_mono I hc (Nat.le_refl _))
theorem inR_w (I : clI z s) {k : Nat} (hk : k < 2 * eM s) : inR s (k / 2) (eF s (k / 2) + k % 2) := by
  have := I.2.1 (k / 2) (by omega)
  exact ⟨by omega, by omega⟩
theorem wl_b (I : clI z s) (z6 : z ≤ 1065) {k : Nat} (hk : k < 2 * eM s) : 1 ≤ wl s k / 2 ∧ wl s k / 2 < z ∧ wl s k < 2130 := by
  have := I.2.2.1 _ (inR_lt I (show k / 2 < eM s by omega) (inR_w I hk))
  unfold wl
  omega
theorem k1n {k : Nat} : iI (k : Int) &&& 1 = iI ((k % 2 : Nat) : Int) := by rw [show iI (k : Int) &&& 1 = iI ((k : Int) % 2) from ii_and1 _]; congr 1
theorem in_ {n a : Nat} (h : a < n) (hn : n < 2147483648) : mx_in (iI (a : Int)) n = true := of_eq_true (ii_in (by omega))
theorem X2_watched_c (I : clI z s) (C : ClC s h) {k : Nat} (hk : k < 2 * eM s) : mx_C mm_X2_watched [.ref 34, .int (iI ((k : Int)))] h = some (some (.int (iI ((wl s k : Int)))), h) := by
  have m5 := I.2.2.2.2.1
  have f8 := I.2.2.2.2.2
  have pl := inR_lt I (show k / 2 < eM s by omega) (inR_w I hk)
  have e2 : iI (eF s (k / 2) : Int) + iI ((k % 2 : Nat) : Int) = iI ((eF s (k / 2) + k % 2 : Nat) : Int) := by rw [ii_add]; rfl
  rw [c_X2_watched, e_X2_watched_0, ii_h (by omega), if_pos (in_ (by omega) (by decide)), cln (by omega), C.2.1 (k / 2) (by omega), k1n, e2, if_pos (in_ (by omega) (by decide)), cln (by omega), C.2.2.2 _ pl]
  rfl
def WtF (h h' : mx_H) : Prop := (∀ a k, a ≠ 35 → a ≠ 37 → a ≠ 38 → h'.1 a k = h.1 a k) ∧ h'.2 = h.2
theorem X2_watch_c (I : clI z s) (z6 : z ≤ 1065) (C : ClC s h) {k : Nat} (hk : k < 2 * eM s) {ch : Nat → List Nat} {R : List Nat} (K : ChR z s ch (k :: R) h) (kR : k ∉ R) : ∃ h', mx_C mm_X2_watch [.ref 34, .int (iI ((k : Int)))] h = some (none, h') ∧ ChR z s (fun l => if l = wl s k then k :: ch l else ch l) R h' ∧ (∀ v, Ch (h.1 38) v R → Ch (h'.1 38) v R) ∧ ClC s h' ∧ WtF h h' ∧ (∀ p, h'.1 35 p = h.1 35 p) := by
  have m5 := I.2.2.2.2.1
  have f8 := I.2.2.2.2.2
  have pl := inR_lt I (show k / 2 < eM s by omega) (inR_w I hk)
  have wb := wl_b I z6 hk
  have e2 : iI (eF s (k / 2) : Int) + iI ((k % 2 : Nat) : Int) = iI ((eF s (k / 2) + k % 2 : Nat) : Int) := by rw [ii_add]; rfl
  have kn : ∀ l, l < 2 * z → k ∉ ch l := fun l hl e => (((K l hl).2.2 k).mp e).2.2 (List.mem_cons_self ..)
  refine ⟨(mx_u (mx_u h.1 38 k (h.1 37 (wl s k))) 37 (wl s k) (iI (k : Int)), h.2.1, h.2.2), ?_, fun l hl => ?_, fun v hv => ?_, ⟨?_, ?_, ?_, ?_⟩, ⟨fun a j a1 a2 a3 => ?_, rfl⟩, fun p => ?_⟩
  · rw [c_X2_watch, e_X2_watch_0, ii_h (by omega), if_pos (in_ (by omega) (by decide)), cln (i := k / 2) (by omega), C.2.1 (k / 2) (by omega), k1n, e2, if_pos (in_ (by omega) (by decide)), cln (by omega), C.2.2.2 _ pl]
    have : eP s (eF s (k / 2) + k % 2) = wl s k := rfl
    rw [this, if_pos (in_ (by omega) (by decide)), if_pos (in_ (by omega) (by decide)), if_pos (in_ (by omega) (by decide)), cln (by omega), cln (by omega)]
  · obtain ⟨c1, c2, c3⟩ := K l hl
    dsimp only
    have keep : ∀ v, Ch (h.1 38) v (ch l) → Ch (mx_u (mx_u h.1 38 k (h.1 37 (wl s k))) 37 (wl s k) (iI (k : Int)) 38) v (ch l) := fun v hv => Ch_e _ _ (fun j hj => by rw [mu_c _ _ _ _ (by decide), mu_k _ _ (fun e => kn l hl (by rw [← e]; exact hj))]) hv
    by_cases e : l = wl s k
    · subst e
      rw [if_pos rfl]
      refine ⟨⟨mu_s _ _ _ _, ?_⟩, List.nodup_cons.mpr ⟨kn _ hl, c2⟩, fun j => ?_⟩
      · have kk := keep _ c1
        rw [show mx_u (mx_u h.1 38 k (h.1 37 (wl s k))) 37 (wl s k) (iI (k : Int)) 38 k = h.1 37 (wl s k) by rw [mu_c _ _ _ _ (by decide), mu_s]]
        exact kk
      · rw [List.mem_cons, c3 j]
        constructor
        · intro q
          rcases q with q | q
          · rw [q]; exact ⟨hk, rfl, kR⟩
          · exact ⟨q.1, q.2.1, fun y => q.2.2 (List.mem_cons_of_mem _ y)⟩
        · intro q
          by_cases y : j = k
          · exact Or.inl y
          · exact Or.inr ⟨q.1, q.2.1, fun w => by rcases List.mem_cons.mp w with w | w; exact y w; exact q.2.2 w⟩
    · rw [if_neg e]
      refine ⟨?_, c2, fun j => ?_⟩
      · rw [mu_k _ _ e, mu_c _ _ _ _ (by decide)]
        exact keep _ c1
      · rw [c3 j]
        constructor
        · intro q; exact ⟨q.1, q.2.1, fun y => q.2.2 (List.mem_cons_of_mem _ y)⟩
        · intro q
          refine ⟨q.1, q.2.1, fun w => ?_⟩
          rcases List.mem_cons.mp w with w | w
          · exact e (by rw [← q.2.1, w])
          · exact q.2.2 w
  · dsimp only
    exact Ch_e _ _ (fun j hj => by rw [mu_c _ _ _ _ (by decide), mu_k _ _ (fun e => kR (by rw [← e]; exact hj))]) hv
  · dsimp only; rw [mu_c _ _ _ _ (by decide), mu_c _ _ _ _ (by decide)]; exact C.1
  · intro c hc; dsimp only; rw [mu_c _ _ _ _ (by decide), mu_c _ _ _ _ (by decide)]; exact C.2.1 c hc
  · dsimp only; rw [mu_c _ _ _ _ (by decide), mu_c _ _ _ _ (by decide)]; exact C.2.2.1
  · intro p hp; dsimp only; rw [mu_c _ _ _ _ (by decide), mu_c _ _ _ _ (by decide)]; exact C.2.2.2 p hp
  · dsimp only; rw [mu_c _ _ _ _ a2, mu_c _ _ _ _ a3]
  · dsimp only; rw [mu_c _ _ _ _ (by decide), mu_c _ _ _ _ (by decide)]
/-- two places changed for each other -/
def exc (s : Se) (a b : Nat) : Se := (eM s, eF s, (fun p => if p = a then eP s b else if p = b then eP s a else eP s p), eT s, eX s, eR s, eQ s)
theorem clI_exc (I : clI z s) {c a b : Nat} (hc : c < eM s) (ha : inR s c a) (hb : inR s c b) : clI z (exc s a b) := by
  obtain ⟨i1, i2, i3, i4, i5, i6⟩ := id I
  have la := inR_lt I hc ha
  have lb := inR_lt I hc hb
  have oth : ∀ d, d < eM s → d ≠ c → ∀ p, inR s d p → p ≠ a ∧ p ≠ b := by
    intro d hd hne p hp
    have : eF s (d + 1) ≤ eF s c ∨ eF s (c + 1) ≤ eF s d := by
      by_cases y : d < c
      · exact Or.inl (fr_mono I (by omega) (by omega))
      · exact Or.inr (fr_mono I (by omega) (by omega))
    unfold inR at ha hb hp
    omega
  refine ⟨i1, i2, fun p hp => ?_, fun d p p' hd h1 h2 e => ?_, i5, i6⟩
  · show 1 ≤ (if p = a then eP s b else if p = b then eP s a else eP s p) / 2 ∧ (if p = a then eP s b else if p = b then eP s a else eP s p) / 2 < z
    split
    · exact i3 b lb
    · split
      · exact i3 a la
      · exact i3 p hp
  · have e' : (if p = a then eP s b else if p = b then eP s a else eP s p) / 2 = (if p' = a then eP s b else if p' = b then eP s a else eP s p') / 2 := e
    by_cases y : d = c
    · rw [y] at h1 h2
      by_cases x1 : p = a
      · rw [if_pos x1] at e'
        by_cases x2 : p' = a
        · omega
        · rw [if_neg x2] at e'
          by_cases x3 : p' = b
          · rw [if_pos x3] at e'; have := i4 c b a hc hb ha e'; omega
          · rw [if_neg x3] at e'; have := i4 c b p' hc hb h2 e'; omega
      · rw [if_neg x1] at e'
        by_cases x4 : p = b
        · rw [if_pos x4] at e'
          by_cases x2 : p' = a
          · rw [if_pos x2] at e'; have := i4 c a b hc ha hb e'; omega
          · rw [if_neg x2] at e'
            by_cases x3 : p' = b
            · omega
            · rw [if_neg x3] at e'; have := i4 c a p' hc ha h2 e'; omega
        · rw [if_neg x4] at e'
          by_cases x2 : p' = a
          · rw [if_pos x2] at e'; have := i4 c p b hc h1 hb e'; omega
          · rw [if_neg x2] at e'
            by_cases x3 : p' = b
            · rw [if_pos x3] at e'; have := i4 c p a hc h1 ha e'; omega
            · rw [if_neg x3] at e'; exact i4 c p p' hc h1 h2 e'
    · have o1 := oth d hd y p h1
      have o2 := oth d hd y p' h2
      rw [if_neg o1.1, if_neg o1.2, if_neg o2.1, if_neg o2.2] at e'
      exact i4 d p p' hd h1 h2 e'
theorem X2_exchange_c (I : clI z s) (z6 : z ≤ 1065) (C : ClC s h) {k p : Nat} (hk : k < 2 * eM s) (hp : eF s (k / 2) + 2 ≤ p ∧ p < eF s (k / 2 + 1)) {ch : Nat → List Nat} {R : List Nat} (K : ChR z s ch (k :: R) h) (kR : k ∉ R) : ∃ h' ch', mx_C mm_X2_exchange [.ref 34, .int (iI ((k : Int))), .int (iI ((p : Int)))] h = some (none, h') ∧ ChR z (exc s (eF s (k / 2) + k % 2) p) ch' R h' ∧ (∀ v, Ch (h.1 38) v R → Ch (h'.1 38) v R) ∧ ClC (exc s (eF s (k / 2) + k % 2) p) h' ∧ WtF h h' := by
  have m5 := I.2.2.2.2.1
  have f8 := I.2.2.2.2.2
  have hkc : k / 2 < eM s := by omega
  have hw := inR_w I hk
  have pl := inR_lt I hkc hw
  have hpr : inR s (k / 2) p := ⟨by omega, hp.2⟩
  have pp := inR_lt I hkc hpr
  have I' := clI_exc I hkc hw hpr
  have e2 : iI (eF s (k / 2) : Int) + iI ((k % 2 : Nat) : Int) = iI ((eF s (k / 2) + k % 2 : Nat) : Int) := by rw [ii_add]; rfl
  obtain ⟨h1, hh⟩ : ∃ h1 : mx_H, h1 = (mx_u (mx_u h.1 35 p (iI (eP s (eF s (k / 2) + k % 2) : Int))) 35 (eF s (k / 2) + k % 2) (iI (eP s p : Int)), h.2.1, h.2.2) := ⟨_, rfl⟩
  have o1 : ∀ a j, a ≠ 35 → h1.1 a j = h.1 a j := fun a j ha => by rw [hh]; dsimp only; rw [mu_c _ _ _ _ ha, mu_c _ _ _ _ ha]
  have C1 : ClC (exc s (eF s (k / 2) + k % 2) p) h1 := by
    refine ⟨by rw [o1 _ _ (by decide)]; exact C.1, fun c hc => by rw [o1 _ _ (by decide)]; exact C.2.1 c hc, by rw [o1 _ _ (by decide)]; exact C.2.2.1, fun x hx => ?_⟩
    show h1.1 35 x = iI (((if x = eF s (k / 2) + k % 2 then eP s p else if x = p then eP s (eF s (k / 2) + k % 2) else eP s x : Nat)) : Int)
    rw [hh]
    dsimp only [mx_u]
    by_cases q1 : x = eF s (k / 2) + k % 2
    · rw [if_pos ⟨rfl, q1⟩, if_pos q1]
    · rw [if_neg (by omega), if_neg q1]
      by_cases q2 : x = p
      · rw [if_pos ⟨rfl, q2⟩, if_pos q2]
      · rw [if_neg (by omega), if_neg q2]; exact C.2.2.2 x hx
  have wne : ∀ j, j ≠ k → j < 2 * eM s → wl (exc s (eF s (k / 2) + k % 2) p) j = wl s j := by
    intro j hj hj2
    show (if eF s (j / 2) + j % 2 = eF s (k / 2) + k % 2 then eP s p else if eF s (j / 2) + j % 2 = p then eP s (eF s (k / 2) + k % 2) else eP s (eF s (j / 2) + j % 2)) = wl s j
    have jw := inR_w I hj2
    have ne : j / 2 ≠ k / 2 → eF s (j / 2 + 1) ≤ eF s (k / 2) ∨ eF s (k / 2 + 1) ≤ eF s (j / 2) := by
      intro ne
      by_cases y : j / 2 < k / 2
      · exact Or.inl (fr_mono I (by omega) (by omega))
      · exact Or.inr (fr_mono I (by omega) (by omega))
    unfold inR at jw hw hpr
    rw [if_neg, if_neg]
    · rfl
    · intro e
      by_cases y : j / 2 = k / 2
      · rw [y] at e; omega
      · have := ne y; omega
    · intro e
      by_cases y : j / 2 = k / 2
      · rw [y] at e; omega
      · have := ne y; omega
  have K1 : ChR z (exc s (eF s (k / 2) + k % 2) p) ch (k :: R) h1 := by
    intro l hl
    obtain ⟨c1, c2, c3⟩ := K l hl
    refine ⟨?_, c2, fun j => ?_⟩
    · rw [o1 37 l (by decide)]
      exact Ch_e _ _ (fun j _ => o1 38 j (by decide)) c1
    · rw [c3 j]
      constructor
      · intro q
        refine ⟨q.1, ?_, q.2.2⟩
        rw [wne j (fun e => q.2.2 (by rw [e]; exact List.mem_cons_self ..)) q.1]
        exact q.2.1
      · intro q
        refine ⟨q.1, ?_, q.2.2⟩
        rw [← wne j (fun e => q.2.2 (by rw [e]; exact List.mem_cons_self ..)) q.1]
        exact q.2.1
  obtain ⟨h', w1, w2, w3, w4, w5, w6⟩ := X2_watch_c I' z6 C1 hk K1 kR
  refine ⟨h', _, ?_, w2, fun v hv => w3 v (Ch_e _ _ (fun j _ => o1 38 j (by decide)) hv), w4, ⟨fun a j a1 a2 a3 => by rw [w5.1 a j a1 a2 a3, o1 a j a1], by rw [w5.2, hh]⟩⟩
  rw [c_X2_exchange, e_X2_exchange_0, ii_h (by omega), if_pos (in_ (by omega) (by decide)), if_pos (in_ (by omega) (by decide)), cln (i := k / 2) (by omega), C.2.1 (k / 2) (by omega), k1n, e2, if_pos (in_ (by omega) (by decide)), if_pos (in_ (by omega) (by decide)), if_pos (in_ (by omega) (by decide)), cln (by omega), cln (by omega), C.2.2.2 _ pl, C.2.2.2 _ pp, ← hh, w1]
  exact e_X2_exchange_46 ..
end CC
