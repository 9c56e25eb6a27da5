/-! the search: visit, propagate -/
def VF (h h' : mx_H) : Prop := (∀ a k, a ≠ 35 → a ≠ 37 → a ≠ 38 → ¬ (41 ≤ a ∧ a ≤ 44) → (a ≠ 33 ∨ k ≠ 9) → h'.1 a k = h.1 a k) ∧ h'.2 = h.2
def VJ (z : Nat) (gs : Nat → Gt) (N : Nat) (od : Nat → Nat) (Sol : Int → Prop) (l0 q : Nat) (s0 s : Se) (ch : Nat → List Nat) (R : List Nat) (b : Option Nat) (h0 h : mx_H) : Prop := (ClC s h ∧ TrC z s h ∧ LeC s h ∧ ChR z s ch R h) ∧ (clI z s ∧ trI z s ∧ sdI gs Sol s ∧ rsI gs N od Sol s ∧ waI s q ∧ uI s q) ∧ SX s0 s ∧ (R.Nodup ∧ ∀ k, k ∈ R → k < 2 * eM s ∧ wl s k = l0) ∧ (q < eT s ∧ eX s q = ng l0) ∧ (b = none → prI s q l0 R) ∧ (∀ c, b = some c → c < eM s ∧ ∀ l, inC s c l → ∃ i, i < eT s ∧ eX s i = ng l) ∧ VF h0 h
def bv (b : Option Nat) : Int32 := match b with
  | none => -1
  | some c => iI (c : Int)
section VI
variable {z : Nat} {gs : Nat → Gt} {N : Nat} {od : Nat → Nat} {Sol : Int → Prop}
theorem ng_x2 {a : Nat} (h : a < 16384) : a ^^^ 1 = ng a := by
  have : ∀ b : Fin 128, ∀ c : Fin 128, (128 * b.val + c.val) ^^^ 1 = ng (128 * b.val + c.val) := by decide +kernel
  have e := this ⟨a / 128, by omega⟩ ⟨a % 128, by omega⟩
  dsimp only at e
  rw [show 128 * (a / 128) + a % 128 = a by omega] at e
  exact e
theorem ii_ng2 {a : Nat} (h : a < 16384) : iI (a : Int) ^^^ 1 = iI (ng a : Int) := by
  have : iI (a : Int) ^^^ iI ((1 : Nat) : Int) = _ := ii_xorN a 1
  rw [ng_x2 h] at this
  exact this
theorem TrC_k {s : Se} {h h' : mx_H} (C : TrC z s h) (e : ∀ a k, 41 ≤ a → a ≤ 44 → h'.1 a k = h.1 a k) : TrC z s h' := by
  refine ⟨fun i hi => by rw [e _ _ (by decide) (by decide)]; exact C.1 i hi, fun i hi => by rw [e _ _ (by decide) (by decide), e _ _ (by decide) (by decide), e _ _ (by decide) (by decide)]; exact C.2.1 i hi, fun g a b c => by rw [e _ _ (by decide) (by decide)]; exact C.2.2.1 g a b c, by rw [e _ _ (by decide) (by decide)]; exact C.2.2.2⟩
theorem ClC_k {s : Se} {h h' : mx_H} (C : ClC s h) (e : ∀ a k, 34 ≤ a → a ≤ 36 → h'.1 a k = h.1 a k) : ClC s h' := by
  refine ⟨by rw [e _ _ (by decide) (by decide)]; exact C.1, fun c hc => by rw [e _ _ (by decide) (by decide)]; exact C.2.1 c hc, by rw [e _ _ (by decide) (by decide)]; exact C.2.2.1, fun p hp => by rw [e _ _ (by decide) (by decide)]; exact C.2.2.2 p hp⟩
theorem ChR_k {s s' : Se} {ch : Nat → List Nat} {R : List Nat} {h h' : mx_H} (K : ChR z s ch R h) (e : ∀ a k, a = 37 ∨ a = 38 → h'.1 a k = h.1 a k) (em : eM s' = eM s) (ew : ∀ k, wl s' k = wl s k) : ChR z s' ch R h' := by
  intro l hl
  obtain ⟨c1, c2, c3⟩ := K l hl
  refine ⟨?_, c2, fun k => by rw [c3 k, em, ew k]⟩
  rw [e 37 l (Or.inl rfl)]
  exact Ch_e _ _ (fun j _ => e 38 j (Or.inr rfl)) c1
theorem visit_25 {l0 q : Nat} {s0 : Se} {h0 : mx_H} (z6 : z ≤ 1065) : ∀ (R : List Nat) (s : Se) (ch : Nat → List Nat) (b : Option Nat) (h : mx_H) (n : Nat) (v3 : Int32) (v5 v6 v7 v8 : Value), VJ z gs N od Sol l0 q s0 s ch R b h0 h → n + R.length ≤ 9032 → Ch (h.1 38) v3 R → ∃ s' ch' b' h', mx_D (3, mm_X6_visit, 25, [.ref 33, .int (iI ((l0 : Int))), .int (bv b), .int v3, .int (iI ((n : Int))), v5, v6, v7, v8], []) h = some (some (.int (bv b')), h') ∧ VJ z gs N od Sol l0 q s0 s' ch' [] b' h0 h' := by
  intro R
  induction R with
  | nil =>
    intro s ch b h n v3 v5 v6 v7 v8 J hn hc
    refine ⟨s, ch, b, h, ?_, J⟩
    rw [e_X6_visit_25]
    by_cases y : (9032 : Int32) ≤ iI (n : Int)
    · rw [if_pos y, e_X6_visit_166]
    · rw [if_neg y, if_pos (show v3 = -1 from hc), e_X6_visit_166]
  | cons k R ih =>
    intro s ch b h n v3 v5 v6 v7 v8 J hn hc
    obtain ⟨⟨J1, J2, J3, J4⟩, ⟨I1, I2, I3, I4, I5, I6⟩, JX, ⟨N1, N2⟩, ⟨Q1, Q2⟩, P1, P2, JF⟩ := J
    have m5 := I1.2.2.2.2.1
    obtain ⟨hk, hw⟩ := N2 k (List.mem_cons_self ..)
    obtain ⟨kR, nR⟩ := List.nodup_cons.mp N1
    have kl : k < 16384 := by omega
    have hln : n + (R.length + 1) ≤ 9032 := hn
    rw [hc.1]
    have wo := wl_b I1 z6 (ng_l hk)
    have R2 : ∀ j, j ∈ R → j < 2 * eM s ∧ wl s j = l0 := fun j hj => N2 j (List.mem_cons_of_mem _ hj)
    have hi : k < 9032 := by omega
    have e1 : mx_D (3, mm_X6_visit, 25, [.ref 33, .int (iI ((l0 : Int))), .int (bv b), .int (iI ((k : Int))), .int (iI ((n : Int))), v5, v6, v7, v8], []) h = (mx_C mm_X6_truthOf [.ref 33, .int (iI ((wl s (ng k) : Int)))] h).bind (fun o => mx_D (3, mm_X6_visit, 67, [.ref 33, .int (iI ((l0 : Int))), .int (bv b), .int (iI ((k : Int))), .int (iI ((n : Int))), .int (h.1 38 k), .int (iI ((wl s (ng k) : Int))), v7, v8], o.1.toList ++ []) o.2) := by
      rw [e_X6_visit_25, if_neg (show ¬ (9032 : Int32) ≤ iI (n : Int) from fun e => by have := (ii_le (a := 9032) (by omega)).mp e; omega), if_neg (show ¬ iI (k : Int) = -1 from fun e => by rw [show (-1 : Int32) = iI (-1) by decide] at e; have := (ii_eq (by omega) (by decide)).mp e; omega), if_pos (in_ hi (by decide)), cln (by omega), ii_ng2 kl, X2_watched_c I1 J1 (ng_l hk)]
      exact e_X6_visit_59 ..
    rw [e1]
    -- the link stays where it is
    have stay : ∀ (b' : Option Nat) (v7 : Int32), (b' = none → prI s q l0 R) → (∀ c, b' = some c → c < eM s ∧ ∀ l, inC s c l → ∃ i, i < eT s ∧ eX s i = ng l) → ∀ X, (∀ h', mx_C mm_X2_watch [.ref 34, .int (iI ((k : Int)))] h = some (none, h') → ∃ v8, X = mx_D (3, mm_X6_visit, 157, [.ref 33, .int (iI ((l0 : Int))), .int (bv b'), .int (iI ((k : Int))), .int (iI ((n : Int))), .int (h.1 38 k), .int (iI ((wl s (ng k) : Int))), .int v7, .int v8], []) h') → ∃ s' ch' b' h', X = some (some (.int (bv b')), h') ∧ VJ z gs N od Sol l0 q s0 s' ch' [] b' h0 h' := by
      intro b' v7 g1 g2 X hX
      obtain ⟨h', w1, w2, w3, w4, w5, w6⟩ := X2_watch_c I1 z6 J1 hk J4 kR
      obtain ⟨v8, hX⟩ := hX h' w1
      have J' : VJ z gs N od Sol l0 q s0 s (fun l => if l = wl s k then k :: ch l else ch l) R b' h0 h' := by
        refine ⟨⟨w4, TrC_k J2 (fun a j p1 p2 => w5.1 a j (by omega) (by omega) (by omega)), ?_, w2⟩, ⟨I1, I2, I3, I4, I5, I6⟩, JX, ⟨nR, R2⟩, ⟨Q1, Q2⟩, g1, g2, ⟨fun a j p1 p2 p3 p4 p5 => by rw [w5.1 a j p1 p2 p3]; exact JF.1 a j p1 p2 p3 p4 p5, by rw [w5.2]; exact JF.2⟩⟩
        unfold LeC
        rw [w5.1 _ _ (by decide) (by decide) (by decide), w5.1 _ _ (by decide) (by decide) (by decide), w5.1 _ _ (by decide) (by decide) (by decide)]
        exact J3
      obtain ⟨s', ch', b'', h'', r1, r2⟩ := ih s _ b' h' (n + 1) (h.1 38 k) (.int (h.1 38 k)) (.int (iI ((wl s (ng k) : Int)))) (.int v7) (.int v8) J' (by omega) (w3 _ hc.2)
      refine ⟨s', ch', b'', h'', ?_, r2⟩
      rw [hX, e_X6_visit_157, ii_s]
      exact r1
    cases b with
    | some c =>
      -- a broken clause is known
      have fin : ∀ t : Int32, mx_C mm_X6_truthOf [.ref 33, .int (iI ((wl s (ng k) : Int)))] h = some (some (.int t), h) → ∃ s' ch' b' h', (mx_C mm_X6_truthOf [.ref 33, .int (iI ((wl s (ng k) : Int)))] h).bind (fun o => mx_D (3, mm_X6_visit, 67, [.ref 33, .int (iI ((l0 : Int))), .int (bv (some c)), .int (iI ((k : Int))), .int (iI ((n : Int))), .int (h.1 38 k), .int (iI ((wl s (ng k) : Int))), v7, v8], o.1.toList ++ []) o.2) = some (some (.int (bv b')), h') ∧ VJ z gs N od Sol l0 q s0 s' ch' [] b' h0 h' := by
        intro t ht
        have cm := (P2 c rfl).1
        have ne : ¬ bv (some c) = -1 := fun e => by
          have e : iI (c : Int) = -1 := e
          rw [show (-1 : Int32) = iI (-1) by decide] at e
          have := (ii_eq (by omega) (by decide)).mp e
          omega
        refine stay (some c) t (fun e => by cases e) P2 _ (fun h' w => ⟨-1, ?_⟩)
        rw [ht]
        refine Eq.trans (e_X6_visit_67 ..) ?_
        rw [if_neg ne, e_X6_visit_80, e_X6_visit_91, if_pos rfl, w]
        refine Eq.trans (e_X6_visit_120 ..) ?_
        rw [if_neg ne, e_X6_visit_137, if_neg ne]
      rcases tv_cases s (wl s (ng k)) with ⟨i, t⟩ | ⟨i, t⟩ | t
      · exact fin 1 (truth_1 J2 (by omega) t)
      · exact fin 0 (truth_0 J2 (by omega) t)
      · exact fin 2 (truth_2 J2 (by omega) t)
    | none =>
      have P1 := P1 rfl
      have kc : k / 2 < eM s := by omega
      have sh : iI (k : Int) >>> (1 &&& 31) = iI ((k / 2 : Nat) : Int) := ii_h (by omega)
      have oth : ∀ t : Int32, ¬ t = 1 → mx_C mm_X6_truthOf [.ref 33, .int (iI ((wl s (ng k) : Int)))] h = some (some (.int t), h) → (¬ ∃ i, i < eT s ∧ eX s i = wl s (ng k)) → (t = 0 → ∃ i, i < eT s ∧ eX s i = ng (wl s (ng k))) → (¬ t = 0 → t = 2 ∧ ∀ i, i < eT s → eX s i / 2 ≠ wl s (ng k) / 2) → ∃ s' ch' b' h', (mx_C mm_X6_truthOf [.ref 33, .int (iI ((wl s (ng k) : Int)))] h).bind (fun o => mx_D (3, mm_X6_visit, 67, [.ref 33, .int (iI ((l0 : Int))), .int (bv none), .int (iI ((k : Int))), .int (iI ((n : Int))), .int (h.1 38 k), .int (iI ((wl s (ng k) : Int))), v7, v8], o.1.toList ++ []) o.2) = some (some (.int (bv b')), h') ∧ VJ z gs N od Sol l0 q s0 s' ch' [] b' h0 h' := by
        intro t t1 ht hnt h0' h2'
        obtain ⟨r, o1, o2⟩ := X6_openPlace_c I1 z6 J1 J2 I2 kc
        have e67 : (mx_C mm_X6_truthOf [.ref 33, .int (iI ((wl s (ng k) : Int)))] h).bind (fun o => mx_D (3, mm_X6_visit, 67, [.ref 33, .int (iI ((l0 : Int))), .int (bv none), .int (iI ((k : Int))), .int (iI ((n : Int))), .int (h.1 38 k), .int (iI ((wl s (ng k) : Int))), v7, v8], o.1.toList ++ []) o.2) = mx_D (3, mm_X6_visit, 91, [.ref 33, .int (iI ((l0 : Int))), .int (bv none), .int (iI ((k : Int))), .int (iI ((n : Int))), .int (h.1 38 k), .int (iI ((wl s (ng k) : Int))), .int t, v8], [.int r]) h := by
          rw [ht]
          refine Eq.trans (e_X6_visit_67 ..) ?_
          rw [if_pos (show bv none = -1 from rfl), if_neg t1, sh, o1]
          rfl
        rcases o2 with ⟨r1, allF⟩ | ⟨p, r1, hp, op⟩
        · -- no open place
          have falseAll : ∀ l, inC s (k / 2) l → l ≠ wl s (ng k) → ∃ i, i < eT s ∧ eX s i = ng l := by
            rintro l ⟨p, p1, p2⟩ ne
            by_cases y : eF s (k / 2) + 2 ≤ p
            · obtain ⟨i, i1, i2⟩ := allF p y p1.2
              exact ⟨i, i1, by rw [i2, p2]⟩
            · have : p = eF s (k / 2) + k % 2 ∨ p = eF s (k / 2) + ng k % 2 := by
                have := ng_m k
                unfold inR at p1
                omega
              rcases this with e | e
              · refine ⟨q, Q1, ?_⟩
                rw [Q2, ← hw, ← p2, e]
                rfl
              · exfalso
                apply ne
                rw [← p2, e]
                unfold wl
                rw [ng_2]
          by_cases t0 : t = 0
          · -- broken
            rw [e67]
            refine stay (some (k / 2)) t (fun e => by cases e) (fun c e => ?_) _ (fun h' w => ⟨r, ?_⟩)
            · have e : k / 2 = c := by injection e
              rw [← e]
              refine ⟨kc, fun l hl => ?_⟩
              by_cases y : l = wl s (ng k)
              · rw [y]; exact h0' t0
              · exact falseAll l hl y
            · rw [e_X6_visit_91, if_pos r1, w]
              refine Eq.trans (e_X6_visit_120 ..) ?_
              rw [if_pos (show bv none = -1 from rfl), if_pos t0, sh]
              rfl
          · -- it follows
            obtain ⟨t2, opn⟩ := h2' t0
            obtain ⟨h1, w1, w2, w3, w4, w5, w6⟩ := X2_watch_c I1 z6 J1 hk J4 kR
            have T1 := TrC_k J2 (h' := h1) (fun a j p1 p2 => w5.1 a j (by omega) (by omega) (by omega))
            have Tlt : eT s < 1065 := by rcases tr_lt I2 with y | y <;> omega
            obtain ⟨h2, a1, a2, a3, a4⟩ := X6_assign_c (l := wl s (ng k)) (r := ((k / 2 : Nat) : Int)) (Lv := dcn (eR s) (eT s)) T1 (by rw [w5.1 _ _ (by decide) (by decide) (by decide)]; exact J3.1) (by rw [w5.1 _ _ (by decide) (by decide) (by decide)]; exact J3.2.2) (by omega) opn Tlt (by rw [if_neg (by omega)]; omega)
            obtain ⟨ch2, hch2⟩ : ∃ ch2 : Nat → List Nat, ch2 = fun l => if l = wl s k then k :: ch l else ch l := ⟨_, rfl⟩
            rw [← hch2] at w2
            have J' : VJ z gs N od Sol l0 q s0 (asg s (wl s (ng k)) ((k / 2 : Nat) : Int)) ch2 R none h0 h2 := by
              refine ⟨⟨ClC_k (s := s) w4 (fun a j p1 p2 => a4.1 a j (by omega) (by omega)), a2, ?_, ChR_k w2 (fun a j p => a4.1 a j (by omega) (by omega)) rfl (fun _ => rfl)⟩, ⟨I1, trI_asg I2 (by omega) opn, I3, rsI_asg I4 (Or.inr (Or.inr ⟨k / 2, kc, rfl, ?_, falseAll⟩)), waI_asg (by omega) I5, uI_asg I6 (by omega)⟩, SX_t JX SX_asg, ⟨nR, R2⟩, ⟨by show q < eT s + 1; omega, by rw [asg_X Q1]; exact Q2⟩, fun _ => ?_, fun c e => (by cases e), ⟨fun a j p1 p2 p3 p4 p5 => by rw [a4.1 a j p4 p5, w5.1 a j p1 p2 p3]; exact JF.1 a j p1 p2 p3 p4 p5, by rw [a4.2, w5.2]; exact JF.2⟩⟩
              · refine ⟨a3, ?_, ?_⟩
                · show h2.1 33 10 = iI (eQ s : Int)
                  rw [a4.1 _ _ (by decide) (by decide), w5.1 _ _ (by decide) (by decide) (by decide)]
                  exact J3.2.1
                · show h2.1 33 11 = iI (dcn (eR (asg s (wl s (ng k)) ((k / 2 : Nat) : Int))) (eT s + 1) : Int)
                  rw [asg_dn, if_neg (by omega), a4.1 _ _ (by decide) (by decide), w5.1 _ _ (by decide) (by decide) (by decide)]
                  exact J3.2.2
              · refine ⟨eF s (k / 2) + ng k % 2, ?_, ?_⟩
                · have := inR_w I1 (ng_l hk); rw [ng_2] at this; exact this
                · unfold wl; rw [ng_2]
              · refine prI_cons (prI_asg Q1 P1) ⟨eT s, by show eT s < eT s + 1; omega, asg_Xn, ?_⟩
                rw [asg_dn, if_neg (by omega), asg_d (by omega), I6.2 q (Nat.le_refl _) Q1]
                omega
            obtain ⟨s', ch', b'', h'', z1, z2⟩ := ih _ ch2 none h2 (n + 1) (h.1 38 k) (.int (h.1 38 k)) (.int (iI ((wl s (ng k) : Int)))) (.int t) (.int r) J' (by omega) (Ch_e _ _ (fun j _ => a4.1 38 j (by decide) (by omega)) (w3 _ hc.2))
            refine ⟨s', ch', b'', h'', ?_, z2⟩
            rw [e67, e_X6_visit_91, if_pos r1, w1]
            refine Eq.trans (e_X6_visit_120 ..) ?_
            rw [if_pos (show bv none = -1 from rfl), if_neg t0, e_X6_visit_137, if_pos (show bv none = -1 from rfl), if_pos t2, sh, a1]
            refine Eq.trans (e_X6_visit_157 ..) ?_
            rw [ii_s]
            exact z1
        · -- another place
          have f8 := I1.2.2.2.2.2
          have hpr : inR s (k / 2) p := ⟨by omega, hp.2⟩
          have pm := inR_lt I1 kc hpr
          obtain ⟨h1, ch1, w1, w2, w3, w4, w5⟩ := X2_exchange_c I1 z6 J1 hk hp J4 kR
          have X1 := SX_exc I1 kc (inR_w I1 hk) hpr
          have J' : VJ z gs N od Sol l0 q s0 (exc s (eF s (k / 2) + k % 2) p) ch1 R none h0 h1 := by
            refine ⟨⟨w4, TrC_k (s := s) J2 (fun a j p1 p2 => w5.1 a j (by omega) (by omega) (by omega)), ?_, w2⟩, ⟨clI_exc I1 kc (inR_w I1 hk) hpr, I2, sdI_x I3 X1, rsI_x I4 X1 rfl, waI_exc I1 I2 hk hp Q1 (by rw [hw]; exact Q2) op I5, I6⟩, SX_t JX X1, ⟨nR, fun j hj => ?_⟩, ⟨Q1, Q2⟩, fun _ => prI_exc I1 hk hp Q1 hw Q2 op P1, fun c e => (by cases e), ⟨fun a j p1 p2 p3 p4 p5 => by rw [w5.1 a j p1 p2 p3]; exact JF.1 a j p1 p2 p3 p4 p5, by rw [w5.2]; exact JF.2⟩⟩
            · show h1.1 33 9 = iI (eT s : Int) ∧ h1.1 33 10 = iI (eQ s : Int) ∧ h1.1 33 11 = iI (dcn (eR s) (eT s) : Int)
              rw [w5.1 _ _ (by decide) (by decide) (by decide), w5.1 _ _ (by decide) (by decide) (by decide), w5.1 _ _ (by decide) (by decide) (by decide)]
              exact J3
            · obtain ⟨j1, j2⟩ := R2 j hj
              refine ⟨j1, ?_⟩
              rw [wl_exc I1 hk hp j1, if_neg (fun e => kR (by rw [← e]; exact hj))]
              exact j2
          obtain ⟨s', ch', b'', h'', z1, z2⟩ := ih _ ch1 none h1 (n + 1) (h.1 38 k) (.int (h.1 38 k)) (.int (iI ((wl s (ng k) : Int)))) (.int t) (.int r) J' (by omega) (w3 _ hc.2)
          refine ⟨s', ch', b'', h'', ?_, z2⟩
          have rne : ¬ r = -1 := fun e => by
            rw [r1, show (-1 : Int32) = iI (-1) by decide] at e
            have := (ii_eq (by omega) (by decide)).mp e
            omega
          rw [e67, e_X6_visit_91, if_neg rne, r1, w1]
          refine Eq.trans (e_X6_visit_109 ..) ?_
          rw [e_X6_visit_157, ii_s, ← r1]
          exact z1
      rcases tv_cases s (wl s (ng k)) with ⟨i, t⟩ | ⟨i, t⟩ | t
      · -- the other is true
        refine stay none 1 (fun _ => prI_cons P1 ⟨i, t.1, t.2, ?_⟩) (fun c e => by cases e) _ (fun h' w => ⟨-1, ?_⟩)
        · rw [I6.2 q (Nat.le_refl _) Q1]
          exact dcn_mono t.1
        · rw [truth_1 J2 (by omega) t]
          refine Eq.trans (e_X6_visit_67 ..) ?_
          rw [if_pos (show bv none = -1 from rfl), if_pos rfl, e_X6_visit_80, e_X6_visit_91, if_pos rfl, w]
          refine Eq.trans (e_X6_visit_120 ..) ?_
          rw [if_pos (show bv none = -1 from rfl), if_neg (by decide), e_X6_visit_137, if_pos (show bv none = -1 from rfl), if_neg (by decide)]
      · exact oth 0 (by decide) (truth_0 J2 (by omega) t) (fun ⟨j, tj⟩ => tv_not I2 tj t) (fun _ => ⟨i, t⟩) (fun e => absurd rfl e)
      · exact oth 2 (by decide) (truth_2 J2 (by omega) t) (fun ⟨j, tj⟩ => t j tj.1 (by rw [tj.2])) (fun e => by cases e) (fun _ => ⟨rfl, t⟩)
end VI
