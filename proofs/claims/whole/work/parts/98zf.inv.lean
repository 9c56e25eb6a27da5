/-! what holds between calls -/
def IA (s : Sc) (n : Nat) (ts : Nat → Tm) (z : Nat) (gs : Nat → Gt) (h : mx_H) : Prop := ScopeC s h.1 ∧ TermC n ts h.1 h.2.2 ∧ CirC n ts h n z gs
def IB (s : Sc) (n : Nat) (ts : Nat → Tm) (sr : Nat) (h : mx_H) : Prop := ScopeM s h ∧ SltM n ts h.1 ∧ VaM n ts h ∧ h.1 47 17 = iI (sr : Int)
def KpM (s : Sc) (ts : Nat → Tm) (h : mx_H) : Prop := (0 ≤ lst s ts (allC s) ∧ h.1 47 38 = iI 1 ∧ ∀ k, k < sNc s → h.1 70 k = iI ((dl s ts (lst s ts (allC s)).toNat k : Nat) : Int)) ∨ (lst s ts (allC s) < 0 ∧ h.1 47 38 = iI 2 ∧ ∀ k, k < 12 → h.1 71 k = bI (cr s ts (sNa s) k))
def KP (s : Sc) (ts : Nat → Tm) (h : mx_H) : Prop := (h.1 0 8 = iI 0 ∧ h.1 47 38 = iI 0) ∨ (KpC s ts h ∧ KpM s ts h)
def InvX (c : Nat → Int) (len : Nat) (s : Sc) (n : Nat) (ts : Nat → Tm) (sr z : Nat) (gs : Nat → Gt) (h : mx_H) : Prop := WS s n ts sr ∧ (TxtC c len h.1 ∧ TxtM c len h.1) ∧ IA s n ts z gs h ∧ IB s n ts sr h ∧ h.1 36 0 = 0 ∧ KP s ts h
def InvP (h : mx_H) : Prop := ∃ c len s n ts sr z gs, InvX c len s n ts sr z gs h
section IX
variable {c : Nat → Int} {len : Nat} {s : Sc} {n : Nat} {ts : Nat → Tm} {sr z : Nat} {gs : Nat → Gt} {h h' : mx_H}
theorem IA_f (e : ∀ a k, (a = 6 ∧ k = 4) ∨ (7 ≤ a ∧ a ≤ 17) ∨ (22 ≤ a ∧ a ≤ 32 ∧ a ≠ 27) → h'.1 a k = h.1 a k) (e2 : h'.2.2 = h.2.2) (I : IA s n ts z gs h) : IA s n ts z gs h' :=
  ⟨ScopeC_e (fun a k p1 p2 => e a k (by omega)) I.1, TermC_e (e 6 4 (by omega)) (fun a k p1 p2 => e a k (by omega)) (by rw [e2]) I.2.1, CirC_s (fun a k p1 p2 p3 => e a k (by omega)) I.2.2⟩
theorem ScopeM_f (e : ∀ a k, (a = 47 ∧ (k = 28 ∨ k = 31 ∨ k = 33)) ∨ (64 ≤ a ∧ a ≤ 67) → h'.1 a k = h.1 a k) (e2 : h'.2.1 = h.2.1) (S : ScopeM s h) : ScopeM s h' := by
  obtain ⟨s1, s2, s3, s4, s5, s6⟩ := S
  exact ⟨by rw [e 47 28 (by omega)]; exact s1, by rw [e 47 31 (by omega)]; exact s2, by rw [e 47 33 (by omega)]; exact s3, fun i hi => by rw [e 64 i (by omega), e2]; exact s4 i hi, fun i hi => by rw [e 65 i (by omega)]; exact s5 i hi, fun i hi => by rw [e 66 i (by omega), e 67 i (by omega)]; exact s6 i hi⟩
theorem SltM_f (e : ∀ a k, (a = 47 ∧ k = 8) ∨ (49 ≤ a ∧ a ≤ 55) → h'.1 a k = h.1 a k) (S : SltM n ts h.1) : SltM n ts h'.1 := by
  obtain ⟨M1, M2, M3⟩ := S
  refine ⟨by rw [e 47 8 (by omega)]; exact M1, M2, fun t ht => ?_⟩
  obtain ⟨⟨b1, b2, b3, b4, b5, b6, b7⟩, d⟩ := M3 t ht
  exact ⟨⟨(e 49 t (by omega)).trans b1, (e 50 t (by omega)).trans b2, (e 51 t (by omega)).trans b3, (e 52 t (by omega)).trans b4, (e 53 t (by omega)).trans b5, (e 54 t (by omega)).trans b6, (e 55 t (by omega)).trans b7⟩, d⟩
theorem IB_f (e : ∀ a k, (a = 47 ∧ k ≠ 1 ∧ k ≠ 38) ∨ (49 ≤ a ∧ a ≤ 68) → h'.1 a k = h.1 a k) (e2 : h'.2.1 = h.2.1) (I : IB s n ts sr h) : IB s n ts sr h' :=
  ⟨ScopeM_f (fun a k p => e a k (by omega)) e2 I.1, SltM_f (fun a k p => e a k (by omega)) I.2.1, VaM_e (fun u => e 68 u (by omega)) I.2.2.1, by rw [e 47 17 (by omega)]; exact I.2.2.2⟩
theorem KpC_f (e : ∀ k, h'.1 0 k = h.1 0 k) (K : KpC s ts h) : KpC s ts h' := by
  unfold KpC at K ⊢
  rw [e, e, e]
  exact K
theorem KpM_f (e : ∀ a k, (a = 47 ∧ k = 38) ∨ a = 70 ∨ a = 71 → h'.1 a k = h.1 a k) (K : KpM s ts h) : KpM s ts h' := by
  rcases K with ⟨a, b, d⟩ | ⟨a, b, d⟩
  · exact Or.inl ⟨a, by rw [e _ _ (by omega)]; exact b, fun k hk => by rw [e _ _ (by omega)]; exact d k hk⟩
  · exact Or.inr ⟨a, by rw [e _ _ (by omega)]; exact b, fun k hk => by rw [e _ _ (by omega)]; exact d k hk⟩
theorem KP_f (e : ∀ a k, a = 0 ∨ (a = 47 ∧ k = 38) ∨ a = 70 ∨ a = 71 → h'.1 a k = h.1 a k) (K : KP s ts h) : KP s ts h' := by
  rcases K with ⟨a, b⟩ | ⟨a, b⟩
  · exact Or.inl ⟨by rw [e _ _ (by omega)]; exact a, by rw [e _ _ (by omega)]; exact b⟩
  · exact Or.inr ⟨KpC_f (fun k => e 0 k (by omega)) a, KpM_f (fun a k p => e a k (by omega)) b⟩
theorem i32_of (x : Int32) : i32 x.toInt := ⟨Int32.le_toInt x, by have := Int32.toInt_lt x; omega⟩
theorem at_lt (K : WS s n ts sr) {k : Nat} (hk : k < sNa s) : sAt s k < n := by
  obtain ⟨Sx, a1, a2⟩ := (K.2.2.2.2.2.2.2.2.2.2.1 k hk).1
  exact (a2 _ a1).1
theorem nc_bi (K : WS s n ts sr) : sNc s ≤ sBi s := by
  have : ∀ i, i ≤ sNc s → i ≤ oN s ts i := by
    intro i
    induction i with
    | zero => intro _; exact Nat.zero_le _
    | succ i ih =>
      intro hi
      have := ih (by omega)
      have := oN_s K (show i < sNc s by omega)
      have := bN_b K (show i < sNc s by omega)
      omega
  have := this (sNc s) (Nat.le_refl _)
  rw [oN_B K] at this
  exact this
theorem inv_type (I : InvP h) (a1 a2 : Int32) : ∃ (r : Int32) (h1 h2 : mx_H), mx_C mm_X10_type [.ref 0, .int a1, .int a2] h = some (some (.int r), h1) ∧ mx_C mm_X11_type [.ref 47, .int a1, .int a2] h1 = some (some (.int r), h2) ∧ InvP h2 := by
  obtain ⟨c, len, s, n, ts, sr, z, gs, K, ⟨T, U⟩, A, B, h36, P⟩ := I
  have w := i32_of a1
  have m := i32_of a2
  have t1 := X10_type_c w m T.1 T.2.2.1
  rw [ii_of, ii_of] at t1
  by_cases q : 1 ≤ a2.toInt ∧ a2.toInt ≤ 4 ∧ (len : Int) + a2.toInt ≤ 120 ∧ bok a1.toInt a2.toInt.toNat
  · obtain ⟨h1, hh1⟩ : ∃ h1 : mx_H, h1 = (tyU h.1 1 2 len a1.toInt a2.toInt.toNat a2.toInt.toNat, h.2) := ⟨_, rfl⟩
    have f1 : ∀ a k, a ≠ 1 → a ≠ 2 → h1.1 a k = h.1 a k := fun a k p1 p2 => by rw [hh1]; dsimp only [tyU]; rw [if_neg (by omega), if_neg (by omega)]
    have t2 := X11_type_c (h := h1) w m (by rw [f1 _ _ (by omega) (by omega)]; exact U.1) U.2.2.1
    rw [ii_of, ii_of] at t2
    obtain ⟨h2, hh2⟩ : ∃ h2 : mx_H, h2 = (tyU h1.1 47 48 len a1.toInt a2.toInt.toNat a2.toInt.toNat, h1.2) := ⟨_, rfl⟩
    have f2 : ∀ a k, (a ≠ 47 ∨ k ≠ 1) → a ≠ 48 → h2.1 a k = h1.1 a k := fun a k p1 p2 => by rw [hh2]; dsimp only [tyU]; rw [if_neg (by omega), if_neg (by omega)]
    have f : ∀ a k, a ≠ 1 → a ≠ 2 → (a ≠ 47 ∨ k ≠ 1) → a ≠ 48 → h2.1 a k = h.1 a k := fun a k p1 p2 p3 p4 => by rw [f2 a k p3 p4, f1 a k p1 p2]
    have g2 : h2.2 = h.2 := by rw [hh2, hh1]
    obtain ⟨c', hc⟩ : ∃ c' : Nat → Int, c' = fun i => if i < len then c i else byt a1.toInt (a2.toInt.toNat - 1 - (i - len)) := ⟨_, rfl⟩
    have l120 : len + a2.toInt.toNat ≤ 120 := by omega
    have rng : ∀ i, i < len + a2.toInt.toNat → 32 ≤ c' i ∧ c' i ≤ 126 := by
      intro i hi
      rw [hc]
      dsimp only
      by_cases e : i < len
      · rw [if_pos e]; exact T.2.2.2 i e
      · rw [if_neg e]; exact q.2.2.2 _ (by omega)
    refine ⟨iI 1, h1, h2, by rw [hh1]; exact t1.1 q, by rw [hh2]; exact t2.1 q, c', len + a2.toInt.toNat, s, n, ts, sr, z, gs, K, ⟨⟨?_, fun i hi => ?_, l120, rng⟩, ⟨?_, fun i hi => ?_, l120, rng⟩⟩, IA_f (fun a k p => f a k (by omega) (by omega) (by omega) (by omega)) (by rw [g2]) A, IB_f (fun a k p => f a k (by omega) (by omega) (by omega) (by omega)) (by rw [g2]) B, by rw [f _ _ (by omega) (by omega) (by omega) (by omega)]; exact h36, KP_f (fun a k p => f a k (by omega) (by omega) (by omega) (by omega)) P⟩
    · rw [f2 _ _ (by omega) (by omega), hh1]
      dsimp only [tyU]
      rw [if_pos ⟨rfl, rfl⟩]
    · rw [f2 _ _ (by omega) (by omega), hh1, hc]
      dsimp only [tyU]
      rw [if_neg (by omega)]
      by_cases e : i < len
      · rw [if_neg (by omega), if_pos e]; exact T.2.1 i e
      · rw [if_pos (by omega), if_neg e]
    · rw [hh2]
      dsimp only [tyU]
      rw [if_pos ⟨rfl, rfl⟩]
    · rw [hh2, hc]
      dsimp only [tyU]
      rw [if_neg (by omega)]
      by_cases e : i < len
      · rw [if_neg (by omega), if_pos e, f1 _ _ (by omega) (by omega)]; exact U.2.1 i e
      · rw [if_pos (by omega), if_neg e]
  · have t2 := X11_type_c w m U.1 U.2.2.1
    rw [ii_of, ii_of] at t2
    exact ⟨iI 0, h, h, t1.2 q, t2.2 q, c, len, s, n, ts, sr, z, gs, K, ⟨T, U⟩, A, B, h36, P⟩
theorem VaM_x {n' : Nat} {ts' : Nat → Tm} (V : VaM n ts h) (hn : n ≤ n') (he : ∀ i, i < n → ts' i = ts i) (e : ∀ u, h'.1 68 u = h.1 68 u) : VaM n' ts' h' := by
  refine ⟨fun u hu => ?_, fun u hu => by rw [e]; exact V.2 u (by omega)⟩
  rw [e]
  by_cases q : u < n
  · rw [he u q]; exact V.1 u q
  · exact ⟨0, V.2 u (by omega), Nat.pow_pos (by decide)⟩
theorem inv_command (I : InvP h) : ∃ (r : Int32) (h1 h2 : mx_H), mx_C mm_X10_command [.ref 0] h = some (some (.int r), h1) ∧ mx_C mm_X11_command [.ref 47] h1 = some (some (.int r), h2) ∧ InvP h2 := by
  obtain ⟨c, len, s, n, ts, sr, z, gs, K, ⟨T, U⟩, A, B, h36, P⟩ := I
  have k5 := K.2.2.2.2.1
  have n6 := K.2.2.1
  have O := X10_command_c (sr := sr) K.1 T A.1 A.2.1 (WS_pre K T.2.2.1) n6 (by omega) (WS_cb K) (nc_bi K)
  cases r : cmd c len s n ts sr with
  | mk a o =>
    rw [r] at O
    cases o with
    | none =>
      obtain ⟨h1, o1, o2, o3, o4, o5⟩ := O
      have M := X11_command_c (h := h1) K (c := c) (len := len) ⟨by rw [o5.1 _ _ (by omega)]; exact U.1, fun i hi => by rw [o5.1 _ _ (by omega)]; exact U.2.1 i hi, U.2.2⟩ (ScopeM_f (fun a k p => o5.1 a k (by omega)) o5.2.2.2.1 B.1) (SltM_f (fun a k p => o5.1 a k (by omega)) B.2.1) (by rw [o5.1 _ _ (by omega)]; exact B.2.2.2)
      rw [r] at M
      obtain ⟨h2, m1, m2, m3, m4, m5, m6, m7⟩ := M
      refine ⟨iI a, h1, h2, o1, m1, c, 0, s, n, ts, sr, z, gs, K, ⟨⟨?_, fun i hi => absurd hi (Nat.not_lt_zero _), by omega, fun i hi => absurd hi (Nat.not_lt_zero _)⟩, ⟨m6, fun i hi => absurd hi (Nat.not_lt_zero _), by omega, fun i hi => absurd hi (Nat.not_lt_zero _)⟩⟩, ⟨ScopeC_e (fun a k p1 p2 => m7.1 a k (by omega)) o3, TermC_e (m7.1 6 4 (by omega)) (fun a k p1 p2 => m7.1 a k (by omega)) (by rw [m7.2.2]) o2, CirC_s (fun a k p1 p2 p3 => by rw [m7.1 a k (by omega), o5.1 a k (by omega)]) A.2.2⟩, ⟨m3, m2, VaM_x B.2.2.1 (Nat.le_refl _) (fun _ _ => rfl) (fun u => by rw [m7.1 68 u (by omega), o5.1 68 u (by omega)]), m4⟩, ?_, ?_⟩
      · rw [m7.1 _ _ (by omega)]; exact o5.2.2.1
      · rw [m7.1 _ _ (by omega), o5.1 _ _ (by omega)]; exact h36
      · have e0 : ∀ k, h2.1 0 k = h.1 0 k := fun k => by
          rw [m7.1 0 k (by omega)]
          by_cases e : k = 8
          · rw [e]; exact o4
          · exact o5.2.1 k e
        rcases P with ⟨p1, p2⟩ | ⟨p1, p2⟩
        · exact Or.inl ⟨by rw [e0]; exact p1, by rw [m5, o5.1 _ _ (by omega)]; exact p2⟩
        · exact Or.inr ⟨KpC_f e0 p1, KpM_f (h := h) (fun a k p => by
            by_cases e : a = 47
            · rw [e, show k = 38 by omega, m5, o5.1 _ _ (by omega)]
            · rw [m7.1 a k (by omega), o5.1 a k (by omega)]) p2⟩
    | some x =>
      obtain ⟨s', n', ts', sr'⟩ := x
      obtain ⟨h0, o1, o2, o3, o4, o5⟩ := O
      obtain ⟨K', hn, he⟩ := WS_cmd K T.2.2.1 T.2.2.2 r
      have W : WF n ts := K.2.2.2.2.2.1
      have W' : WF n' ts' := K'.2.2.2.2.2.1
      have C0 := CirC_ext W W' hn he (fun a k p => o5.1 a k p) A.2.2
      obtain ⟨z', gs', h1, g1, g2, g3⟩ := X1_grow_c W' K'.2.2.1 K'.2.2.2.1 hn o2 C0
      have f1 : ∀ a k, 32 < a → h1.1 a k = h.1 a k := fun a k p => by rw [g3.1 a k (by omega), o5.1 a k (by omega)]
      have M := X11_command_c (h := h1) K (c := c) (len := len) ⟨by rw [f1 _ _ (by omega)]; exact U.1, fun i hi => by rw [f1 _ _ (by omega)]; exact U.2.1 i hi, U.2.2⟩ (ScopeM_f (fun a k p => f1 a k (by omega)) (by rw [g3.2]; exact o5.2.2.2.1) B.1) (SltM_f (fun a k p => f1 a k (by omega)) B.2.1) (by rw [f1 _ _ (by omega)]; exact B.2.2.2)
      rw [r] at M
      obtain ⟨h2, m1, m2, m3, m4, m5, m6, m7⟩ := M
      refine ⟨iI a, h1, h2, o1 h1 g1, m1, c, 0, s', n', ts', sr', z', gs', K', ⟨⟨?_, fun i hi => absurd hi (Nat.not_lt_zero _), by omega, fun i hi => absurd hi (Nat.not_lt_zero _)⟩, ⟨m6, fun i hi => absurd hi (Nat.not_lt_zero _), by omega, fun i hi => absurd hi (Nat.not_lt_zero _)⟩⟩, ⟨ScopeC_e (fun a k p1 p2 => by rw [m7.1 a k (by omega), g3.1 a k (by omega)]) o3, TermC_e (by rw [m7.1 6 4 (by omega), g3.1 6 4 (by omega)]) (fun a k p1 p2 => by rw [m7.1 a k (by omega), g3.1 a k (by omega)]) (by rw [m7.2.2, g3.2]) o2, CirC_s (fun a k p1 p2 p3 => m7.1 a k (by omega)) g2⟩, ⟨m3, m2, VaM_x B.2.2.1 hn he (fun u => by rw [m7.1 68 u (by omega), f1 68 u (by omega)]), m4⟩, ?_, Or.inl ⟨?_, m5⟩⟩
      · rw [m7.1 _ _ (by omega), g3.1 _ _ (by omega)]; exact o5.2.2.1
      · rw [m7.1 _ _ (by omega), f1 _ _ (by omega)]; exact h36
      · rw [m7.1 _ _ (by omega), g3.1 _ _ (by omega)]; exact o4
theorem inv_check (I : InvP h) : ∃ (r : Int32) (h1 h2 : mx_H), mx_C mm_X10_check [.ref 0] h = some (some (.int r), h1) ∧ mx_C mm_X11_check [.ref 47] h1 = some (some (.int r), h2) ∧ InvP h2 := by
  obtain ⟨c, len, s, n, ts, sr, z, gs, K, ⟨T, U⟩, A, B, h36, P⟩ := I
  obtain ⟨h1, a1, a2, a3, a4⟩ := X10_check_c K A.1 A.2.1 A.2.2 h36 (P.elim (fun q => Or.inl q.1) (fun q => Or.inr q.1))
  have B1 : IB s n ts sr h1 := IB_f (fun a k p => a3.1 a k (by omega) (by omega)) (by rw [a3.2]) B
  have A1 : IA s n ts z gs h1 := IA_f (fun a k p => a3.1 a k (by omega) (by omega)) (by rw [a3.2]) A
  obtain ⟨h2, b1, b2, b3, b4, b5⟩ := X11_check_c K B1.2.1 B1.1 B1.2.2.1
  refine ⟨_, h1, h2, a1, b1, c, len, s, n, ts, sr, z, gs, K, ⟨⟨?_, fun i hi => ?_, T.2.2⟩, ⟨?_, fun i hi => ?_, U.2.2⟩⟩, IA_f (fun a k p => b2.1 a k (by omega) (by omega) (by omega) (by omega) (by omega)) (by rw [b2.2]) A1, ⟨ScopeM_k b2 B1.1, SltM_k b2 B1.2.1, b3, by rw [b2.1 _ _ (by omega) (by omega) (by omega) (by omega) (by omega)]; exact B1.2.2.2⟩, by rw [b2.1 _ _ (by omega) (by omega) (by omega) (by omega) (by omega)]; exact a4, Or.inr ⟨KpC_f (fun k => b2.1 0 k (by omega) (by omega) (by omega) (by omega) (by omega)) a2, ?_⟩⟩
  · rw [b2.1 _ _ (by omega) (by omega) (by omega) (by omega) (by omega), a3.1 _ _ (by omega) (by omega)]; exact T.1
  · rw [b2.1 _ _ (by omega) (by omega) (by omega) (by omega) (by omega), a3.1 _ _ (by omega) (by omega)]; exact T.2.1 i hi
  · rw [b2.1 _ _ (by omega) (by omega) (by omega) (by omega) (by omega), a3.1 _ _ (by omega) (by omega)]; exact U.1
  · rw [b2.1 _ _ (by omega) (by omega) (by omega) (by omega) (by omega), a3.1 _ _ (by omega) (by omega)]; exact U.2.1 i hi
  · by_cases q : 0 ≤ lst s ts (allC s)
    · exact Or.inl ⟨q, (b4 q).1, (b4 q).2⟩
    · exact Or.inr ⟨by omega, (b5 (by omega)).1, (b5 (by omega)).2⟩
theorem has_c {v : Int} (hv : i32 v) (S : ScopeC s h.1) (K : ScB s) : mx_C mm_X5_hasConstant [.ref 11, .int (iI (v))] h = some (some (.int (bI (decide (0 ≤ v ∧ v < sNc s)))), h) := by
  have := K.1
  have hv' := hv
  unfold i32 at hv'
  rw [c_X5_hasConstant, e_X5_hasConstant_0, S.1]
  by_cases q : v < 0
  · rw [if_pos (show iI v < 0 from (ii_lt (b := 0) (by omega)).mpr q), e_X5_hasConstant_16, e_X5_hasConstant_17, if_pos (by decide), decide_eq_false (by omega)]; rfl
  · rw [if_neg (show ¬ iI v < 0 from fun y => q ((ii_lt (b := 0) (by omega)).mp y))]
    by_cases q2 : (sNc s : Int) ≤ v
    · rw [if_pos ((ii_le (by omega)).mpr q2), e_X5_hasConstant_16, e_X5_hasConstant_17, if_pos (by decide), decide_eq_false (by omega)]; rfl
    · rw [if_neg (fun y => q2 ((ii_le (by omega)).mp y)), e_X5_hasConstant_17, if_pos (by decide), decide_eq_true (by omega)]; rfl
theorem has_a {v : Int} (hv : i32 v) (S : ScopeC s h.1) (K : ScB s) : mx_C mm_X5_hasAssertion [.ref 11, .int (iI (v))] h = some (some (.int (bI (decide (0 ≤ v ∧ v < sNa s)))), h) := by
  have := K.2.2.1
  have hv' := hv
  unfold i32 at hv'
  rw [c_X5_hasAssertion, e_X5_hasAssertion_0, S.2.2.1]
  by_cases q : v < 0
  · rw [if_pos (show iI v < 0 from (ii_lt (b := 0) (by omega)).mpr q), e_X5_hasAssertion_16, e_X5_hasAssertion_17, if_pos (by decide), decide_eq_false (by omega)]; rfl
  · rw [if_neg (show ¬ iI v < 0 from fun y => q ((ii_lt (b := 0) (by omega)).mp y))]
    by_cases q2 : (sNa s : Int) ≤ v
    · rw [if_pos ((ii_le (by omega)).mpr q2), e_X5_hasAssertion_16, e_X5_hasAssertion_17, if_pos (by decide), decide_eq_false (by omega)]; rfl
    · rw [if_neg (fun y => q2 ((ii_le (by omega)).mp y)), e_X5_hasAssertion_17, if_pos (by decide), decide_eq_true (by omega)]; rfl
theorem inv_value (I : InvP h) (a1 : Int32) : ∃ (r : Int32) (h1 h2 : mx_H), mx_C mm_X10_value [.ref 0, .int a1] h = some (some (.int r), h1) ∧ mx_C mm_X11_value [.ref 47, .int a1] h1 = some (some (.int r), h2) ∧ InvP h2 := by
  have I0 := I
  obtain ⟨c, len, s, n, ts, sr, z, gs, K, ⟨T, U⟩, A, B, h36, P⟩ := I
  have hv := i32_of a1
  have hv' := hv
  unfold i32 at hv'
  have hb := K.1.1
  have no : h.1 0 8 ≠ iI 1 → h.1 47 38 ≠ iI 1 → ∃ (r : Int32) (h1 h2 : mx_H), mx_C mm_X10_value [.ref 0, .int a1] h = some (some (.int r), h1) ∧ mx_C mm_X11_value [.ref 47, .int a1] h1 = some (some (.int r), h2) ∧ InvP h2 := by
    intro q1 q2
    refine ⟨-1, h, h, ?_, ?_, I0⟩
    · rw [c_X10_value, e_X10_value_0, if_neg (show ¬ h.1 0 8 = 1 from q1), e_X10_value_19]
    · rw [c_X11_value, e_X11_value_0, if_neg (show ¬ h.1 47 38 = 1 from q2), e_X11_value_31, e_X11_value_32]
  rcases P with ⟨p1, p2⟩ | ⟨⟨l, p1, x, x8, p2, p3⟩ | ⟨l, p1, _⟩, ⟨l', q1, q2⟩ | ⟨l', q1, _⟩⟩
  · exact no (by rw [p1]; decide) (by rw [p2]; decide)
  · have hc := has_c hv A.1 K.1
    rw [ii_of] at hc
    have xin := X11_in_c (a := a1.toInt) (b := 0) (c := (sNc s : Int) - 1) h ⟨hv, by decide, ⟨by omega, by omega⟩⟩
    rw [ii_of] at xin
    have cls : mx_C mm_X10_value [.ref 0, .int a1] h = mx_D (3, mm_X10_value, 16, [.ref 0, .int a1, mx_junk, mx_junk], [.int (bI (decide (0 ≤ a1.toInt ∧ a1.toInt < sNc s)))]) h := by
      rw [c_X10_value, e_X10_value_0, p1, if_pos (show iI 1 = (1 : Int32) from rfl), hc]; rfl
    have ref : mx_C mm_X11_value [.ref 47, .int a1] h = mx_D (2, mm_X11_value, 19, [.ref 47, .int a1], [.int (bI (decide (0 ≤ a1.toInt ∧ a1.toInt ≤ (sNc s : Int) - 1)))]) h := by
      rw [c_X11_value, e_X11_value_0, q1, if_pos (show iI 1 = (1 : Int32) from rfl), B.1.1, show iI (sNc s : Int) - 1 = iI ((sNc s : Int) - 1) from ii_sub _ 1]
      show (mx_C mm_X11_in [.int a1, .int (iI 0), .int (iI ((sNc s : Int) - 1))] h).bind _ = _
      rw [xin]; rfl
    by_cases q : 0 ≤ a1.toInt ∧ a1.toInt < sNc s
    · obtain ⟨k, hk⟩ : ∃ k : Nat, a1.toInt = (k : Int) := ⟨a1.toInt.toNat, by omega⟩
      have ak : a1 = iI (k : Int) := by rw [← hk, ii_of]
      have kn : k < sNc s := by omega
      refine ⟨iI ((dl s ts (lst s ts (allC s)).toNat k : Nat) : Int), h, h, ?_, ?_, I0⟩
      · obtain ⟨k1, k2, k3⟩ := K.2.2.2.2.2.2.1 k kn
        have oi := oN_i K k (by omega)
        have o8 := oN_8 K (show k ≤ sNc s by omega)
        have bb := bN_b K kn
        have ct : cn1 (ts (sCt s k)) = (oN s ts k : Int) := by
          unfold cn1
          rw [if_neg (by omega), if_pos k2, k3]
          exact oi
        have nu := (X7_numberOf_c A.2.1 k1).1
        rw [ct] at nu
        rw [cls, decide_eq_true q, e_X10_value_16, if_neg (by decide), ak, if_pos (in_ (by omega) (by decide)), cln (by omega), (A.1.2.2.2.2.1 k kn).2, X7_sortOf_c A.2.1 k1]
        refine Eq.trans (e_X10_value_39 ..) ?_
        rw [X10_bitsOf_c h (ws_so K kn)]
        refine Eq.trans (e_X10_value_42 ..) ?_
        show (mx_C mm_X7_numberOf [.ref 6, .int (iI ((sCt s k : Int))), .int (iI (0))] h).bind _ = _
        rw [nu, p2]
        refine Eq.trans (e_X10_value_56 ..) ?_
        rw [bb.2.2, ii_all bb.2.1, nn_sh (by omega) (by omega), nn_ms bb.2.1, p3 k kn]
        unfold rhoX
        rw [k3, oi, bb.2.2, Int.toNat_natCast, Int.toNat_natCast]
        have e : (x : Int) / 2 ^ oN s ts k % 2 ^ bN s ts k = ((x / 2 ^ oN s ts k % 2 ^ bN s ts k : Nat) : Int) := by
          rw [Int.natCast_emod, Int.natCast_ediv, Int.natCast_pow, Int.natCast_pow]; rfl
        rw [e, Int.toNat_natCast]
      · rw [ref, decide_eq_true (by omega), e_X11_value_19, if_neg (by decide), ak, if_pos (in_ (by omega) (by decide)), cln (by omega), q2 k kn, e_X11_value_32]
    · refine ⟨-1, h, h, ?_, ?_, I0⟩
      · rw [cls, decide_eq_false q, e_X10_value_16, if_pos (show bI false = (0 : Int32) from rfl), e_X10_value_19]
      · rw [ref, decide_eq_false (by omega), e_X11_value_19, if_pos (show bI false = (0 : Int32) from rfl), e_X11_value_31, e_X11_value_32]
  · omega
  · omega
  · exact no (by rw [p1]; decide) (by rw [q1]; decide)
theorem inv_core (I : InvP h) (a1 : Int32) : ∃ (r : Int32) (h1 h2 : mx_H), mx_C mm_X10_core [.ref 0, .int a1] h = some (some (.int r), h1) ∧ mx_C mm_X11_core [.ref 47, .int a1] h1 = some (some (.int r), h2) ∧ InvP h2 := by
  have I0 := I
  obtain ⟨c, len, s, n, ts, sr, z, gs, K, ⟨T, U⟩, A, B, h36, P⟩ := I
  have hv := i32_of a1
  have hv' := hv
  unfold i32 at hv'
  have hb := K.1.2.2.1
  have n0 : vp_nar .boolean (0 : Int32) = 0 := by decide
  have no : h.1 0 8 ≠ iI 2 → h.1 47 38 ≠ iI 2 → ∃ (r : Int32) (h1 h2 : mx_H), mx_C mm_X10_core [.ref 0, .int a1] h = some (some (.int r), h1) ∧ mx_C mm_X11_core [.ref 47, .int a1] h1 = some (some (.int r), h2) ∧ InvP h2 := by
    intro q1 q2
    refine ⟨0, h, h, ?_, ?_, I0⟩
    · rw [c_X10_core, e_X10_core_0, if_neg (show ¬ h.1 0 8 = 2 from q1), e_X10_core_35, e_X10_core_36, if_pos (by decide)]
    · rw [c_X11_core, e_X11_core_0, if_neg (show ¬ h.1 47 38 = 2 from q2), e_X11_core_35, e_X11_core_36, if_pos (by decide)]
  rcases P with ⟨p1, p2⟩ | ⟨⟨l, p1, _⟩ | ⟨l, p1, cm, c4, p2, p3⟩, ⟨l', q1, _⟩ | ⟨l', q1, q2⟩⟩
  · exact no (by rw [p1]; decide) (by rw [p2]; decide)
  · exact no (by rw [p1]; decide) (by rw [q1]; decide)
  · omega
  · omega
  · have hc := has_a hv A.1 K.1
    rw [ii_of] at hc
    have xin := X11_in_c (a := a1.toInt) (b := 0) (c := (sNa s : Int) - 1) h ⟨hv, by decide, ⟨by omega, by omega⟩⟩
    rw [ii_of] at xin
    have cls : mx_C mm_X10_core [.ref 0, .int a1] h = mx_D (2, mm_X10_core, 16, [.ref 0, .int a1], [.int (bI (decide (0 ≤ a1.toInt ∧ a1.toInt < sNa s)))]) h := by
      rw [c_X10_core, e_X10_core_0, p1, if_pos (show iI 2 = (2 : Int32) from rfl), hc]; rfl
    have ref : mx_C mm_X11_core [.ref 47, .int a1] h = mx_D (2, mm_X11_core, 19, [.ref 47, .int a1], [.int (bI (decide (0 ≤ a1.toInt ∧ a1.toInt ≤ (sNa s : Int) - 1)))]) h := by
      rw [c_X11_core, e_X11_core_0, q1, if_pos (show iI 2 = (2 : Int32) from rfl), B.1.2.1, show iI (sNa s : Int) - 1 = iI ((sNa s : Int) - 1) from ii_sub _ 1]
      show (mx_C mm_X11_in [.int a1, .int (iI 0), .int (iI ((sNa s : Int) - 1))] h).bind _ = _
      rw [xin]; rfl
    by_cases q : 0 ≤ a1.toInt ∧ a1.toInt < sNa s
    · obtain ⟨k, hk⟩ : ∃ k : Nat, a1.toInt = (k : Int) := ⟨a1.toInt.toNat, by omega⟩
      have ak : a1 = iI (k : Int) := by rw [← hk, ii_of]
      have kn : k < sNa s := by omega
      have bit : (iI (cm : Int) >>> (iI (k : Int) &&& 31)) &&& 1 = iI ((cm / 2 ^ k % 2 : Nat) : Int) := by rw [nn_sh (by omega) (by omega), k1n]
      have t := p3 k (by omega)
      have m2 : cm / 2 ^ k % 2 < 2 := Nat.mod_lt _ (by decide)
      refine ⟨bI (cr s ts (sNa s) k), h, h, ?_, ?_, I0⟩
      · rw [cls, decide_eq_true q, e_X10_core_16, if_neg (by decide), p2, ak, bit]
        cases e : cr s ts (sNa s) k with
        | true =>
          rw [t.mpr e, if_pos (by decide), e_X10_core_36, if_pos (by decide)]; rfl
        | false =>
          have : cm / 2 ^ k % 2 = 0 := by
            by_cases y : cm / 2 ^ k % 2 = 1
            · rw [t.mp y] at e; exact absurd e (by decide)
            · omega
          rw [this, if_neg (by decide), e_X10_core_35, e_X10_core_36, if_pos (by decide)]; rfl
      · rw [ref, decide_eq_true (by omega), e_X11_core_19, if_neg (by decide), ak, if_pos (in_ (by omega) (by decide)), cln (by omega), q2 k (by omega)]
        cases e : cr s ts (sNa s) k with
        | true =>
          rw [if_neg (by decide), e_X11_core_36, if_pos (by decide)]; rfl
        | false =>
          rw [if_pos (by decide), e_X11_core_35, e_X11_core_36, if_pos (by decide)]; rfl
    · refine ⟨0, h, h, ?_, ?_, I0⟩
      · rw [cls, decide_eq_false q, e_X10_core_16, if_pos (show bI false = (0 : Int32) from rfl), e_X10_core_35, e_X10_core_36, if_pos (by decide)]
      · rw [ref, decide_eq_false (by omega), e_X11_core_19, if_pos (show bI false = (0 : Int32) from rfl), e_X11_core_35, e_X11_core_36, if_pos (by decide)]
theorem inv_holds (I : InvP h) (a1 a2 : Int32) : ∃ (r : Int32) (h1 h2 : mx_H), mx_C mm_X10_holds [.ref 0, .int a1, .int a2] h = some (some (.int r), h1) ∧ mx_C mm_X11_holds [.ref 47, .int a1, .int a2] h1 = some (some (.int r), h2) ∧ InvP h2 := by
  obtain ⟨c, len, s, n, ts, sr, z, gs, K, ⟨T, U⟩, A, B, h36, P⟩ := I
  have hv := i32_of a1
  have hx := i32_of a2
  have hv' := hv
  unfold i32 at hv'
  have hb := K.1.2.2.1
  have n6 := K.2.2.1
  have hc := has_a hv A.1 K.1
  rw [ii_of] at hc
  obtain ⟨Ci1, G, W, CB, zb⟩ := A.2.2
  have cls : ∃ h1, mx_C mm_X10_holds [.ref 0, .int a1, .int a2] h = some (some (.int (iI (if 0 ≤ a1.toInt ∧ a1.toInt < sNa s then (tvl ts (rhoX ts a2.toInt) (sAt s a1.toInt.toNat) : Int) else -1))), h1) ∧ SiF h h1 := by
    by_cases q : 0 ≤ a1.toInt ∧ a1.toInt < sNa s
    · obtain ⟨k, hk⟩ : ∃ k : Nat, a1.toInt = (k : Int) := ⟨a1.toInt.toNat, by omega⟩
      have ak : a1 = iI (k : Int) := by rw [← hk, ii_of]
      have kn : k < sNa s := by omega
      have tn := at_lt K kn
      have s1 : (bitsS (tS (ts (sAt s k)))).toNat = 1 := by rw [(K.2.2.2.2.2.2.2.2.2.2.1 k kn).2]; rfl
      obtain ⟨l, l1, l2⟩ := CB (sAt s k) tn 0 (by rw [s1]; omega)
      obtain ⟨h1, m1, m2⟩ := X3_simulate_c hx G W l2.1
      rw [ii_of] at m1
      refine ⟨h1, ?_, m2⟩
      have vl := vX_lt K.2.2.2.2.2.1 n6 (x := a2.toInt) tn
      rw [s1] at vl
      have va : bI (lv gs a2.toInt l) = iI ((tvl ts (rhoX ts a2.toInt) (sAt s k) : Nat) : Int) := by
        rw [l2.2.1]
        show bI (bt (vX ts a2.toInt (sAt s k)) 0) = iI ((vX ts a2.toInt (sAt s k) : Nat) : Int)
        have : vX ts a2.toInt (sAt s k) = 0 ∨ vX ts a2.toInt (sAt s k) = 1 := by omega
        rcases this with e | e <;> rw [e] <;> rfl
      rw [if_pos q, show a1.toInt.toNat = k by omega, ← va, c_X10_holds, e_X10_holds_0, hc, decide_eq_true q]
      refine Eq.trans (e_X10_holds_8 ..) ?_
      rw [if_neg (by decide), ak, if_pos (in_ (by omega) (by decide)), cln (by omega), A.1.2.2.2.2.2.1 k kn]
      show (mx_C mm_X1_bitOf [.ref 28, .int (iI ((sAt s k : Int))), .int (iI (((0 : Nat) : Int)))] h).bind _ = _
      rw [X1_bitOf_v Ci1 n6 tn (by omega), l1]
      refine Eq.trans (e_X10_holds_34 ..) ?_
      rw [m1]
      exact e_X10_holds_38 ..
    · refine ⟨h, ?_, fun _ _ _ => rfl, rfl⟩
      rw [if_neg q, c_X10_holds, e_X10_holds_0, hc, decide_eq_false q]
      refine Eq.trans (e_X10_holds_8 ..) ?_
      rw [if_pos (show bI false = (0 : Int32) from rfl)]
      rfl
  obtain ⟨h1, m1, m2⟩ := cls
  have B1 : IB s n ts sr h1 := IB_f (fun a k p => m2.1 a k (by omega)) (by rw [m2.2]) B
  obtain ⟨h2, b1, b2, b3⟩ := X11_holds_c K hv hx B1.2.1 B1.1 B1.2.2.1
  rw [ii_of, ii_of] at b1
  have f : ∀ a k, a ≠ 27 → a ≠ 68 → h2.1 a k = h.1 a k := fun a k p1 p2 => by rw [b2.1 a k p2, m2.1 a k p1]
  have g : h2.2 = h.2 := by rw [b2.2, m2.2]
  exact ⟨_, h1, h2, m1, b1, c, len, s, n, ts, sr, z, gs, K, ⟨⟨by rw [f _ _ (by omega) (by omega)]; exact T.1, fun i hi => by rw [f _ _ (by omega) (by omega)]; exact T.2.1 i hi, T.2.2⟩, ⟨by rw [f _ _ (by omega) (by omega)]; exact U.1, fun i hi => by rw [f _ _ (by omega) (by omega)]; exact U.2.1 i hi, U.2.2⟩⟩, IA_f (fun a k p => f a k (by omega) (by omega)) (by rw [g]) A, ⟨ScopeM_w b2 B1.1, SltM_w b2 B1.2.1, b3, by rw [f _ _ (by omega) (by omega)]; exact B.2.2.2⟩, by rw [f _ _ (by omega) (by omega)]; exact h36, KP_f (fun a k p => f a k (by omega) (by omega)) P⟩
theorem inv_terms (I : InvP h) : ∃ (r : Int32) (h1 h2 : mx_H), mx_C mm_X10_terms [.ref 0] h = some (some (.int r), h1) ∧ mx_C mm_X11_terms [.ref 47] h1 = some (some (.int r), h2) ∧ InvP h2 := by
  have I0 := I
  obtain ⟨c, len, s, n, ts, sr, z, gs, K, ⟨T, U⟩, A, B, h36, P⟩ := I
  exact ⟨iI (n : Int), h, h, by rw [c_X10_terms, e_X10_terms_0, A.2.1.1], by rw [c_X11_terms, e_X11_terms_0, B.2.1.1], I0⟩
theorem inv_count (I : InvP h) (a1 : Int32) : ∃ (r : Int32) (h1 h2 : mx_H), mx_C mm_X10_count [.ref 0, .int a1] h = some (some (.int r), h1) ∧ mx_C mm_X11_count [.ref 47, .int a1] h1 = some (some (.int r), h2) ∧ InvP h2 := by
  have I0 := I
  obtain ⟨c, len, s, n, ts, sr, z, gs, K, ⟨T, U⟩, A, B, h36, P⟩ := I
  obtain ⟨S1, S2, S3, S4, _⟩ := A.1
  obtain ⟨M1, M2, M3, _⟩ := B.1
  by_cases q0 : a1 = 0
  · rw [q0]
    refine ⟨iI (sNc s : Int), h, h, ?_, ?_, I0⟩
    · rw [c_X10_count, e_X10_count_0, e_X10_count_1_0, e_X10_count_28, S1]
    · rw [c_X11_count, e_X11_count_0, if_pos rfl, e_X11_count_36, M1]
  · by_cases q1 : a1 = 1
    · rw [q1]
      refine ⟨iI (sNa s : Int), h, h, ?_, ?_, I0⟩
      · rw [c_X10_count, e_X10_count_0, e_X10_count_1_1, e_X10_count_36, S3]
      · rw [c_X11_count, e_X11_count_0, if_neg (by decide), if_pos rfl, e_X11_count_36, M2]
    · by_cases q2 : a1 = 2
      · rw [q2]
        refine ⟨iI (sNs s : Int), h, h, ?_, ?_, I0⟩
        · rw [c_X10_count, e_X10_count_0, e_X10_count_1_2, e_X10_count_44, S4]
        · rw [c_X11_count, e_X11_count_0, if_neg (by decide), if_neg (by decide), if_pos rfl, e_X11_count_36, M3]
      · refine ⟨-1, h, h, ?_, ?_, I0⟩
        · have e : a1.toInt < 0 ∨ 2 < a1.toInt := by
            have p0 : a1.toInt ≠ 0 := fun y => q0 (by rw [← ii_of a1, y]; rfl)
            have p1 : a1.toInt ≠ 1 := fun y => q1 (by rw [← ii_of a1, y]; rfl)
            have p2 : a1.toInt ≠ 2 := fun y => q2 (by rw [← ii_of a1, y]; rfl)
            omega
          rw [c_X10_count, e_X10_count_0, e_X10_count_1_d _ _ e, e_X10_count_52]
        · rw [c_X11_count, e_X11_count_0, if_neg q0, if_neg q1, if_neg q2, e_X11_count_36]
theorem inv_pure : mx_Pure InvP := ⟨fun h I a1 a2 => inv_type I a1 a2, fun h I => inv_command I, fun h I => inv_check I, fun h I a1 => inv_value I a1, fun h I a1 => inv_core I a1, fun h I a1 a2 => inv_holds I a1 a2, fun h I => inv_terms I, fun h I a1 => inv_count I a1⟩
theorem inv_0 : InvP mx_h0 := by
  have z : ∀ a k, ¬ (a = 22 ∧ k = 5) → mx_h0.1 a k = iI 0 := fun a k p => if_neg p
  obtain ⟨s0, hs⟩ : ∃ s0 : Sc, s0 = ((0, 0, 0, 0), (fun _ => []), (fun _ => 0), (fun _ => 0), (fun _ => 0), (fun _ => 0), (fun _ => 0)) := ⟨_, rfl⟩
  have e1 : sNc s0 = 0 := by rw [hs]; rfl
  have e2 : sBi s0 = 0 := by rw [hs]; rfl
  have e3 : sNa s0 = 0 := by rw [hs]; rfl
  have e4 : sNs s0 = 0 := by rw [hs]; rfl
  refine ⟨fun _ => 0, 0, s0, 0, fun _ => (0, 0, -1, -1, -1, 0, 0, 0), 0, 9, fun _ => (0, 0, 0, 0), ?_, ⟨⟨z _ _ (by decide), fun i hi => by omega, by omega, fun i hi => by omega⟩, ⟨z _ _ (by decide), fun i hi => by omega, by omega, fun i hi => by omega⟩⟩, ⟨⟨by rw [e1]; exact z _ _ (by decide), by rw [e2]; exact z _ _ (by decide), by rw [e3]; exact z _ _ (by decide), by rw [e4]; exact z _ _ (by decide), fun i hi => by omega, fun i hi => by omega, fun i hi => by omega⟩, ⟨z _ _ (by decide), by omega, fun t ht => by omega⟩, ⟨z _ _ (by decide), ⟨rfl, by omega, by omega, fun g p1 p2 => by omega⟩, fun g p1 p2 => by omega, fun t ht => by omega, by omega⟩⟩, ⟨⟨by rw [e1]; exact z _ _ (by decide), by rw [e3]; exact z _ _ (by decide), by rw [e4]; exact z _ _ (by decide), fun i hi => by omega, fun i hi => by omega, fun i hi => by omega⟩, ⟨z _ _ (by decide), by omega, fun t ht => by omega⟩, ⟨fun u hu => by omega, fun u hu => z _ _ (by omega)⟩, z _ _ (by decide)⟩, z _ _ (by decide), Or.inl ⟨z _ _ (by decide), z _ _ (by decide)⟩⟩
  refine ⟨⟨by omega, by omega, by omega, by omega, fun i hi => by omega, fun i hi => by omega, fun i hi => by omega⟩, ⟨fun i hi => by omega, fun i k _ hk => by omega⟩, by omega, Nat.zero_le _, by omega, ⟨fun t ht => by omega, fun t u _ hu => by omega⟩, fun i hi => by omega, fun i k _ hk => by omega, ?_, fun t ht => by omega, fun k hk => by omega, fun i hi => by omega, fun i k _ hk => by omega⟩
  rw [e1, e2]; rfl
end IX
