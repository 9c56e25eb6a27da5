/-! the reference's check, value, core, terms, count -/
section CK
variable {n : Nat} {ts : Nat → Tm} {s : Sc}
theorem vp_bI (b : Bool) : vp_nar .boolean (bI b) = bI b := by cases b <;> decide
/-- what check may change -/
def CkF (h h' : mx_H) : Prop := (∀ a k, a ≠ 68 → a ≠ 69 → a ≠ 70 → a ≠ 71 → (a ≠ 47 ∨ k ≠ 38) → h'.1 a k = h.1 a k) ∧ h'.2 = h.2
theorem CkF_t {h h1 h2 : mx_H} (a : CkF h h1) (b : CkF h1 h2) : CkF h h2 := ⟨fun x k z1 z2 z3 z4 z5 => by rw [b.1 x k z1 z2 z3 z4 z5, a.1 x k z1 z2 z3 z4 z5], by rw [b.2, a.2]⟩
theorem CkF_w {h h' : mx_H} (F : WkF h h') : CkF h h' := ⟨fun a k z _ _ _ _ => F.1 a k z, F.2⟩
theorem CkF_r {h : mx_H} : CkF h h := ⟨fun _ _ _ _ _ _ _ => rfl, rfl⟩
theorem CkF_u {h : mx_H} {a k : Nat} {x : Int32} (hh : a = 69 ∨ a = 70 ∨ a = 71 ∨ (a = 47 ∧ k = 38)) : CkF h (mx_u h.1 a k x, h.2.1, h.2.2) := ⟨fun b i z1 z2 z3 z4 z5 => by dsimp only [mx_u]; rw [if_neg (by omega)], rfl⟩
theorem SltM_k {h h' : mx_H} (F : CkF h h') (S : SltM n ts h.1) : SltM n ts h'.1 := by
  obtain ⟨a, b, d⟩ := S
  have q : ∀ a k, 49 ≤ a → a ≤ 55 → h'.1 a k = h.1 a k := fun a k p q => F.1 a k (by omega) (by omega) (by omega) (by omega) (by omega)
  refine ⟨(F.1 47 8 (by decide) (by decide) (by decide) (by decide) (by decide)).trans a, b, fun t ht => ?_⟩
  obtain ⟨⟨b1, b2, b3, b4, b5, b6, b7⟩, e⟩ := d t ht
  exact ⟨⟨(q 49 t (by decide) (by decide)).trans b1, (q 50 t (by decide) (by decide)).trans b2, (q 51 t (by decide) (by decide)).trans b3, (q 52 t (by decide) (by decide)).trans b4, (q 53 t (by decide) (by decide)).trans b5, (q 54 t (by decide) (by decide)).trans b6, (q 55 t (by decide) (by decide)).trans b7⟩, e⟩
theorem ScopeM_k {h h' : mx_H} (F : CkF h h') (S : ScopeM s h) : ScopeM s h' := by
  obtain ⟨s1, s2, s3, s4, s5, s6⟩ := S
  have q : ∀ a k, 60 ≤ a → a ≤ 67 → h'.1 a k = h.1 a k := fun a k p q => F.1 a k (by omega) (by omega) (by omega) (by omega) (by omega)
  exact ⟨(F.1 47 28 (by decide) (by decide) (by decide) (by decide) (by decide)).trans s1, (F.1 47 31 (by decide) (by decide) (by decide) (by decide) (by decide)).trans s2, (F.1 47 33 (by decide) (by decide) (by decide) (by decide) (by decide)).trans s3, fun i hi => ⟨by rw [F.2]; exact (s4 i hi).1, (q 64 i (by decide) (by decide)).trans (s4 i hi).2⟩, fun i hi => (q 65 i (by decide) (by decide)).trans (s5 i hi), fun i hi => ⟨(q 66 i (by decide) (by decide)).trans (s6 i hi).1, (q 67 i (by decide) (by decide)).trans (s6 i hi).2⟩⟩
theorem VaM_e {h h' : mx_H} (e : ∀ u, h'.1 68 u = h.1 68 u) (V : VaM n ts h) : VaM n ts h' := ⟨fun u hu => by rw [e]; exact V.1 u hu, fun u hu => by rw [e]; exact V.2 u hu⟩
/-- one row of the table -/
theorem X11_check_26 {sr : Nat} (K : WS s n ts sr) {B : Int32} {v : Nat} (hv : v < 256) : ∀ (d i : Nat) (h : mx_H), i + d = sNa s → ScopeM s h → (∀ k, k < sNa s → h.1 68 (sAt s k) = iI (tvl ts (rhoV s ts v) (sAt s k) : Int)) → ∃ h' v3, mx_D (5, mm_X11_check, 26, [.ref 47, .int B, .int (iI ((v : Int))), .int (iI ((i : Int)))], []) h = mx_D (5, mm_X11_check, 7, [.ref 47, .int B, .int (iI (((v + 1 : Nat) : Int))), .int v3], []) h' ∧ CkF h h' ∧ (∀ u, h'.1 68 u = h.1 68 u) ∧ (∀ k, i ≤ k → k < sNa s → h'.1 69 (256 * k + v) = bI (AT s ts v k)) ∧ ∀ k w, w < 256 → (w ≠ v ∨ k < i) → h'.1 69 (256 * k + w) = h.1 69 (256 * k + w) := by
  obtain ⟨k1, k2, k3, k4, k5, k6, k7, k8, k9, k10, k11, k12, k13⟩ := id K
  have B3 := k1.2.2.1
  intro d
  induction d with
  | zero =>
    intro i h hi SC hv68
    refine ⟨h, iI (i : Int), ?_, CkF_r, fun _ => rfl, fun k p q => by omega, fun _ _ _ _ => rfl⟩
    rw [e_X11_check_26, SC.2.1, if_pos ((ii_le (by omega)).mpr (by omega)), ii_s1]
  | succ d ih =>
    intro i h hi SC hv68
    obtain ⟨c1, c2⟩ := k11 i (by omega)
    have lt := al_lt c1
    have e65 := SC.2.2.2.2.1 i (by omega)
    have iin := in_t (a := (i : Int)) (n := 12) (by omega)
    have iN : (iI (i : Int)).toNatClampNeg = i := by rw [ii_cl (by omega)]; exact Int.toNat_natCast _
    have e1 : (iI (256 * (i : Int) + (v : Int))).toNatClampNeg = 256 * i + v := by rw [ii_cl (by omega)]; omega
    have tvb : tvl ts (rhoV s ts v) (sAt s i) < 2 ∨ True := Or.inr trivial
    rw [e_X11_check_26, SC.2.1, if_neg (fun z => by have := (ii_le (by omega)).mp z; omega), if_pos iin, iN, e65, if_pos (in_t (n := 130) (by omega)), ii_cl (by omega), Int.toNat_natCast, hv68 i (by omega), show (256 : Int32) = iI 256 from rfl, ii_mul, ii_add]
    have st : ∀ b : Bool, b = AT s ts v i → mx_D (5, mm_X11_check, 65, [.ref 47, .int B, .int (iI ((v : Int))), .int (iI ((i : Int)))], [.int (bI b), .int (iI (256 * (i : Int) + (v : Int))), .ref 69]) h = mx_D (5, mm_X11_check, 26, [.ref 47, .int B, .int (iI ((v : Int))), .int (iI (((i + 1 : Nat) : Int)))], []) (mx_u h.1 69 (256 * i + v) (bI (AT s ts v i)), h.2.1, h.2.2) := by
      intro b hb
      rw [e_X11_check_65, if_pos (in_t (n := 3072) (by omega)), e1, vp_bI, ii_s1, hb]
    have st2 : (if iI (tvl ts (rhoV s ts v) (sAt s i) : Int) = 1 then mx_D (5, mm_X11_check, 65, [.ref 47, .int B, .int (iI ((v : Int))), .int (iI ((i : Int)))], [.int 1, .int (iI (256 * (i : Int) + (v : Int))), .ref 69]) h else mx_D (5, mm_X11_check, 65, [.ref 47, .int B, .int (iI ((v : Int))), .int (iI ((i : Int)))], [.int 0, .int (iI (256 * (i : Int) + (v : Int))), .ref 69]) h) = mx_D (5, mm_X11_check, 26, [.ref 47, .int B, .int (iI ((v : Int))), .int (iI (((i + 1 : Nat) : Int)))], []) (mx_u h.1 69 (256 * i + v) (bI (AT s ts v i)), h.2.1, h.2.2) := by
      by_cases z : tvl ts (rhoV s ts v) (sAt s i) = 1
      · have a : true = AT s ts v i := (decide_eq_true z).symm
        rw [if_pos (by rw [z]; rfl)]
        exact st true a
      · have a : false = AT s ts v i := (decide_eq_false z).symm
        have ne : ¬ iI (tvl ts (rhoV s ts v) (sAt s i) : Int) = 1 := by
          intro y
          obtain ⟨w, w1, w2⟩ : ∃ w : Nat, iI (tvl ts (rhoV s ts v) (sAt s i) : Int) = iI (w : Int) ∧ True := ⟨_, rfl, trivial⟩
          have lt2 : tvl ts (rhoV s ts v) (sAt s i) < 65536 := by
            have h0 : ∀ u, u < n → tk (ts u) = 0 → rhoV s ts v u < 2 ^ (bitsS (tS (ts u))).toNat := by
              intro u hu _
              unfold rhoV
              by_cases e : ∃ i, i < sNc s ∧ sCt s i = u
              · obtain ⟨i, hi, rfl⟩ := e
                rw [rhoS_c (sNc s) hi k8]
                exact Nat.mod_lt _ (Nat.pow_pos (by decide))
              · rw [rhoS_o (sNc s) (fun i hi z => e ⟨i, hi, z⟩)]
                exact Nat.pow_pos (by decide)
            have key : ∀ u, u < n → tvl ts (rhoV s ts v) u < 2 ^ (bitsS (tS (ts u))).toNat := by
              intro u
              induction u using Nat.strongRecOn with
              | _ u ihu =>
                intro hu
                by_cases z0 : tk (ts u) = 0
                · rw [tvl_c z0]; exact h0 u hu z0
                · rw [tvl_o k6 hu z0]
                  exact (X11_work_c (h := (fun a k => if a = 49 then iI (tk (ts k)) else if a = 50 then iI (tS (ts k)) else if a = 51 then iI (tx (ts k)) else if a = 52 then iI (ty (ts k)) else if a = 53 then iI (tz (ts k)) else if a = 54 then iI (tp (ts k)) else if a = 55 then iI (tq (ts k)) else iI (tvl ts (rhoV s ts v) k : Int), fun _ _ => 0, fun _ _ => none)) (m := tvl ts (rhoV s ts v)) k6 (by omega) (fun t ht => ⟨rfl, rfl, rfl, rfl, rfl, rfl, rfl⟩) hu z0 (fun w hw => ⟨rfl, ihu w hw (by omega)⟩)).2
            have a1 := key _ lt
            have b1 := bitsS_b (k6.1 _ lt).1.2.1
            have : 2 ^ (bitsS (tS (ts (sAt s i)))).toNat ≤ 2 ^ 8 := pw_le (by omega)
            omega
          have := (ii_eq (b := 1) (by omega) (by decide)).mp y
          omega
        rw [if_neg ne]
        exact st false a
    rw [st2]
    have F1 : CkF h (mx_u h.1 69 (256 * i + v) (bI (AT s ts v i)), h.2.1, h.2.2) := CkF_u (Or.inl rfl)
    obtain ⟨h', v3, a1, a2, a3, a4, a5⟩ := ih (i + 1) (mx_u h.1 69 (256 * i + v) (bI (AT s ts v i)), h.2.1, h.2.2) (by omega) (ScopeM_k F1 SC) (fun k hk => by dsimp only; rw [mu_c _ _ _ _ (by decide)]; exact hv68 k hk)
    refine ⟨h', v3, a1, CkF_t F1 a2, fun u => by rw [a3 u]; dsimp only; rw [mu_c _ _ _ _ (by decide)], fun k p q => ?_, fun k w hw p => ?_⟩
    · by_cases e : k = i
      · rw [e, a5 i v hv (Or.inr (by omega))]
        dsimp only
        rw [mu_s]
      · exact a4 k (by omega) q
    · rw [a5 k w hw (by omega)]
      dsimp only
      rw [mu_k _ _ (by omega)]
end CK
