theorem mx_stat {s : State} {b : Nat} (hts : ∀ w ∈ lw_tbl, w.before #[Value.ref b] s = true) (hgv : (Jvm.Cond.and given_1 narrow_1).before #[Value.ref b] s = true) : ∃ (tE tK tV : Nat → Nat) (tA tS tF : Nat), ∀ ad : Nat → Nat, (∀ i, i < 42 → ad (1000 + i) = tE i) → ad 2000 = tA → ad 2001 = tS → (∀ i, i < 42 → ad (3000 + i) = tK i) → (∀ i, i < 42 → ad (4000 + i) = tV i) → ad 5000 = tF → mx_St1 ad (mx_A s.heap.size) s s.heap ∧ mx_Inj ad := by
  have hf : ∀ c ∈ mx_flat, c.before #[Value.ref b] s = true := flat_of_before _ hgv
  have hA : ∀ a : Nat, a < s.heap.size → ¬ mx_A s.heap.size a := fun a h1 h2 => Nat.lt_irrefl _ (Nat.lt_of_lt_of_le h1 h2)
  have h0 : ∀ i : Nat, ∃ t : Nat, i < 42 → (mx_ts i).eval #[Value.ref b] s none [] s = some (.ref t) ∧ va_O RX9 t (mx_A s.heap.size) s s.heap := by
    intro i
    by_cases hi : i < 42
    · obtain ⟨a, c, cA, kA, q1, -⟩ := Cond.exactly_spec (args := #[Value.ref b]) (first := s) (o := none) (s := s) (idx := []) (hf _ (fl_ex i hi))
      exact ⟨a, fun _ => ⟨q1, va_Oof (hf _ (fl_ex i hi)) q1 hA⟩⟩
    · exact ⟨0, fun h => absurd h hi⟩
  have k0 : ∀ i : Nat, ∃ t : Nat, i < 42 → (mx_tk i).eval #[Value.ref b] s none [] s = some (.ref t) ∧ va_O "java/lang/String" t (mx_A s.heap.size) s s.heap := by
    intro i
    by_cases hi : i < 42
    · obtain ⟨a, c, cA, kA, q1, -⟩ := Cond.exactly_spec (args := #[Value.ref b]) (first := s) (o := none) (s := s) (idx := []) (hf _ (fl_kx i hi))
      exact ⟨a, fun _ => ⟨q1, va_Oof (hf _ (fl_kx i hi)) q1 hA⟩⟩
    · exact ⟨0, fun h => absurd h hi⟩
  have v0 : ∀ i : Nat, ∃ t : Nat, i < 42 → (Term.field (mx_tk i) "java/lang/String" "value" "[B").eval #[Value.ref b] s none [] s = some (.ref t) ∧ va_T .byte t ((mx_txtL.map List.length).getD i 0) (fun j => .int ((mx_bytL.getD i []).getD j 0)) (mx_A s.heap.size) s s.heap := by
    intro i
    by_cases hi : i < 42
    · have hsm : (mx_txtL.map List.length).getD i 0 < 2 ^ 31 := (by decide +kernel : ∀ i, i < 42 → (mx_txtL.map List.length).getD i 0 < 2 ^ 31) i hi
      obtain ⟨t, q1, q2⟩ := va_Tof (f := fun j => .int ((mx_bytL.getD i []).getD j 0)) hsm (hf _ (fl_ka i hi)) (va_eqt (hf _ (fl_kl i hi))) (fun j hj => va_eqt (hf _ (fl_ke i hi j hj))) hA
      exact ⟨t, fun _ => ⟨q1, q2⟩⟩
    · exact ⟨0, fun h => absurd h hi⟩
  obtain ⟨tE, hE⟩ : ∃ tE : Nat → Nat, ∀ i, i < 42 → (mx_ts i).eval #[Value.ref b] s none [] s = some (.ref (tE i)) ∧ va_O RX9 (tE i) (mx_A s.heap.size) s s.heap := ⟨fun i => Classical.choose (h0 i), fun i hi => Classical.choose_spec (h0 i) hi⟩
  obtain ⟨tK, hK⟩ : ∃ tK : Nat → Nat, ∀ i, i < 42 → (mx_tk i).eval #[Value.ref b] s none [] s = some (.ref (tK i)) ∧ va_O "java/lang/String" (tK i) (mx_A s.heap.size) s s.heap := ⟨fun i => Classical.choose (k0 i), fun i hi => Classical.choose_spec (k0 i) hi⟩
  obtain ⟨tV, hV⟩ : ∃ tV : Nat → Nat, ∀ i, i < 42 → (Term.field (mx_tk i) "java/lang/String" "value" "[B").eval #[Value.ref b] s none [] s = some (.ref (tV i)) ∧ va_T .byte (tV i) ((mx_txtL.map List.length).getD i 0) (fun j => .int ((mx_bytL.getD i []).getD j 0)) (mx_A s.heap.size) s s.heap := ⟨fun i => Classical.choose (v0 i), fun i hi => Classical.choose_spec (v0 i) hi⟩
  obtain ⟨tA, a1, a2⟩ := va_Tof (f := fun j => .ref (tE j)) (N := 42) (by decide) (hf _ fl_aa) (va_eqt (hf _ fl_al)) (fun j hj => va_eqv (hf _ (fl_ae j hj)) (hE j hj).1) hA
  obtain ⟨tS, s1, s2⟩ := va_Tof (f := fun j => .int (mx_swm j)) (N := 42) (by decide) (hf _ fl_wa) (va_eqt (hf _ fl_wl)) (fun j hj => va_eqt (hf _ (fl_we j hj))) hA
  have hord : ∀ i, i < 42 → va_OF "java/lang/Enum" "ordinal" "I" (.int (Int32.ofNat i)) (tE i) (mx_A s.heap.size) s s.heap := fun i hi => vk_OFof (hE i hi).1 (va_eqt (hf _ (fl_ord i hi))) hA
  have hsf := va_Zqof (hts _ ls_f) (hts _ in_w.2.2.2.2) (hf _ fl_sf) hA
  obtain ⟨tF, hF⟩ : ∃ tF : Nat, va_Z "jdk/internal/util/Preconditions" "SIOOBE_FORMATTER" "Ljava/util/function/BiFunction;" .null (mx_A s.heap.size) s s.heap ∨ va_Z "jdk/internal/util/Preconditions" "SIOOBE_FORMATTER" "Ljava/util/function/BiFunction;" (.ref tF) (mx_A s.heap.size) s s.heap := by
    rcases hsf with h | ⟨t, h⟩
    · exact ⟨0, Or.inl h⟩
    · exact ⟨t, Or.inr h⟩
  refine ⟨tE, tK, tV, tA, tS, tF, fun ad e1 e2 e3 e4 e5 e6 => ⟨⟨fun i hi => ?_, ?_, ?_, ?_, ?_, ⟨fun i hi => ?_, trivial⟩, ?_, ?_⟩, ?_⟩⟩
  · rw [e1 i hi, e4 i hi]
    exact ⟨va_Zof (hts _ (ls_w i hi)) (hts _ in_w.1) (hE i hi).1 hA, (hE i hi).2, vk_OFof (hE i hi).1 (va_eqv (hf _ (fl_sp i hi)) (hK i hi).1) hA, vk_OFof (hE i hi).1 (va_eqt (hf _ (fl_sh i hi))) hA, vk_OFof (hE i hi).1 (va_eqt (hf _ (fl_pa i hi))) hA, hord i hi⟩
  · rw [e2]; exact va_Zof (hts _ ls_a) (hts _ in_w.2.1) a1 hA
  · rw [e3]; exact va_Zof (hts _ ls_s) (hts _ in_w.2.2.1) s1 hA
  · rw [e2]
    obtain ⟨cell, c1, c2, c3, c4, c5, c6, c7⟩ := a2
    exact ⟨cell, c1, c2, c3, c4, c5, fun j hj => by rw [c6 j hj]; show some (Value.ref (tE j)) = some (Value.ref (ad (1000 + j))); rw [e1 j hj], c7⟩
  · rw [e3]; exact s2
  · rw [e4 i hi, e5 i hi]
    exact ⟨(hK i hi).2, vk_OFof (hK i hi).1 (va_eqt (hf _ (fl_kc i hi))) hA, vk_OFof (hK i hi).1 (hV i hi).1 hA, (hV i hi).2⟩
  · exact va_Zof (hts _ ls_c) (hts _ in_w.2.2.2.1) (va_eqi (hf _ fl_cs)) hA
  · rw [e6]; exact hF
  · intro i j hi hj hij
    rw [e1 i hi, e1 j hj] at hij
    obtain ⟨cf, k, fi, f, cell, q1, q2, q3, q4, q5, q6⟩ := hord i hi
    obtain ⟨cf', k', fi', f', cell', r1, r2, r3, r4, r5, r6⟩ := hord j hj
    cases q1.symm.trans r1
    rw [hij] at q3
    cases q3.symm.trans r3
    have := q5.symm.trans r5
    have h9 := Value.int.inj (Option.some.inj this)
    exact (nI_eq (by omega) (by omega)).mp h9
