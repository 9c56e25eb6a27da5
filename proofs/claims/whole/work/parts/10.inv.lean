/-! MINI and the machine: what each step of MINI is -/
theorem mx_if {α : Type} {c : Prop} [Decidable c] {x : Option α} {r : α} (h : (if c then x else none) = some r) : c ∧ x = some r := by
  by_cases hc : c
  · rw [if_pos hc] at h; exact ⟨hc, h⟩
  · rw [if_neg hc] at h; cases h
theorem mx_load_i {v : Option Value} {n rk : Nat} {m : mx_M} {pc : Nat} {L S : List Value} {h : mx_H} {r} (hs : mx_load v 0 n rk m pc L S h = some r) : ∃ x, v = some (.int x) ∧ r = .inr (.inl ((rk, m, pc + n, L, .int x :: S), h)) := by
  unfold mx_load at hs
  split at hs
  · exact ⟨_, rfl, (Option.some.inj hs).symm⟩
  · cases ‹(0 : Nat) = 1›
  · cases ‹(0 : Nat) = 2›
  · cases hs
theorem mx_load_l {v : Option Value} {n rk : Nat} {m : mx_M} {pc : Nat} {L S : List Value} {h : mx_H} {r} (hs : mx_load v 1 n rk m pc L S h = some r) : ∃ x, v = some (.long x) ∧ r = .inr (.inl ((rk, m, pc + n, L, .long x :: S), h)) := by
  unfold mx_load at hs
  split at hs
  · cases ‹(1 : Nat) = 0›
  · exact ⟨_, rfl, (Option.some.inj hs).symm⟩
  · cases ‹(1 : Nat) = 2›
  · cases hs
theorem mx_load_a {v : Option Value} {n rk : Nat} {m : mx_M} {pc : Nat} {L S : List Value} {h : mx_H} {r} (hs : mx_load v 2 n rk m pc L S h = some r) : ∃ x, v = some x ∧ mx_ar x = true ∧ r = .inr (.inl ((rk, m, pc + n, L, x :: S), h)) := by
  unfold mx_load at hs
  split at hs
  · cases ‹(2 : Nat) = 0›
  · cases ‹(2 : Nat) = 1›
  · obtain ⟨h1, h2⟩ := mx_if hs
    exact ⟨_, rfl, h1, (Option.some.inj h2).symm⟩
  · cases hs
theorem mx_store_i {i n rk : Nat} {m : mx_M} {pc : Nat} {L S : List Value} {h : mx_H} {r} (hs : mx_store i 0 n rk m pc L S h = some r) : ∃ x q, S = .int x :: q ∧ i < L.length ∧ r = .inr (.inl ((rk, m, pc + n, mx_st1 L i (.int x), q), h)) := by
  unfold mx_store at hs
  split at hs
  · obtain ⟨h1, h2⟩ := mx_if hs
    exact ⟨_, _, rfl, h1, (Option.some.inj h2).symm⟩
  · cases ‹(0 : Nat) = 1›
  · cases ‹(0 : Nat) = 2›
  · cases hs
theorem mx_store_l {i n rk : Nat} {m : mx_M} {pc : Nat} {L S : List Value} {h : mx_H} {r} (hs : mx_store i 1 n rk m pc L S h = some r) : ∃ x q, S = .long x :: q ∧ i + 1 < L.length ∧ r = .inr (.inl ((rk, m, pc + n, mx_st2 L i (.long x), q), h)) := by
  unfold mx_store at hs
  split at hs
  · cases ‹(1 : Nat) = 0›
  · obtain ⟨h1, h2⟩ := mx_if hs
    exact ⟨_, _, rfl, h1, (Option.some.inj h2).symm⟩
  · cases ‹(1 : Nat) = 2›
  · cases hs
theorem mx_store_a {i n rk : Nat} {m : mx_M} {pc : Nat} {L S : List Value} {h : mx_H} {r} (hs : mx_store i 2 n rk m pc L S h = some r) : ∃ x q, S = x :: q ∧ mx_ar x = true ∧ i < L.length ∧ r = .inr (.inl ((rk, m, pc + n, mx_st1 L i x, q), h)) := by
  unfold mx_store at hs
  split at hs
  · cases ‹(2 : Nat) = 0›
  · cases ‹(2 : Nat) = 1›
  · obtain ⟨h1, h2⟩ := mx_if hs
    exact ⟨_, _, rfl, h1.1, h1.2, (Option.some.inj h2).symm⟩
  · cases hs
theorem mx_bin_i {f : Int32 → Int32 → Int32} {rk : Nat} {m : mx_M} {pc : Nat} {L S : List Value} {h : mx_H} {r} (hs : mx_bin f rk m pc L S h = some r) : ∃ x y q, S = .int y :: .int x :: q ∧ r = .inr (.inl ((rk, m, pc + 1, L, .int (f x y) :: q), h)) := by
  unfold mx_bin at hs
  split at hs
  · exact ⟨_, _, _, rfl, (Option.some.inj hs).symm⟩
  · cases hs
theorem mx_tg_i {pc t : Nat} {off : Int} (h : mx_tg pc off = some t) : (pc : Int) + off = (t : Int) := by
  unfold mx_tg at h
  obtain ⟨h1, h2⟩ := mx_if h
  have := Option.some.inj h2
  omega
theorem mx_jmp_i {rk : Nat} {m : mx_M} {pc : Nat} {off : Int} {L S : List Value} {h : mx_H} {r} (hs : mx_jmp rk m pc off L S h = some r) : ∃ t : Nat, (pc : Int) + off = (t : Int) ∧ r = .inr (.inl ((rk, m, t, L, S), h)) := by
  unfold mx_jmp at hs
  split at hs
  · exact ⟨_, mx_tg_i (by assumption), (Option.some.inj hs).symm⟩
  · cases hs
theorem mx_br_i {b : Bool} {rk : Nat} {m : mx_M} {pc : Nat} {off : Int} {L S : List Value} {h : mx_H} {r} (hs : mx_br b rk m pc off L S h = some r) : ∃ t : Nat, (pc : Int) + off = (t : Int) ∧ r = .inr (.inl ((rk, m, if b = true then t else pc + 3, L, S), h)) := by
  unfold mx_br at hs
  split at hs
  · exact ⟨_, mx_tg_i (by assumption), (Option.some.inj hs).symm⟩
  · cases hs
theorem mx_getf_i {h : mx_H} {a ci k : Nat} {v : Value} (hs : mx_getf h a ci k = some v) : (ci = 99 ∧ 1000 ≤ a ∧ a < 1042 ∧ mx_wf (a - 1000) k = some v) ∨ (ci ≠ 99 ∧ ∃ fk q, mx_shp a = some (.inl (ci, fk)) ∧ fk[k]? = some q ∧ ∀ ad : Nat → Nat, mx_v ad v = mx_fv ad h a k q) := by
  unfold mx_getf at hs
  by_cases hc : ci = 99
  · rw [if_pos hc] at hs
    obtain ⟨h1, h2⟩ := mx_if hs
    exact Or.inl ⟨hc, h1.1, h1.2, h2⟩
  · rw [if_neg hc] at hs
    refine Or.inr ⟨hc, ?_⟩
    split at hs
    · rename_i c fk hx
      obtain ⟨rfl, h2⟩ := mx_if hs
      split at h2
      · rename_i j hj
        cases h2
        exact ⟨fk, _, hx, hj, fun ad => rfl⟩
      · rename_i hj
        cases h2
        exact ⟨fk, _, hx, hj, fun ad => rfl⟩
      · rename_i hj
        cases h2
        exact ⟨fk, _, hx, hj, fun ad => rfl⟩
      · cases h2
    · cases hs
theorem mx_putf_i {h h1 : mx_H} {a ci k : Nat} {v : Value} (hs : mx_putf h a ci k v = some h1) : ∃ fk, mx_shp a = some (.inl (ci, fk)) ∧ ((fk[k]? = some (.inr false) ∧ ∃ x, v = .int x ∧ h1 = (mx_u h.1 a k x, h.2)) ∨ (fk[k]? = some (.inr true) ∧ ∃ x, v = .long x ∧ h1 = (h.1, mx_u h.2.1 a k x, h.2.2))) := by
  unfold mx_putf at hs
  split at hs
  · rename_i c fk hx
    obtain ⟨rfl, h2⟩ := mx_if hs
    refine ⟨fk, hx, ?_⟩
    split at h2
    · rename_i hj
      cases h2
      exact Or.inl ⟨hj, _, rfl, rfl⟩
    · rename_i hj
      cases h2
      exact Or.inr ⟨hj, _, rfl, rfl⟩
    · cases h2
  · cases hs
theorem mx_arr_i {a : Nat} {q : Nat × Nat} (h : mx_arr a = some q) : mx_shp a = some (.inr q) := by
  unfold mx_arr at h
  split at h
  · cases h; assumption
  · cases h
theorem mx_ld_i {w : Nat} {h : mx_H} {a : Nat} {x : Int32} {v : Value} (hs : mx_ld w h a x = some v) : (a = 2000 ∧ w = 4 ∧ vp_in x 42 ∧ v = .ref (1000 + x.toNatClampNeg)) ∨ (a = 2001 ∧ w = 0 ∧ vp_in x 42 ∧ v = .int (mx_swm x.toNatClampNeg)) ∨ (∃ n, mx_shp a = some (.inr (w, n)) ∧ vp_in x n ∧ v = mx_val h w a x.toNatClampNeg) := by
  unfold mx_ld at hs
  by_cases h1 : a = 2000
  · rw [if_pos h1] at hs
    obtain ⟨h2, h3⟩ := mx_if hs
    exact Or.inl ⟨h1, h2.1, mx_in_iff.mp h2.2, (Option.some.inj h3).symm⟩
  · rw [if_neg h1] at hs
    by_cases h2 : a = 2001
    · rw [if_pos h2] at hs
      obtain ⟨h3, h4⟩ := mx_if hs
      exact Or.inr (Or.inl ⟨h2, h3.1, mx_in_iff.mp h3.2, (Option.some.inj h4).symm⟩)
    · rw [if_neg h2] at hs
      split at hs
      · rename_i k n hx
        obtain ⟨⟨rfl, h3⟩, h4⟩ := mx_if hs
        exact Or.inr (Or.inr ⟨n, mx_arr_i hx, mx_in_iff.mp h3, (Option.some.inj h4).symm⟩)
      · cases hs
theorem mx_sto_i {w : Nat} {h h1 : mx_H} {a : Nat} {x : Int32} {v : Value} (hs : mx_sto w h a x v = some h1) : ∃ n, mx_shp a = some (.inr (w, n)) ∧ vp_in x n ∧ mx_put h w a x.toNatClampNeg v = some h1 := by
  unfold mx_sto at hs
  split at hs
  · rename_i k n hx
    obtain ⟨⟨rfl, h3⟩, h4⟩ := mx_if hs
    exact ⟨n, mx_arr_i hx, mx_in_iff.mp h3, h4⟩
  · cases hs
