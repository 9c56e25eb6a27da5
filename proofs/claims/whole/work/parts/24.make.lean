/-! MAKE: what the constructors do, cell by cell -/
abbrev mk_V : Type := Option Nat ⊕ Int32 ⊕ Int64
abbrev mk_C : Type := (Nat × List mk_V) ⊕ (Nat × Nat)
def mk_val (ads : List Nat) (v : mk_V) : Value := match v with
  | .inl none => .null
  | .inl (some i) => .ref (ads.getD i 0)
  | .inr (.inl x) => .int x
  | .inr (.inr x) => .long x
def mk_vok (n : Nat) (v : mk_V) : Bool := match v with
  | .inl (some i) => decide (i < n)
  | _ => true
def mk_cok (n : Nat) (c : mk_C) : Bool := match c with
  | .inl (_, fs) => fs.all (mk_vok n)
  | .inr (k, _) => decide (k < 5)
def mk_cell (cA : Nat → ClassId) (ads : List Nat) (c : mk_C) : va_E := match c with
  | .inl (c, fs) => .inr (c, fs.map (mk_val ads))
  | .inr (k, n) => .inl (cA k, n, match k with
    | 3 => .inr (.inl (fun _ => 0))
    | 4 => .inr (.inr (.inr (.inr (fun _ => none))))
    | _ => .inl (fun _ => 0))
def mk_W (cA : Nat → ClassId) (ads : List Nat) (cs : List mk_C) : va_W := cs.zipIdx.map (fun q => (ads.getD q.2 0, mk_cell cA ads q.1))
def mk_sz : List mk_C → Nat
  | [] => 0
  | .inl (_, fs) :: r => fs.length + mk_sz r
  | .inr (_, n) :: r => n + mk_sz r
theorem mk_sz_app (a b : List mk_C) : mk_sz (a ++ b) = mk_sz a + mk_sz b := by
  induction a with
  | nil => simp [mk_sz]
  | cons c r ih =>
    rcases c with ⟨k, fs⟩ | ⟨k, n⟩ <;> simp [mk_sz, ih] <;> omega
theorem mk_W_get {cA : Nat → ClassId} {ads : List Nat} {cs : List mk_C} {i : Nat} {c : mk_C} (h : cs[i]? = some c) : (mk_W cA ads cs)[i]? = some (ads.getD i 0, mk_cell cA ads c) := by
  simp [mk_W, List.getElem?_map, List.getElem?_zipIdx, h]
theorem mk_W_len (cA : Nat → ClassId) (ads : List Nat) (cs : List mk_C) : (mk_W cA ads cs).length = cs.length := by simp [mk_W]
theorem mk_val_app {ads more : List Nat} {v : mk_V} (h : mk_vok ads.length v = true) : mk_val (ads ++ more) v = mk_val ads v := by
  rcases v with (_ | i) | x | x
  · rfl
  · have : i < ads.length := of_decide_eq_true h
    simp only [mk_val]
    rw [List.getD_eq_getElem?_getD, List.getD_eq_getElem?_getD, List.getElem?_append_left this]
  · rfl
  · rfl
theorem mk_cell_app {cA : Nat → ClassId} {ads more : List Nat} {c : mk_C} (h : mk_cok ads.length c = true) : mk_cell cA (ads ++ more) c = mk_cell cA ads c := by
  rcases c with ⟨k, fs⟩ | ⟨k, n⟩
  · simp only [mk_cell]
    congr 2
    refine List.map_congr_left (fun v hv => mk_val_app (List.all_eq_true.mp h v hv))
  · rfl
theorem mk_W_push {cA : Nat → ClassId} {ads : List Nat} {cs : List mk_C} {c : mk_C} (q : Nat) (hl : ads.length = cs.length) (hcs : cs.all (mk_cok cs.length) = true) : mk_W cA (ads ++ [q]) (cs ++ [c]) = mk_W cA ads cs ++ [(q, mk_cell cA (ads ++ [q]) c)] := by
  apply List.ext_getElem?
  intro i
  by_cases hi : i < cs.length
  · rw [List.getElem?_append_left (by rw [mk_W_len]; exact hi)]
    have h1 : cs[i]? = some cs[i] := List.getElem?_eq_getElem hi
    have h2 : (cs ++ [c])[i]? = some cs[i] := by rw [List.getElem?_append_left hi]; exact h1
    rw [mk_W_get h1, mk_W_get h2]
    have h3 := List.all_eq_true.mp hcs cs[i] (List.getElem_mem hi)
    rw [mk_cell_app (by rw [hl]; exact h3)]
    congr 2
    rw [List.getD_eq_getElem?_getD, List.getD_eq_getElem?_getD, List.getElem?_append_left (by omega)]
  · by_cases hi2 : i = cs.length
    · subst hi2
      have h2 : (cs ++ [c])[cs.length]? = some c := by simp
      rw [mk_W_get h2, List.getElem?_append_right (by rw [mk_W_len]; exact Nat.le_refl _), mk_W_len]
      simp [← hl]
    · rw [List.getElem?_eq_none (by rw [mk_W_len]; simp; omega), List.getElem?_eq_none (by simp [mk_W_len]; omega)]
theorem mk_W_set {cA : Nat → ClassId} {ads : List Nat} {cs : List mk_C} {i : Nat} {c c' : mk_C} (h : cs[i]? = some c) : mk_W cA ads (cs.set i c') = (mk_W cA ads cs).set i (ads.getD i 0, mk_cell cA ads c') := by
  have hi : i < cs.length := (List.getElem?_eq_some_iff.mp h).1
  apply List.ext_getElem?
  intro j
  rw [List.getElem?_set]
  by_cases hj : i = j
  · subst hj
    rw [if_pos rfl, if_pos (by rw [mk_W_len]; exact hi)]
    exact mk_W_get (by rw [List.getElem?_set]; simp [hi])
  · rw [if_neg hj]
    cases hc : cs[j]? with
    | none => rw [List.getElem?_eq_none (by rw [mk_W_len]; simpa using hc), List.getElem?_eq_none (by rw [mk_W_len]; simpa using hc)]
    | some d => rw [mk_W_get hc]; exact mk_W_get (by rw [List.getElem?_set, if_neg hj]; exact hc)
abbrev mk_R : Type := Option (List mk_C ⊕ (Nat × List mk_V × List mk_C) ⊕ (mx_M × List mk_V × List mk_V))
def mk_at (t : ArrayType) : Nat := match t with
  | .int => 0
  | .char => 1
  | .boolean => 2
  | .long => 3
  | _ => 9
def mk_ex (i : Instr) (n : Nat) (m : mx_M) (pc : Nat) (L S : List mk_V) (cs : List mk_C) : mk_R := match i with
  | .aload_n k => if n = 1 then (match L[k.val]? with | some (.inl (some j)) => some (.inr (.inl (pc + 1, .inl (some j) :: S, cs))) | _ => none) else none
  | .iconst k => if n = 1 then some (.inr (.inl (pc + 1, .inr (.inl (Int32.ofInt k)) :: S, cs))) else none
  | .bipush k => if n = 2 then some (.inr (.inl (pc + 2, .inr (.inl (Int8.ofInt k).toInt32) :: S, cs))) else none
  | .sipush k => if n = 3 then some (.inr (.inl (pc + 3, .inr (.inl (Int16.ofInt k).toInt32) :: S, cs))) else none
  | .dup => if n = 1 then (match S with | .inl (some j) :: r => some (.inr (.inl (pc + 1, .inl (some j) :: .inl (some j) :: r, cs))) | _ => none) else none
  | .new ix => if n = 3 then (match mk_new m.2.2.1 ix with | some ci => some (.inr (.inl (pc + 3, .inl (some cs.length) :: S, cs ++ [.inl (ci, mk_def ci)]))) | none => none) else none
  | .newarray t => if n = 2 then (match S with | .inr (.inl x) :: r => if mk_at t < 4 ∧ 0 ≤ x.toInt ∧ x.toNatClampNeg ≤ 60000 then some (.inr (.inl (pc + 2, .inl (some cs.length) :: r, cs ++ [.inr (mk_at t, x.toNatClampNeg)]))) else none | _ => none) else none
  | .anewarray ix => if n = 3 then (match S with | .inr (.inl x) :: r => if mk_anw m.2.2.1 ix = true ∧ 0 ≤ x.toInt ∧ x.toNatClampNeg ≤ 60000 then some (.inr (.inl (pc + 3, .inl (some cs.length) :: r, cs ++ [.inr (4, x.toNatClampNeg)]))) else none | _ => none) else none
  | .getfield ix => if n = 3 then (match mk_fld m.2.2.1 ix, S with
    | some (ci, k), .inl (some a) :: r => (match cs[a]? with | some (.inl (c, fs)) => if c = ci then (match fs[k]? with | some v => some (.inr (.inl (pc + 3, v :: r, cs))) | none => none) else none | _ => none)
    | _, _ => none) else none
  | .putfield ix => if n = 3 then (match mk_fld m.2.2.1 ix, S with
    | some (ci, k), v :: .inl (some a) :: r => (match cs[a]? with | some (.inl (c, fs)) => if c = ci ∧ k < fs.length ∧ mk_fit ci k v = true ∧ mk_vok cs.length v = true ∧ mx_ci m.2.2.1 = ci then some (.inr (.inl (pc + 3, r, cs.set a (.inl (ci, fs.set k v))))) else none | _ => none)
    | _, _ => none) else none
  | .invokespecial ix => if n = 3 then (match mk_inv m.2.2.1 ix with
    | some none => (match S with | .inl (some a) :: r => if r.length ≤ 4 then some (.inr (.inl (pc + 3, r, cs))) else none | _ => none)
    | some (some (y, np)) => if np + 1 ≤ S.length ∧ (S.drop (np + 1)).length ≤ 4 ∧ y.1 < m.1 ∧ np + 1 ≤ y.2.2.2.2.2.1 ∧ ((S.take (np + 1)).reverse).all (fun v => match v with | .inl (some j) => decide (j < cs.length) | _ => false) = true then some (.inr (.inr (y, (S.take (np + 1)).reverse, S.drop (np + 1)))) else none
    | none => none) else none
  | .return_ => if n = 1 then (match S with | [] => some (.inl cs) | _ => none) else none
  | _ => none
def mk_step (m : mx_M) (pc : Nat) (L S : List mk_V) (cs : List mk_C) : mk_R := match decode m.2.2.2.2.1 pc with
  | .ok (i, n) => mk_ex i n m pc L S cs
  | .error _ => none
def mk_run : Nat → mx_M → Nat → List mk_V → List mk_V → List mk_C → Option (List mk_C)
  | 0, _, _, _, _, _ => none
  | f + 1, m, pc, L, S, cs => match mk_step m pc L S cs with
    | none => none
    | some (.inl o) => if cs.length ≤ o.length ∧ mk_sz cs ≤ mk_sz o then some o else none
    | some (.inr (.inl (pc', S', cs'))) => if cs.length ≤ cs'.length ∧ mk_sz cs ≤ mk_sz cs' ∧ cs'.all (mk_cok cs'.length) = true ∧ S'.all (mk_vok cs'.length) = true then mk_run f m pc' L S' cs' else none
    | some (.inr (.inr (y, as, r))) => match mk_run f y 0 as [] cs with
      | none => none
      | some cs' => if cs.length ≤ cs'.length ∧ mk_sz cs ≤ mk_sz cs' ∧ cs'.all (mk_cok cs'.length) = true then mk_run f m (pc + 3) L r cs' else none
