/-! MINI and the machine: values, locals, the world of cells -/
def mx_v (ad : Nat → Nat) (v : Value) : Value := match v with
  | .ref a => .ref (ad a)
  | w => w
theorem mx_v_cat (ad : Nat → Nat) (v : Value) : (mx_v ad v).category = v.category := by cases v <;> rfl
def mx_isj (v : Value) : Bool := match v with
  | .retAddr _ => true
  | _ => false
/-- what is known of the locals -/
def mx_lv (ad : Nat → Nat) : Nat → List Value → List (Nat × Value)
  | _, [] => []
  | i, v :: r => if mx_isj v = true then mx_lv ad (i + 1) r else (i, mx_v ad v) :: mx_lv ad (i + 1) r
theorem mx_lv_mem {ad : Nat → Nat} {L : List Value} : ∀ {k : Nat} {q : Nat × Value}, q ∈ mx_lv ad k L ↔ ∃ (i : Nat) (v : Value), L[i]? = some v ∧ mx_isj v = false ∧ q = (k + i, mx_v ad v) := by
  induction L with
  | nil => intro k q; simp [mx_lv]
  | cons w r ih =>
    intro k q
    have key : q ∈ mx_lv ad k (w :: r) ↔ (mx_isj w = false ∧ q = (k, mx_v ad w)) ∨ q ∈ mx_lv ad (k + 1) r := by
      have e : mx_lv ad k (w :: r) = if mx_isj w = true then mx_lv ad (k + 1) r else (k, mx_v ad w) :: mx_lv ad (k + 1) r := rfl
      rw [e]
      cases hj : mx_isj w <;> simp
    rw [key, ih]
    constructor
    · rintro (⟨h1, h2⟩ | ⟨i, v, h1, h2, h3⟩)
      · exact ⟨0, w, rfl, h1, by rw [h2]; rfl⟩
      · exact ⟨i + 1, v, by simpa using h1, h2, by rw [h3]; congr 1; omega⟩
    · rintro ⟨i, v, h1, h2, h3⟩
      cases i with
      | zero =>
        simp at h1
        subst h1
        exact Or.inl ⟨h2, by rw [h3]; rfl⟩
      | succ i => exact Or.inr ⟨i, v, by simpa using h1, h2, by rw [h3]; congr 1; omega⟩
theorem mx_lv_at {ad : Nat → Nat} {ls : Array Slot} {nL : Nat} {L : List Value} (h : lv_has ls nL (mx_lv ad 0 L)) {i : Nat} {v : Value} (hi : L[i]? = some v) (hv : mx_isj v = false) : ls[i]? = some (.val (mx_v ad v)) :=
  h.2.2 (i, mx_v ad v) (mx_lv_mem.mpr ⟨i, v, hi, hv, by rw [Nat.zero_add]⟩)
theorem mx_st1_len (L : List Value) (i : Nat) (v : Value) : (mx_st1 L i v).length = L.length := by
  cases i <;> simp [mx_st1]
theorem mx_st2_len (L : List Value) (i : Nat) (v : Value) : (mx_st2 L i v).length = L.length := by
  simp [mx_st2, mx_st1_len]
theorem mx_st1_get (L : List Value) (i : Nat) (v w : Value) (j : Nat) (h : (mx_st1 L i v)[j]? = some w) (hw : mx_isj w = false) : (j = i ∧ w = v) ∨ (j ≠ i ∧ L[j]? = some w ∧ ¬ (j + 1 = i ∧ w.category = 2)) := by
  cases i with
  | zero =>
    simp only [mx_st1, List.getElem?_set] at h
    by_cases hj : 0 = j
    · subst hj
      simp at h
      exact Or.inl ⟨rfl, h.2.symm⟩
    · rw [if_neg hj] at h
      exact Or.inr ⟨fun e => hj e.symm, h, fun z => by omega⟩
  | succ i =>
    simp only [mx_st1, List.getElem?_set] at h
    by_cases hj : i + 1 = j
    · subst hj
      simp at h
      exact Or.inl ⟨rfl, h.2.symm⟩
    · rw [if_neg hj] at h
      rw [List.getElem?_modify] at h
      refine Or.inr ⟨fun e => hj e.symm, ?_⟩
      cases hL : L[j]? with
      | none => rw [hL] at h; simp at h
      | some u =>
        rw [hL] at h
        by_cases hij : i = j
        · subst hij
          simp at h
          subst h
          cases u <;> simp_all [mx_j, mx_isj, Value.category]
        · simp [hij] at h
          subst h
          exact ⟨rfl, fun z => hij (by omega)⟩
theorem mx_lv_st1 {ad : Nat → Nat} {ls : Array Slot} {nL i : Nat} {L : List Value} {v : Value} (h : lv_has ls nL ((i, mx_v ad v) :: (mx_lv ad 0 L).filter (fun q => !(q.1 == i) && !(q.1 + 1 == i && q.2.category == 2)))) : lv_has ls nL (mx_lv ad 0 (mx_st1 L i v)) := by
  refine ⟨h.1, h.2.1, fun q hq => h.2.2 q ?_⟩
  obtain ⟨j, w, h1, h2, rfl⟩ := mx_lv_mem.mp hq
  rw [Nat.zero_add]
  rcases mx_st1_get L i v w j h1 h2 with ⟨rfl, rfl⟩ | ⟨hj, hL, hc⟩
  · exact List.mem_cons_self
  · refine List.mem_cons_of_mem _ (List.mem_filter.mpr ⟨mx_lv_mem.mpr ⟨j, w, hL, h2, by rw [Nat.zero_add]⟩, ?_⟩)
    have hc' : ¬ (j + 1 = i ∧ (mx_v ad w).category = 2) := by rw [mx_v_cat]; exact hc
    simp only [Bool.and_eq_true, Bool.not_eq_true', beq_eq_false_iff_ne, ne_eq, Bool.and_eq_false_iff]
    refine ⟨hj, ?_⟩
    by_cases z : j + 1 = i
    · exact Or.inr fun y => hc' ⟨z, y⟩
    · exact Or.inl z
theorem mx_lv_st2 {ad : Nat → Nat} {ls : Array Slot} {nL i : Nat} {L : List Value} {v : Value} (h : lv_has ls nL ((i, mx_v ad v) :: (mx_lv ad 0 L).filter (fun q => !(q.1 == i) && (!(q.1 == i + 1) && !(q.1 + 1 == i && q.2.category == 2))))) : lv_has ls nL (mx_lv ad 0 (mx_st2 L i v)) := by
  refine ⟨h.1, h.2.1, fun q hq => h.2.2 q ?_⟩
  obtain ⟨j, w, h1, h2, rfl⟩ := mx_lv_mem.mp hq
  rw [Nat.zero_add]
  have hne : j ≠ i + 1 := by
    intro e
    subst e
    unfold mx_st2 at h1
    rw [List.getElem?_set] at h1
    simp at h1
    obtain ⟨-, h1⟩ := h1
    subst h1
    cases h2
  have h1' : (mx_st1 L i v)[j]? = some w := by
    unfold mx_st2 at h1
    rw [List.getElem?_set, if_neg (fun e => hne e.symm)] at h1
    exact h1
  rcases mx_st1_get L i v w j h1' h2 with ⟨rfl, rfl⟩ | ⟨hj, hL, hc⟩
  · exact List.mem_cons_self
  · refine List.mem_cons_of_mem _ (List.mem_filter.mpr ⟨mx_lv_mem.mpr ⟨j, w, hL, h2, by rw [Nat.zero_add]⟩, ?_⟩)
    have hc' : ¬ (j + 1 = i ∧ (mx_v ad w).category = 2) := by rw [mx_v_cat]; exact hc
    simp only [Bool.and_eq_true, Bool.not_eq_true', beq_eq_false_iff_ne, ne_eq, Bool.and_eq_false_iff]
    refine ⟨hj, hne, ?_⟩
    by_cases z : j + 1 = i
    · exact Or.inr fun y => hc' ⟨z, y⟩
    · exact Or.inl z
/-- the locals at a method's entry -/
theorem mx_lay_lv (ad : Nat → Nat) : ∀ (as : List Value) (k : Nat) (q : Nat × Value), q ∈ mx_lv ad k (mx_lay as) → q ∈ lv_args k (as.map (mx_v ad)) := by
  intro as
  induction as with
  | nil => intro k q h; simp [mx_lay, mx_lv] at h
  | cons v r ih =>
    intro k q h
    cases v <;> simp_all [mx_lay, mx_lv, mx_isj, mx_v, lv_args, Value.category]
    all_goals first | (rcases h with h | h; exact Or.inl h; exact Or.inr (ih _ _ _ h)) | exact Or.inr (ih _ _ _ h) | skip
theorem mx_lv_pad {ad : Nat → Nat} (n : Nat) (L : List Value) {q : Nat × Value} (h : q ∈ mx_lv ad 0 (mx_pad n L)) : q ∈ mx_lv ad 0 L := by
  obtain ⟨i, v, h1, h2, h3⟩ := mx_lv_mem.mp h
  refine mx_lv_mem.mpr ⟨i, v, ?_, h2, h3⟩
  unfold mx_pad at h1
  rw [List.getElem?_append] at h1
  split at h1
  · exact h1
  · rw [List.getElem?_replicate] at h1
    split at h1
    · cases h1; cases h2
    · cases h1
theorem mx_lay_len (ad : Nat → Nat) (as : List Value) : (mx_lay as).length = (lg_sl (as.map (mx_v ad))).length := by
  induction as with
  | nil => rfl
  | cons v r ih => cases v <;> simp_all [mx_lay, lg_sl, mx_v, Value.category]
theorem mx_entry {ad : Nat → Nat} (as : List Value) {n : Nat} (h : (mx_lay as).length ≤ n) : lv_has ((lg_sl (as.map (mx_v ad)) ++ List.replicate (n - (lg_sl (as.map (mx_v ad))).length) Slot.unset).toArray) n (mx_lv ad 0 (mx_pad n (mx_lay as))) := by
  have h0 := lv_entry (as.map (mx_v ad)) (n := n) (by rw [← mx_lay_len ad as]; exact h)
  exact ⟨h0.1, h0.2.1, fun q hq => h0.2.2 q (mx_lay_lv ad as 0 q (mx_lv_pad n _ hq))⟩
