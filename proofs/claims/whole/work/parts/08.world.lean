/-! MINI and the machine: the cells of the world, what stands still, a method's contract -/
def mx_fv (ad : Nat → Nat) (h : mx_H) (i k : Nat) (q : Nat ⊕ Bool) : Value := match q with
  | .inl j => .ref (ad j)
  | .inr false => .int (h.1 i k)
  | .inr true => .long (h.2.1 i k)
def mx_fs (ad : Nat → Nat) (h : mx_H) (i : Nat) : Nat → List (Nat ⊕ Bool) → List Value
  | _, [] => []
  | k, q :: r => mx_fv ad h i k q :: mx_fs ad h i (k + 1) r
theorem mx_fs_get (ad : Nat → Nat) (h : mx_H) (i : Nat) : ∀ (fk : List (Nat ⊕ Bool)) (k0 k : Nat), (mx_fs ad h i k0 fk)[k]? = (fk[k]?).map (mx_fv ad h i (k0 + k)) := by
  intro fk
  induction fk with
  | nil => intro k0 k; simp [mx_fs]
  | cons q r ih =>
    intro k0 k
    cases k with
    | zero => simp [mx_fs]
    | succ k =>
      simp only [mx_fs, List.getElem?_cons_succ]
      rw [ih]
      congr 2
      omega
def mx_cell (cA : Nat → ClassId) (ad : Nat → Nat) (h : mx_H) (i : Nat) (s : mx_Sh) : va_E := match s with
  | .inl (c, fk) => .inr (c, mx_fs ad h i 0 fk)
  | .inr (k, n) => .inl (cA k, n, match k with
    | 3 => .inr (.inl (h.2.1 i))
    | 4 => .inr (.inr (.inr (.inr (fun j => (h.2.2 i j).map ad))))
    | _ => .inl (h.1 i))
def mx_W (cA : Nat → ClassId) (ad : Nat → Nat) (h : mx_H) : va_W := mx_shpL.zipIdx.map (fun q => (ad q.2, mx_cell cA ad h q.2 q.1))
theorem mx_W_get {cA : Nat → ClassId} {ad : Nat → Nat} {h : mx_H} {a : Nat} {s : mx_Sh} (hs : mx_shp a = some s) : (mx_W cA ad h)[a]? = some (ad a, mx_cell cA ad h a s) := by
  unfold mx_shp at hs
  simp [mx_W, List.getElem?_map, List.getElem?_zipIdx, hs]
theorem mx_W_none {cA : Nat → ClassId} {ad : Nat → Nat} {h : mx_H} {a : Nat} (hs : mx_shp a = none) : (mx_W cA ad h)[a]? = none := by
  unfold mx_shp at hs
  simp only [mx_W, List.getElem?_map, List.getElem?_zipIdx, hs]
  rfl
theorem mx_fs_same {ad : Nat → Nat} {h h' : mx_H} {i : Nat} (e1 : h'.1 i = h.1 i) (e2 : h'.2.1 i = h.2.1 i) : ∀ (fk : List (Nat ⊕ Bool)) (k : Nat), mx_fs ad h' i k fk = mx_fs ad h i k fk := by
  intro fk
  induction fk with
  | nil => intro k; rfl
  | cons q r ih =>
    intro k
    have e : mx_fv ad h' i k q = mx_fv ad h i k q := by
      rcases q with j | _ | _
      · rfl
      · simp [mx_fv, e1]
      · simp [mx_fv, e2]
    simp only [mx_fs, e, ih]
theorem mx_cell_same {cA : Nat → ClassId} {ad : Nat → Nat} {h h' : mx_H} {i : Nat} (e1 : h'.1 i = h.1 i) (e2 : h'.2.1 i = h.2.1 i) (e3 : h'.2.2 i = h.2.2 i) (s : mx_Sh) : mx_cell cA ad h' i s = mx_cell cA ad h i s := by
  rcases s with ⟨c, fk⟩ | ⟨k, n⟩
  · simp only [mx_cell, mx_fs_same e1 e2]
  · simp only [mx_cell, e1, e2, e3]
/-- the world when one cell alone has changed -/
theorem mx_W_set {cA : Nat → ClassId} {ad : Nat → Nat} {h h' : mx_H} {a : Nat} {s : mx_Sh} (hs : mx_shp a = some s) (hne : ∀ b, b ≠ a → h'.1 b = h.1 b ∧ h'.2.1 b = h.2.1 b ∧ h'.2.2 b = h.2.2 b) : mx_W cA ad h' = (mx_W cA ad h).set a (ad a, mx_cell cA ad h' a s) := by
  apply List.ext_getElem?
  intro b
  rw [List.getElem?_set]
  by_cases hb : a = b
  · subst hb
    rw [if_pos rfl, mx_W_get hs]
    have hl : a < (mx_W cA ad h).length := by
      have := mx_W_get (cA := cA) (ad := ad) (h := h) hs
      exact (List.getElem?_eq_some_iff.mp this).1
    rw [if_pos hl]
  · rw [if_neg hb]
    cases hx : mx_shp b with
    | none => rw [mx_W_none hx, mx_W_none hx]
    | some s' =>
      obtain ⟨e1, e2, e3⟩ := hne b (fun e => hb e.symm)
      rw [mx_W_get hx, mx_W_get hx, mx_cell_same e1 e2 e3]
theorem mx_u_ne {α : Type} (f : Nat → Nat → α) {a b : Nat} (k : Nat) (x : α) (h : b ≠ a) : mx_u f a k x b = f b := by
  funext j
  simp [mx_u, h]
theorem mx_u_eq {α : Type} (f : Nat → Nat → α) (a k : Nat) (x : α) : mx_u f a k x a = fun j => if j = k then x else f a j := by
  funext j
  simp [mx_u]
theorem mx_fs_put {ad : Nat → Nat} {h h' : mx_H} {i kk : Nat} {v : Value} : ∀ (fk : List (Nat ⊕ Bool)) (k0 : Nat), (∀ (k : Nat) (q : Nat ⊕ Bool), fk[k]? = some q → mx_fv ad h' i (k0 + k) q = if k = kk then v else mx_fv ad h i (k0 + k) q) → mx_fs ad h' i k0 fk = (mx_fs ad h i k0 fk).set kk v := by
  intro fk k0 hh
  apply List.ext_getElem?
  intro k
  rw [List.getElem?_set, mx_fs_get, mx_fs_get]
  by_cases hk : kk = k
  · subst hk
    rw [if_pos rfl]
    cases hq : fk[kk]? with
    | none =>
      have : ¬ kk < (mx_fs ad h i k0 fk).length := by
        intro hl
        have := mx_fs_get ad h i fk k0 kk
        rw [hq] at this
        simp at this
        omega
      simp [this]
    | some q =>
      have : kk < (mx_fs ad h i k0 fk).length := by
        have := mx_fs_get ad h i fk k0 kk
        rw [hq] at this
        exact (List.getElem?_eq_some_iff.mp this).1
      rw [if_pos this]
      have := hh kk q hq
      rw [if_pos rfl] at this
      simp [this]
  · rw [if_neg hk]
    cases hq : fk[k]? with
    | none => rfl
    | some q =>
      have := hh k q hq
      rw [if_neg (fun e => hk e.symm)] at this
      simp [this]
-- what stands still: words, their array, the switch's table, the texts, links between nest mates
def mx_isN (w : Cond) : Bool := match w with
  | .fieldLinkNest _ _ _ _ _ _ => true
  | .methodLinkNest _ _ _ _ => true
  | _ => false
def mx_nest : List Cond := lw_tbl.filter mx_isN
def mx_gw : List Cond := lw_tbl.filter goodWord
def mx_bytL : List (List Int32) := mx_txtL.map (fun t => t.map Int32.ofNat)
def mx_Tx (ad : Nat → Nat) (A : Nat → Prop) (U : State) (H : Heap) : Prop := (∀ i : Nat, i < 42 → va_O "java/lang/String" (ad (3000 + i)) A U H ∧ va_OF "java/lang/String" "coder" "B" (.int 0) (ad (3000 + i)) A U H ∧ va_OF "java/lang/String" "value" "[B" (.ref (ad (4000 + i))) (ad (3000 + i)) A U H ∧ va_T .byte (ad (4000 + i)) ((mx_txtL.map List.length).getD i 0) (fun j => .int ((mx_bytL.getD i []).getD j 0)) A U H) ∧ True
theorem mx_Tx.moved {ad : Nat → Nat} {A : Nat → Prop} {u U : State} {H : Heap} (hvm : u.vm.Alike U.vm) (h : mx_Tx ad A u H) : mx_Tx ad A U H := ⟨fun i hi => ⟨(h.1 i hi).1.moved hvm, (h.1 i hi).2.1.moved hvm, (h.1 i hi).2.2.1.moved hvm, (h.1 i hi).2.2.2.moved hvm⟩, trivial⟩
theorem mx_Tx.kept {ad : Nat → Nat} {A : Nat → Prop} {U : State} {H H1 : Heap} (h : mx_Tx ad A U H) (hq : ∀ a : Nat, a < H.size → ¬ A a → H1[a]? = H[a]?) : mx_Tx ad A U H1 := ⟨fun i hi => ⟨(h.1 i hi).1.kept hq, (h.1 i hi).2.1.kept hq, (h.1 i hi).2.2.1.kept hq, (h.1 i hi).2.2.2.kept hq⟩, trivial⟩
def mx_St1 (ad : Nat → Nat) (A : Nat → Prop) (U : State) (H : Heap) : Prop :=
  (∀ i, i < 42 → va_Z RX9 (mx_wn.getD i "") "LTermSolver$Word;" (.ref (ad (1000 + i))) A U H ∧ va_O RX9 (ad (1000 + i)) A U H ∧ va_OF RX9 "spelling" "Ljava/lang/String;" (.ref (ad (3000 + i))) (ad (1000 + i)) A U H ∧ va_OF RX9 "shape" "I" (.int (mx_wsh.getD i (0, 0)).1) (ad (1000 + i)) A U H ∧ va_OF RX9 "parts" "I" (.int (mx_wsh.getD i (0, 0)).2) (ad (1000 + i)) A U H ∧ va_OF "java/lang/Enum" "ordinal" "I" (.int (Int32.ofNat i)) (ad (1000 + i)) A U H) ∧
  va_Z RX10 "ALL_WORDS" "[LTermSolver$Word;" (.ref (ad 2000)) A U H ∧ va_Z RX0 "$SwitchMap$TermSolver$Word" "[I" (.ref (ad 2001)) A U H ∧
  va_T (.object RX9) (ad 2000) 42 (fun j => .ref (ad (1000 + j))) A U H ∧ va_T .int (ad 2001) 42 (fun j => .int (mx_swm j)) A U H ∧
  mx_Tx ad A U H ∧ va_Z "java/lang/String" "COMPACT_STRINGS" "Z" (.int 1) A U H ∧ (va_Z "jdk/internal/util/Preconditions" "SIOOBE_FORMATTER" "Ljava/util/function/BiFunction;" .null A U H ∨ va_Z "jdk/internal/util/Preconditions" "SIOOBE_FORMATTER" "Ljava/util/function/BiFunction;" (.ref (ad 5000)) A U H)
def mx_Inj (ad : Nat → Nat) : Prop := ∀ i j, i < 42 → j < 42 → ad (1000 + i) = ad (1000 + j) → i = j
theorem mx_St1.moved {ad : Nat → Nat} {A : Nat → Prop} {u U : State} {H : Heap} (hvm : u.vm.Alike U.vm) (h : mx_St1 ad A u H) : mx_St1 ad A U H := by
  obtain ⟨h1, h2, h3, h4, h5, h6, h7, h8⟩ := h
  refine ⟨fun i hi => ?_, h2.moved hvm, h3.moved hvm, h4.moved hvm, h5.moved hvm, h6.moved hvm, h7.moved hvm, h8.imp (fun z => z.moved hvm) (fun z => z.moved hvm)⟩
  obtain ⟨a1, a2, a3, a4, a5, a6⟩ := h1 i hi
  exact ⟨a1.moved hvm, a2.moved hvm, a3.moved hvm, a4.moved hvm, a5.moved hvm, a6.moved hvm⟩
theorem mx_St1.kept {ad : Nat → Nat} {A : Nat → Prop} {U : State} {H H1 : Heap} (h : mx_St1 ad A U H) (hq : ∀ a : Nat, a < H.size → ¬ A a → H1[a]? = H[a]?) : mx_St1 ad A U H1 := by
  obtain ⟨h1, h2, h3, h4, h5, h6, h7, h8⟩ := h
  refine ⟨fun i hi => ?_, h2.kept hq, h3.kept hq, h4.kept hq, h5.kept hq, h6.kept hq, h7.kept hq, h8.imp (fun z => z.kept hq) (fun z => z.kept hq)⟩
  obtain ⟨a1, a2, a3, a4, a5, a6⟩ := h1 i hi
  exact ⟨a1.kept hq, a2.kept hq, a3.kept hq, a4.kept hq, a5.kept hq, a6.kept hq⟩
def mx_St2 (U : State) : Prop := ∀ w ∈ mx_nest, va_Nw w U
theorem mx_isN_tab {w : Cond} (h : mx_isN w = true) : w.onTables = true := by
  unfold mx_isN at h
  split at h
  · rfl
  · rfl
  · cases h
theorem mx_St2.same {u U : State} (hv : u.vm = U.vm) (h : mx_St2 u) : mx_St2 U := fun w hw => va_Nw.same (mx_isN_tab (List.mem_filter.mp hw).2) hv (h w hw)
theorem mx_St2.warm {s U : State} (hW : s.WarmedH U.vm) (h : mx_St2 s) : mx_St2 U := by
  intro w hw
  have h0 := h w hw
  have h1 := (List.mem_filter.mp hw).2
  unfold mx_isN at h1
  split at h1
  · exact va_Nw.warmF hW h0
  · exact va_Nw.warmM hW h0
  · cases h1
abbrev mx_tys (cA : Nat → ClassId) : List (ClassId × FieldType) := [(cA 0, .int), (cA 1, .char), (cA 2, .boolean), (cA 3, .long), (cA 4, .object RX9)]
abbrev mx_A (base : Nat) : Nat → Prop := fun q => base ≤ q
/-- the world's names: class numbers, slots, array classes, addresses, where the law's own cells begin -/
abbrev mx_G : Type := (Nat → ClassId) × (Nat → Nat → Nat) × (Nat → ClassId) × (Nat → Nat) × Nat
def mx_Wd (g : mx_G) (h : mx_H) (U : State) : Prop :=
  va_K (g.1, g.2.1) vwCl (mx_tys g.2.2.1) U ∧ va_P (g.1, g.2.1) vwCl (mx_W g.2.2.1 g.2.2.2.1 h) U.heap ∧ va_D (mx_A g.2.2.2.2) (mx_W g.2.2.1 g.2.2.2.1 h) ∧ mx_St1 g.2.2.2.1 (mx_A g.2.2.2.2) U U.heap ∧ mx_St2 U ∧ mx_Inj g.2.2.2.1 ∧ g.2.2.2.2 ≤ U.heap.size
def mx_Pre (g : mx_G) (as : List Value) (h : mx_H) : Array Value → State → Prop := va_Pc (as.map (mx_v g.2.2.2.1)) (mx_Wd g h)
def mx_Post (g : mx_G) (o : mx_O) : Array Value → State → Outcome → State → Prop := fun _ st oc t => (oc = .returned (o.1.map (mx_v g.2.2.2.1)) ∧ mx_Wd g o.2 t) ∧ va_F (mx_A g.2.2.2.2) st t
theorem mx_blind (g : mx_G) (as : List Value) (h : mx_H) : FrameBlind (mx_Pre g as h) := by
  intro a U f mk q
  obtain ⟨q0, q1, q2, q3, q4, q5, q6⟩ := q
  exact ⟨q0, va_K.moved (u := U) (U := U.calling f mk a) (Vm.Alike.refl U.vm) q1, q2, q3, mx_St1.moved (u := U) (U := U.calling f mk a) (Vm.Alike.refl U.vm) q4, mx_St2.same (u := U) (U := U.calling f mk a) rfl q5, q6⟩
abbrev mx_rm (r : Nat) : Room := { frames := r, cells := 0, slots := 0, locals := 64 * r }
def mx_ws (y : mx_M) : List Cond := .code y.2.2.2.1 y.2.2.2.2.1 y.2.2.2.2.2.1 y.2.2.2.2.2.2 :: mx_gw
/-- the contract of one run of a method -/
def mx_Met (l : Launch) (g : mx_G) (y : mx_M) (as : List Value) (h : mx_H) (o : mx_O) : Prop := Met l y.2.2.2.1 (mx_ws y) (mx_rm (mx_rank y as)) (mx_Pre g as h) (mx_Post g o) 0 0 (mx_A g.2.2.2.2)
