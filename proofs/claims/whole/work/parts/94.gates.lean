/-! gates, as they are meant -/
abbrev Gt : Type := Nat × Nat × Nat × Nat
def gK (g : Gt) : Nat := g.1
def gC (g : Gt) : Nat := g.2.1
def gL (g : Gt) : Nat := g.2.2.1
def gR (g : Gt) : Nat := g.2.2.2
def xb (x : Int) (i : Nat) : Bool := decide (x / 2 ^ i % 2 = 1)
def gev (g : Gt) (f : Nat → Bool) : Bool := if gK g = 0 then f (gL g) && f (gR g) else if gK g = 1 then (f (gL g)).xor (f (gR g)) else if f (gC g) = true then f (gL g) else f (gR g)
def lvF (f : Nat → Bool) (l : Nat) : Bool := (f (l / 2)).xor (decide (l % 2 = 1))
def stb (gs : Nat → Gt) (x : Int) : Nat → Nat → Bool
  | 0, _ => false
  | n + 1, g => if g = n then (if n = 0 then true else if n ≤ 8 then xb x (n - 1) else gev (gs n) (lvF (stb gs x n))) else stb gs x n g
def gvl (gs : Nat → Gt) (x : Int) (g : Nat) : Bool := stb gs x (g + 1) g
def lv (gs : Nat → Gt) (x : Int) (l : Nat) : Bool := lvF (gvl gs x) l
/-- gates are well made -/
def GW (z : Nat) (gs : Nat → Gt) : Prop := ∀ g, 9 ≤ g → g < z → gK (gs g) ≤ 2 ∧ (1 ≤ gL (gs g) / 2 ∧ gL (gs g) / 2 < g) ∧ (1 ≤ gR (gs g) / 2 ∧ gR (gs g) / 2 < g) ∧ (gK (gs g) ≤ 1 → gC (gs g) = 0 ∧ gL (gs g) / 2 ≠ gR (gs g) / 2) ∧ (gK (gs g) = 2 → (1 ≤ gC (gs g) / 2 ∧ gC (gs g) / 2 < g) ∧ gL (gs g) / 2 ≠ gC (gs g) / 2 ∧ gR (gs g) / 2 ≠ gC (gs g) / 2)
def GtC (z : Nat) (gs : Nat → Gt) (f : Nat → Nat → Int32) : Prop := f 22 5 = iI (z : Int) ∧ 9 ≤ z ∧ z ≤ 1065 ∧ ∀ g, 9 ≤ g → g < z → f 23 g = iI (gK (gs g) : Int) ∧ f 26 g = iI (gC (gs g) : Int) ∧ f 24 g = iI (gL (gs g) : Int) ∧ f 25 g = iI (gR (gs g) : Int)
/-- the gate is built of inputs in I -/
def gal (z : Nat) (gs : Nat → Gt) (I : Nat → Prop) (g : Nat) : Prop := ∃ S : Nat → Prop, S g ∧ ∀ u, S u → u = 0 ∨ ((1 ≤ u ∧ u ≤ 8) ∧ I u) ∨ (9 ≤ u ∧ u < z ∧ S (gC (gs u) / 2) ∧ S (gL (gs u) / 2) ∧ S (gR (gs u) / 2))
section GT
variable {z : Nat} {gs : Nat → Gt}
theorem stb_st {x : Int} {g : Nat} : ∀ n, g < n → stb gs x n g = gvl gs x g := by
  intro n
  induction n with
  | zero => intro h; omega
  | succ n ih =>
    intro h
    by_cases e : g = n
    · rw [e]; rfl
    · have : stb gs x (n + 1) g = stb gs x n g := if_neg e
      rw [this, ih (by omega)]
theorem gvl_0 {x : Int} : gvl gs x 0 = true := rfl
theorem gvl_i {x : Int} {g : Nat} (h : 1 ≤ g ∧ g ≤ 8) : gvl gs x g = xb x (g - 1) := by
  unfold gvl
  show (if g = g then (if g = 0 then true else if g ≤ 8 then xb x (g - 1) else _) else _) = _
  rw [if_pos rfl, if_neg (by omega), if_pos h.2]
theorem gev_e {g : Gt} {f f' : Nat → Bool} (h1 : f (gL g) = f' (gL g)) (h2 : f (gR g) = f' (gR g)) (h3 : f (gC g) = f' (gC g)) : gev g f = gev g f' := by unfold gev; rw [h1, h2, h3]
theorem gvl_g (W : GW z gs) {x : Int} {g : Nat} (h : 9 ≤ g ∧ g < z) : gvl gs x g = gev (gs g) (lv gs x) := by
  obtain ⟨w1, w2, w3, w4, w5⟩ := W g h.1 h.2
  have e : gvl gs x g = gev (gs g) (lvF (stb gs x g)) := by
    unfold gvl
    show (if g = g then (if g = 0 then true else if g ≤ 8 then xb x (g - 1) else gev (gs g) (lvF (stb gs x g))) else _) = _
    rw [if_pos rfl, if_neg (by omega), if_neg (by omega)]
  rw [e]
  have p : ∀ l, l / 2 < g → lvF (stb gs x g) l = lv gs x l := by
    intro l hl
    unfold lv lvF
    rw [stb_st g hl]
  refine gev_e (p _ w2.2) (p _ w3.2) (p _ ?_)
  by_cases q : gK (gs g) ≤ 1
  · rw [(w4 q).1]; omega
  · exact (w5 (by omega)).1.2
theorem gvl_x {z' : Nat} {gs' : Nat → Gt} (W : GW z gs) (W' : GW z' gs') (hz : z ≤ z') (he : ∀ g, g < z → gs' g = gs g) {x : Int} : ∀ g, g < z → gvl gs' x g = gvl gs x g := by
  intro g
  induction g using Nat.strongRecOn with
  | _ g ih =>
    intro hg
    by_cases q0 : g = 0
    · rw [q0]; rfl
    · by_cases q1 : g ≤ 8
      · rw [gvl_i (by omega), gvl_i (by omega)]
      · obtain ⟨w1, w2, w3, w4, w5⟩ := W g (by omega) hg
        rw [gvl_g W (by omega), gvl_g W' (by omega), he g hg]
        have p : ∀ l, l / 2 < g → lv gs' x l = lv gs x l := by
          intro l hl
          unfold lv lvF
          rw [ih (l / 2) hl (by omega)]
        refine gev_e (p _ w2.2) (p _ w3.2) (p _ ?_)
        by_cases q : gK (gs g) ≤ 1
        · rw [(w4 q).1]; omega
        · exact (w5 (by omega)).1.2
theorem lv_x {z' : Nat} {gs' : Nat → Gt} (W : GW z gs) (W' : GW z' gs') (hz : z ≤ z') (he : ∀ g, g < z → gs' g = gs g) {x : Int} {l : Nat} (hl : l / 2 < z) : lv gs' x l = lv gs x l := by
  unfold lv lvF
  rw [gvl_x W W' hz he _ hl]
theorem gal_lt {I : Nat → Prop} {g : Nat} (h9 : 9 ≤ z) (h : gal z gs I g) : g < z := by
  obtain ⟨S, a, b⟩ := h
  rcases b g a with q | q | q <;> omega
theorem gal_x {z' : Nat} {gs' : Nat → Gt} {I : Nat → Prop} {g : Nat} (hz : z ≤ z') (he : ∀ g, g < z → gs' g = gs g) (h : gal z gs I g) : gal z' gs' I g := by
  obtain ⟨S, a, b⟩ := h
  refine ⟨S, a, fun u hu => ?_⟩
  rcases b u hu with q | q | q
  · exact Or.inl q
  · exact Or.inr (Or.inl q)
  · rw [he u q.2.1]; exact Or.inr (Or.inr ⟨q.1, by omega, q.2.2⟩)
theorem gal_0 {I : Nat → Prop} : gal z gs I 0 := ⟨fun u => u = 0, rfl, fun u hu => Or.inl hu⟩
theorem gal_i {I : Nat → Prop} {u : Nat} (h : 1 ≤ u ∧ u ≤ 8) (hI : I u) : gal z gs I u := ⟨fun v => v = u, rfl, fun v hv => Or.inr (Or.inl (by rw [hv]; exact ⟨h, hI⟩))⟩
theorem gal_mk {I : Nat → Prop} {u : Nat} (h : 9 ≤ u ∧ u < z) (h1 : gal z gs I (gC (gs u) / 2)) (h2 : gal z gs I (gL (gs u) / 2)) (h3 : gal z gs I (gR (gs u) / 2)) : gal z gs I u := by
  obtain ⟨S1, a1, b1⟩ := h1
  obtain ⟨S2, a2, b2⟩ := h2
  obtain ⟨S3, a3, b3⟩ := h3
  refine ⟨fun v => v = u ∨ S1 v ∨ S2 v ∨ S3 v, Or.inl rfl, fun v hv => ?_⟩
  rcases hv with rfl | hv | hv | hv
  · exact Or.inr (Or.inr ⟨h.1, h.2, Or.inr (Or.inl a1), Or.inr (Or.inr (Or.inl a2)), Or.inr (Or.inr (Or.inr a3))⟩)
  · rcases b1 v hv with q | q | q
    · exact Or.inl q
    · exact Or.inr (Or.inl q)
    · exact Or.inr (Or.inr ⟨q.1, q.2.1, Or.inr (Or.inl q.2.2.1), Or.inr (Or.inl q.2.2.2.1), Or.inr (Or.inl q.2.2.2.2)⟩)
  · rcases b2 v hv with q | q | q
    · exact Or.inl q
    · exact Or.inr (Or.inl q)
    · exact Or.inr (Or.inr ⟨q.1, q.2.1, Or.inr (Or.inr (Or.inl q.2.2.1)), Or.inr (Or.inr (Or.inl q.2.2.2.1)), Or.inr (Or.inr (Or.inl q.2.2.2.2))⟩)
  · rcases b3 v hv with q | q | q
    · exact Or.inl q
    · exact Or.inr (Or.inl q)
    · exact Or.inr (Or.inr ⟨q.1, q.2.1, Or.inr (Or.inr (Or.inr q.2.2.1)), Or.inr (Or.inr (Or.inr q.2.2.2.1)), Or.inr (Or.inr (Or.inr q.2.2.2.2))⟩)
end GT
/-- a literal turned over -/
def ng (a : Nat) : Nat := if a % 2 = 0 then a + 1 else a - 1
theorem ng_2 (a : Nat) : ng a / 2 = a / 2 := by unfold ng; split <;> omega
theorem ng_m (a : Nat) : ng a % 2 = 1 - a % 2 := by unfold ng; split <;> omega
theorem ng_ng (a : Nat) : ng (ng a) = a := by unfold ng; split <;> split <;> omega
theorem ng_x {a : Nat} (h : a < 4096) : a ^^^ 1 = ng a := by
  have : ∀ b : Fin 64, ∀ c : Fin 64, (64 * b.val + c.val) ^^^ 1 = ng (64 * b.val + c.val) := by decide +kernel
  have e := this ⟨a / 64, by omega⟩ ⟨a % 64, by omega⟩
  dsimp only at e
  rw [show 64 * (a / 64) + a % 64 = a by omega] at e
  exact e
theorem ii_ng {a : Nat} (h : a < 4096) : iI (a : Int) ^^^ 1 = iI (ng a : Int) := by
  have : iI (a : Int) ^^^ iI ((1 : Nat) : Int) = _ := ii_xorN a 1
  rw [ng_x h] at this
  exact this
theorem ii_h {a : Nat} (h : a < 65536) : iI (a : Int) >>> (1 &&& 31) = iI ((a / 2 : Nat) : Int) := nn_sh (k := 1) (by decide) h
theorem lv_ng {gs : Nat → Gt} {x : Int} {a : Nat} : lv gs x (ng a) = !(lv gs x a) := by
  unfold lv lvF
  rw [ng_2, ng_m]
  by_cases q : a % 2 = 1
  · rw [q]; simp
  · have : a % 2 = 0 := by omega
    rw [this]; simp
theorem lv_0 {gs : Nat → Gt} {x : Int} : lv gs x 0 = true := rfl
theorem lv_1 {gs : Nat → Gt} {x : Int} : lv gs x 1 = false := rfl
theorem lit_eq {a b : Nat} (h : a / 2 = b / 2) : a = b ∨ a = ng b := by unfold ng; split <;> omega
