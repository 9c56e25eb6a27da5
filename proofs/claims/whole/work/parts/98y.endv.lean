/-! the search: what holds when all is assigned -/
def tO (s : Se) (l : Nat) : Prop := ∃ i, i < eT s ∧ eX s i = l
def tcl (g : Gt) (u : Nat) : List (List Nat) := if gK g = 0 then [[ng (2 * u), gL g], [ng (2 * u), gR g], [2 * u, ng (gL g), ng (gR g)]] else if gK g = 1 then [[ng (2 * u), gL g, gR g], [ng (2 * u), ng (gL g), ng (gR g)], [2 * u, ng (gL g), gR g], [2 * u, gL g, ng (gR g)]] else [[ng (2 * u), ng (gC g), gL g], [2 * u, ng (gC g), ng (gL g)], [ng (2 * u), gC g, gR g], [2 * u, gC g, ng (gR g)]]
def VO (gs : Nat → Gt) (x : Int) (s : Se) (u : Nat) : Prop := ∀ l, l / 2 = u → lv gs x l = true → tO s l
section EN
variable {z : Nat} {gs : Nat → Gt} {N : Nat} {od : Nat → Nat} {Sol : Int → Prop} {s : Se}
theorem cl_last (I : clI z s) (T : trI z s) (A : waI s (eT s)) {c l : Nat} (hc : c < eM s) (ot : ∀ l', inC s c l' → l' ≠ l → tO s (ng l')) : tO s l := by
  have key : ∀ k, k / 2 = c → wl s k ≠ l → tO s l := by
    intro k e ne
    have hk : k < 2 * eM s := by omega
    obtain ⟨i, i1, i2⟩ := ot (wl s k) ⟨_, by rw [← e]; exact inR_w I hk, rfl⟩ ne
    obtain ⟨j, j1, j2, _⟩ := A k hk i i1 i2
    by_cases y : wl s (ng k) = l
    · exact ⟨j, j1, by rw [j2, y]⟩
    · obtain ⟨i', q1, q2⟩ := ot (wl s (ng k)) ⟨_, by have := inR_w I (ng_l hk); rw [ng_2, e] at this; rw [ng_2, e]; exact this, rfl⟩ y
      exact (tv_not T ⟨j1, j2⟩ ⟨q1, q2⟩).elim
  by_cases y : wl s (2 * c) = l
  · refine key (2 * c + 1) (by omega) (fun e => ?_)
    have := wl_ne I (k := 2 * c) (by omega)
    rw [show ng (2 * c) = 2 * c + 1 by unfold ng; rw [if_pos (by omega)], y, e] at this
    exact this rfl
  · exact key (2 * c) (by omega) y
theorem cl_use (I : clI z s) (T : trI z s) (A : waI s (eT s)) {x : Int} {L : List Nat} {l : Nat} (hL : ∃ c, c < eM s ∧ ∀ l, inC s c l ↔ l ∈ L) (ot : ∀ l', l' ∈ L → l' ≠ l → lv gs x l' = false ∧ VO gs x s (l' / 2)) : tO s l := by
  obtain ⟨c, c1, c2⟩ := hL
  refine cl_last I T A c1 (fun l' hl ne => ?_)
  obtain ⟨a, b⟩ := ot l' ((c2 l').mp hl) ne
  exact b (ng l') (ng_2 l') (by rw [lv_ng, a]; rfl)
theorem lv_2 {x : Int} {u : Nat} : lv gs x (2 * u) = gvl gs x u := by
  unfold lv lvF
  rw [show 2 * u / 2 = u by omega, show 2 * u % 2 = 0 by omega]
  cases gvl gs x u <;> rfl
theorem lv_3 {x : Int} {u : Nat} : lv gs x (2 * u + 1) = !(gvl gs x u) := by
  rw [show 2 * u + 1 = ng (2 * u) by unfold ng; rw [if_pos (by omega)], lv_ng, lv_2]
theorem lv_i {x : Int} {u : Nat} (h : 1 ≤ u ∧ u ≤ 8) : lv gs x (2 * u) = xb x (u - 1) := by rw [lv_2, gvl_i h]
/-- what a gate's clauses say is so -/
theorem tcl_sound (W : GW z gs) {u : Nat} (hu : 9 ≤ u ∧ u < z) {L : List Nat} (hL : L ∈ tcl (gs u) u) (x : Int) : ∃ l, l ∈ L ∧ lv gs x l = true := by
  have e := gvl_g W (x := x) hu
  have e2 := lv_2 (gs := gs) (x := x) (u := u)
  rw [e] at e2
  unfold gev at e2
  unfold tcl at hL
  have n := fun a => lv_ng (gs := gs) (x := x) (a := a)
  by_cases k0 : gK (gs u) = 0
  · rw [if_pos k0] at e2 hL
    simp only [List.mem_cons, List.not_mem_nil, or_false] at hL
    cases va : lv gs x (gL (gs u)) <;> cases vb : lv gs x (gR (gs u)) <;> rw [va, vb] at e2 <;> rcases hL with r | r | r <;> rw [r] <;> simp only [List.mem_cons, List.not_mem_nil, or_false, exists_eq_or_imp, exists_eq_left, n, e2, va, vb] <;> decide
  · rw [if_neg k0] at e2 hL
    by_cases k1 : gK (gs u) = 1
    · rw [if_pos k1] at e2 hL
      simp only [List.mem_cons, List.not_mem_nil, or_false] at hL
      cases va : lv gs x (gL (gs u)) <;> cases vb : lv gs x (gR (gs u)) <;> rw [va, vb] at e2 <;> rcases hL with r | r | r | r <;> rw [r] <;> simp only [List.mem_cons, List.not_mem_nil, or_false, exists_eq_or_imp, exists_eq_left, n, e2, va, vb] <;> decide
    · rw [if_neg k1] at e2 hL
      simp only [List.mem_cons, List.not_mem_nil, or_false] at hL
      cases vc : lv gs x (gC (gs u)) <;> cases va : lv gs x (gL (gs u)) <;> cases vb : lv gs x (gR (gs u)) <;> rw [va, vb, vc] at e2 <;> rcases hL with r | r | r | r <;> rw [r] <;> simp only [List.mem_cons, List.not_mem_nil, or_false, exists_eq_or_imp, exists_eq_left, n, e2, va, vb, vc] <;> decide
/-- a gate whose operands have their values has its own -/
theorem en_gate (I : clI z s) (T : trI z s) (A : waI s (eT s)) (W : GW z gs) {x : Int} {u : Nat} (hu : 9 ≤ u ∧ u < z) (td : ∀ L, L ∈ tcl (gs u) u → ∃ c, c < eM s ∧ ∀ l, inC s c l ↔ l ∈ L) (oL : VO gs x s (gL (gs u) / 2)) (oR : VO gs x s (gR (gs u) / 2)) (oC : gK (gs u) = 2 → VO gs x s (gC (gs u) / 2)) : VO gs x s u := by
  have e := gvl_g W (x := x) hu
  have e2 := lv_2 (gs := gs) (x := x) (u := u)
  rw [e] at e2
  have k2 := (W u hu.1 hu.2).1
  unfold gev at e2
  unfold tcl at td
  have n := fun a => lv_ng (gs := gs) (x := x) (a := a)
  have n2 := ng_2
  have own : tO s (if lv gs x (2 * u) = true then 2 * u else ng (2 * u)) := by
    by_cases k0 : gK (gs u) = 0
    · rw [if_pos k0] at e2 td
      cases va : lv gs x (gL (gs u)) <;> cases vb : lv gs x (gR (gs u)) <;> rw [va, vb] at e2 <;> rw [e2]
      · refine cl_use (gs := gs) (x := x) I T A (td [ng (2 * u), gL (gs u)] (by simp)) (fun l' hl ne => ?_)
        simp at hl ne
        rcases hl with r | r
        · exact absurd r ne
        · rw [r]; exact ⟨va, oL⟩
      · refine cl_use (gs := gs) (x := x) I T A (td [ng (2 * u), gL (gs u)] (by simp)) (fun l' hl ne => ?_)
        simp at hl ne
        rcases hl with r | r
        · exact absurd r ne
        · rw [r]; exact ⟨va, oL⟩
      · refine cl_use (gs := gs) (x := x) I T A (td [ng (2 * u), gR (gs u)] (by simp)) (fun l' hl ne => ?_)
        simp at hl ne
        rcases hl with r | r
        · exact absurd r ne
        · rw [r]; exact ⟨vb, oR⟩
      · refine cl_use (gs := gs) (x := x) I T A (td [2 * u, ng (gL (gs u)), ng (gR (gs u))] (by simp)) (fun l' hl ne => ?_)
        simp at hl ne
        rcases hl with r | r | r
        · exact absurd r ne
        · rw [r, n, va, n2]; exact ⟨rfl, oL⟩
        · rw [r, n, vb, n2]; exact ⟨rfl, oR⟩
    · rw [if_neg k0] at e2 td
      by_cases k1 : gK (gs u) = 1
      · rw [if_pos k1] at e2 td
        cases va : lv gs x (gL (gs u)) <;> cases vb : lv gs x (gR (gs u)) <;> rw [va, vb] at e2 <;> rw [e2]
        · refine cl_use (gs := gs) (x := x) I T A (td [ng (2 * u), gL (gs u), gR (gs u)] (by simp)) (fun l' hl ne => ?_)
          simp at hl ne
          rcases hl with r | r | r
          · exact absurd r ne
          · rw [r]; exact ⟨va, oL⟩
          · rw [r]; exact ⟨vb, oR⟩
        · refine cl_use (gs := gs) (x := x) I T A (td [2 * u, gL (gs u), ng (gR (gs u))] (by simp)) (fun l' hl ne => ?_)
          simp at hl ne
          rcases hl with r | r | r
          · exact absurd r ne
          · rw [r]; exact ⟨va, oL⟩
          · rw [r, n, vb, n2]; exact ⟨rfl, oR⟩
        · refine cl_use (gs := gs) (x := x) I T A (td [2 * u, ng (gL (gs u)), gR (gs u)] (by simp)) (fun l' hl ne => ?_)
          simp at hl ne
          rcases hl with r | r | r
          · exact absurd r ne
          · rw [r, n, va, n2]; exact ⟨rfl, oL⟩
          · rw [r]; exact ⟨vb, oR⟩
        · refine cl_use (gs := gs) (x := x) I T A (td [ng (2 * u), ng (gL (gs u)), ng (gR (gs u))] (by simp)) (fun l' hl ne => ?_)
          simp at hl ne
          rcases hl with r | r | r
          · exact absurd r ne
          · rw [r, n, va, n2]; exact ⟨rfl, oL⟩
          · rw [r, n, vb, n2]; exact ⟨rfl, oR⟩
      · rw [if_neg k1] at e2 td
        have oC := oC (by omega)
        cases vc : lv gs x (gC (gs u))
        · cases vb : lv gs x (gR (gs u)) <;> rw [vb, vc, if_neg (by decide)] at e2 <;> rw [e2]
          · refine cl_use (gs := gs) (x := x) I T A (td [ng (2 * u), gC (gs u), gR (gs u)] (by simp)) (fun l' hl ne => ?_)
            simp at hl ne
            rcases hl with r | r | r
            · exact absurd r ne
            · rw [r]; exact ⟨vc, oC⟩
            · rw [r]; exact ⟨vb, oR⟩
          · refine cl_use (gs := gs) (x := x) I T A (td [2 * u, gC (gs u), ng (gR (gs u))] (by simp)) (fun l' hl ne => ?_)
            simp at hl ne
            rcases hl with r | r | r
            · exact absurd r ne
            · rw [r]; exact ⟨vc, oC⟩
            · rw [r, n, vb, n2]; exact ⟨rfl, oR⟩
        · cases va : lv gs x (gL (gs u)) <;> rw [va, vc, if_pos rfl] at e2 <;> rw [e2]
          · refine cl_use (gs := gs) (x := x) I T A (td [ng (2 * u), ng (gC (gs u)), gL (gs u)] (by simp)) (fun l' hl ne => ?_)
            simp at hl ne
            rcases hl with r | r | r
            · exact absurd r ne
            · rw [r, n, vc, n2]; exact ⟨rfl, oC⟩
            · rw [r]; exact ⟨va, oL⟩
          · refine cl_use (gs := gs) (x := x) I T A (td [2 * u, ng (gC (gs u)), ng (gL (gs u))] (by simp)) (fun l' hl ne => ?_)
            simp at hl ne
            rcases hl with r | r | r
            · exact absurd r ne
            · rw [r, n, vc, n2]; exact ⟨rfl, oC⟩
            · rw [r, n, va, n2]; exact ⟨rfl, oL⟩
  intro l hl t
  rcases lit_eq (show l / 2 = 2 * u / 2 by omega) with r | r
  · rw [r] at t ⊢
    rw [if_pos t] at own
    exact own
  · rw [r, n] at t
    rw [r]
    rw [if_neg (by intro y; rw [y] at t; exact absurd t (by decide))] at own
    exact own
/-- told gates, and what they are made of -/
def TdI (z : Nat) (gs : Nat → Gt) (I : Nat → Prop) (D : Nat → Prop) (s : Se) : Prop := ∀ u, D u → (9 ≤ u ∧ u < z) ∧ (∀ L, L ∈ tcl (gs u) u → ∃ c, c < eM s ∧ ∀ l, inC s c l ↔ l ∈ L) ∧ ∀ v, v = gC (gs u) / 2 ∨ v = gL (gs u) / 2 ∨ v = gR (gs u) / 2 → D v ∨ v = 0 ∨ ((1 ≤ v ∧ v ≤ 8) ∧ I v)
theorem en_all (I : clI z s) (T : trI z s) (A : waI s (eT s)) (W : GW z gs) {Ip D : Nat → Prop} (TD : TdI z gs Ip D s) {x : Int} (inp : ∀ u, 1 ≤ u ∧ u ≤ 8 → Ip u → VO gs x s u) : ∀ u, (D u ∨ ((1 ≤ u ∧ u ≤ 8) ∧ Ip u)) → VO gs x s u := by
  intro u
  induction u using Nat.strongRecOn with
  | ind u ih =>
    intro hu
    rcases hu with hu | ⟨h1, h2⟩
    · obtain ⟨t1, t2, t3⟩ := TD u hu
      obtain ⟨w1, w2, w3, w4, w5⟩ := W u t1.1 t1.2
      have op : ∀ v, (v = gC (gs u) / 2 ∨ v = gL (gs u) / 2 ∨ v = gR (gs u) / 2) → 1 ≤ v ∧ v < u → VO gs x s v := by
        intro v hv b
        refine ih v b.2 ?_
        rcases t3 v hv with r | r | r
        · exact Or.inl r
        · omega
        · exact Or.inr r
      exact en_gate I T A W t1 t2 (op _ (Or.inr (Or.inl rfl)) w2) (op _ (Or.inr (Or.inr rfl)) w3) (fun k => op _ (Or.inl rfl) (w5 k).1)
    · exact inp u h1 h2
/-- any other solution is not less -/
theorem en_least (T : trI z s) (S : sdI gs Sol s) (R : rsI gs N od Sol s) (O : odI N od) {x y : Int} (xv : ∀ p, p < N → tO s (2 * od p + 1) → xb x (od p - 1) = false) (hy : Sol y) {p : Nat} (hp : p < N) (same : ∀ p', p' < p → xb y (od p' - 1) = xb x (od p' - 1)) (tx : tO s (2 * od p)) : xb y (od p - 1) = true := by
  obtain ⟨i, i1, i2⟩ := tx
  have all : ∀ j, j ≤ i → lv gs y (eX s j) = true := by
    intro j
    induction j using Nat.strongRecOn with
    | ind j ih =>
      intro hj
      rcases R j (by omega) with ⟨_, q⟩ | ⟨_, p2, q1, q2, q3⟩ | ⟨c, c1, c2, c3, c4⟩
      · exact q y hy
      · have ne : p2 < p := by
          by_cases e : p2 < p
          · exact e
          · by_cases e2 : p2 = p
            · rw [e2] at q2
              have : j = i := tr_inj T (by omega) i1 (by rw [q2, i2]; omega)
              rw [this, i2] at q2
              omega
            · obtain ⟨j', r1, r2⟩ := q3 p (by omega)
              have : j' = i := tr_inj T (by omega) i1 (by rw [r2, i2]; omega)
              omega
        have b := O.2.1 p2 q1
        have f := xv p2 q1 ⟨j, by omega, q2⟩
        rw [q2, lv_3, gvl_i b, same p2 ne, f]
        rfl
      · obtain ⟨l, l1, l2⟩ := S c c1 y hy
        by_cases e : l = eX s j
        · rw [← e]; exact l2
        · obtain ⟨j', r1, r2⟩ := c4 l l1 e
          have := ih j' r1 (by omega)
          rw [r2, lv_ng, l2] at this
          exact absurd this (by decide)
  have a := all i (Nat.le_refl _)
  have b := O.2.1 p hp
  rw [i2, lv_i b] at a
  exact a
end EN
