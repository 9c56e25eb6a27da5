/-! the reference's tokens against the meant ones -/
theorem txt_c : ∀ w : Fin 42, ∀ x, x ∈ mx_txt w.val → 1 ≤ x ∧ x < 128 := by decide +kernel
theorem txt_s : ∀ w : Fin 42, isSy (((mx_txt w.val).getD 0 0 : Nat) : Int) = true := by decide +kernel
/-- the kind that a word is an operator of -/
def kdW (o : Option Nat) : Int := match o with
  | none => -1
  | some w => if w = 10 then 35 else if 11 ≤ w ∧ ¬ (37 ≤ w ∧ w ≤ 39) then (w : Int) - 7 else -1
theorem kd_w : ∀ w : Fin 42, kdL.foldl (kdF (loL (mx_txt w.val)) (hiL (mx_txt w.val))) (-1) = kdW (some w.val) := by decide +kernel
theorem kd_m : ∀ p, p ∈ kdL → ∃ w : Fin 42, loL (mx_txt w.val) = p.1 ∧ hiL (mx_txt w.val) = 0 := by decide +kernel
theorem kd_n {a b : Int64} : ∀ (l : List (Int64 × Int)) (k : Int), (∀ p, p ∈ l → ¬ (a = p.1 ∧ b = 0)) → l.foldl (kdF a b) k = k := by
  intro l
  induction l with
  | nil => intro k _; rfl
  | cons p r ih =>
    intro k h
    rw [List.foldl_cons, show kdF a b k p = k from if_neg (h p (List.mem_cons_self ..))]
    exact ih k (fun q hq => h q (List.mem_cons_of_mem _ hq))
section TM
variable {c : Nat → Int} {len : Nat}
theorem tsL_c {b : Nat} (hc : ∀ i, i < len → 32 ≤ c i ∧ c i ≤ 126) : ∀ x, x ∈ tsL c len b → 1 ≤ x ∧ x < 128 := by
  intro x hx
  unfold tsL tkL at hx
  obtain ⟨i, hi, rfl⟩ := List.mem_map.mp hx
  have hi := List.mem_range.mp hi
  by_cases q : b ≤ len
  · have := (sy_b (c := c) (len := len) (len - b) b (by omega)).2.1
    have := hc (b + i) (by omega)
    omega
  · rw [sy_f (fun z => q (Nat.le_of_lt z.1))] at hi
    omega
theorem tso_3 {b : Nat} (hb : b ≤ len) : tso c len b = 3 ↔ (b < len ∧ isSy (c b) = true ∧ tE c len b - b ≤ 13) := by
  unfold tso tE
  by_cases q1 : b < len
  · rw [if_pos q1, if_pos q1]
    by_cases q2 : isSy (c b) = true
    · rw [if_pos q2, if_pos q2]
      by_cases q3 : 13 < sy c len b - b
      · rw [if_pos q3]; constructor
        · intro z; exact absurd z (by decide)
        · intro z; omega
      · rw [if_neg q3]; exact ⟨fun _ => ⟨q1, q2, by omega⟩, fun _ => rfl⟩
    · rw [if_neg q2]
      constructor
      · intro z
        exfalso
        split at z
        · exact absurd z (by decide)
        · split at z <;> exact absurd z (by decide)
      · intro z; exact absurd z.2.1 q2
  · rw [if_neg q1]; constructor
    · intro z; exact absurd z (by decide)
    · intro z; exact absurd z.1 q1
theorem tsL_3 {b : Nat} (hb : b ≤ len) (h : tso c len b = 3) : tsL c len b = tkL c b (tE c len b) := by
  have := (tso_3 hb).mp h
  unfold tsL tE
  rw [if_pos this.1, if_pos this.2.1]
theorem tso_w {b w : Nat} (hc : ∀ i, i < len → 32 ≤ c i ∧ c i ≤ 126) (hb : b ≤ len) (hw : w < 42) : (tso c len b = 3 ∧ loL (tsL c len b) = loL (mx_txt w) ∧ hiL (tsL c len b) = hiL (mx_txt w)) ↔ wdx c b (tE c len b) = some w := by
  rw [wdx_iff hw]
  have tl : 1 ≤ (mx_txt w).length ∧ (mx_txt w).length ≤ 13 := txt_len ⟨w, hw⟩
  constructor
  · intro ⟨h1, h2, h3⟩
    have e := tsL_3 hb h1
    have l := (tso_3 hb).mp h1
    rw [← e]
    refine pk_inj (tsL_c hc) (txt_c ⟨w, hw⟩) ?_ tl.2 h2 h3
    rw [e, tkL_len]; exact l.2.2
  · intro h
    have l := congrArg List.length h
    rw [tkL_len] at l
    have h1 : b < len := by
      apply Decidable.byContradiction
      intro z
      have : tE c len b = b := by unfold tE; rw [if_neg z]
      omega
    have h2 : isSy (c b) = true := by
      have := (tkL_eq.mp h).2 0 (by omega)
      rw [Nat.add_zero] at this
      have s := txt_s ⟨w, hw⟩
      dsimp only at s
      rw [← this, Int.toNat_of_nonneg (by have := hc b h1; omega)] at s
      exact s
    have h3 : tso c len b = 3 := (tso_3 hb).mpr ⟨h1, h2, by omega⟩
    rw [tsL_3 hb h3, h]
    exact ⟨h3, rfl, rfl⟩
theorem kd_t {b : Nat} (hc : ∀ i, i < len → 32 ≤ c i ∧ c i ≤ 126) (hb : b ≤ len) (h : tso c len b = 3) : kdL.foldl (kdF (loL (tsL c len b)) (hiL (tsL c len b))) (-1) = kdW (wdx c b (tE c len b)) := by
  cases w : wdx c b (tE c len b) with
  | some w' =>
    have hw := wdx_lt w
    have := (tso_w hc hb hw).mpr w
    rw [this.2.1, this.2.2]
    exact kd_w ⟨w', hw⟩
  | none =>
    refine kd_n kdL (-1) ?_
    intro p hp z
    obtain ⟨w', e1, e2⟩ := kd_m p hp
    have := (tso_w hc hb w'.isLt).mp ⟨h, z.1.trans e1.symm, z.2.trans e2.symm⟩
    rw [w] at this
    cases this
end TM
/-- the reference at token j -/
def TkJ (c : Nat → Int) (len j : Nat) (h : mx_H) : Prop := TxtM c len h.1 ∧ TkM c len (jB c len j) h
def jS (c : Nat → Int) (len j : Nat) : Int := tso c len (jB c len j)
section TJ
variable {c : Nat → Int} {len j : Nat} {h : mx_H}
theorem jS_1 : jS c len j = 1 ↔ jO c len j 40 = true := by
  unfold jS jO tso jB
  rw [decide_eq_true_iff]
  by_cases q1 : tB c len j < len
  · rw [if_pos q1]
    by_cases q2 : isSy (c (tB c len j)) = true
    · rw [if_pos q2]
      have := of_decide_eq_true q2
      constructor
      · intro z; split at z <;> exact absurd z (by decide)
      · intro z; omega
    · rw [if_neg q2]
      by_cases q3 : c (tB c len j) = 40
      · rw [if_pos q3]; exact ⟨fun _ => ⟨q1, q3⟩, fun _ => rfl⟩
      · rw [if_neg q3]
        constructor
        · intro z; split at z <;> exact absurd z (by decide)
        · intro z; exact absurd z.2 q3
  · rw [if_neg q1]; constructor
    · intro z; exact absurd z (by decide)
    · intro z; exact absurd z.1 q1
theorem jS_2 : jS c len j = 2 ↔ jO c len j 41 = true := by
  unfold jS jO tso jB
  rw [decide_eq_true_iff]
  by_cases q1 : tB c len j < len
  · rw [if_pos q1]
    by_cases q2 : isSy (c (tB c len j)) = true
    · rw [if_pos q2]
      have := of_decide_eq_true q2
      constructor
      · intro z; split at z <;> exact absurd z (by decide)
      · intro z; omega
    · rw [if_neg q2]
      by_cases q3 : c (tB c len j) = 40
      · rw [if_pos q3]
        constructor
        · intro z; exact absurd z (by decide)
        · intro z; omega
      · rw [if_neg q3]
        by_cases q4 : c (tB c len j) = 41
        · rw [if_pos q4]; exact ⟨fun _ => ⟨q1, q4⟩, fun _ => rfl⟩
        · rw [if_neg q4]
          constructor
          · intro z; exact absurd z (by decide)
          · intro z; exact absurd z.2 q4
  · rw [if_neg q1]; constructor
    · intro z; exact absurd z (by decide)
    · intro z; exact absurd z.1 q1
theorem jS_0 : jS c len j = 0 ↔ jB c len j = len := by
  unfold jS tso
  have := jB_le (c := c) (len := len) j
  by_cases q1 : jB c len j < len
  · rw [if_pos q1]
    constructor
    · intro z
      exfalso
      split at z
      · split at z <;> exact absurd z (by decide)
      · split at z
        · exact absurd z (by decide)
        · split at z <;> exact absurd z (by decide)
    · intro z; omega
  · rw [if_neg q1]; exact ⟨fun _ => by omega, fun _ => rfl⟩
theorem jS_b : 0 ≤ jS c len j ∧ jS c len j ≤ 4 := by unfold jS tso; (repeat' split) <;> decide
theorem X11_wrong_c {x : Int32} : mx_C mm_X11_wrong [.ref 47, .int x] h = some (some (.int (iI (0))), (mx_u h.1 47 7 x, h.2.1, h.2.2)) := by rw [c_X11_wrong, e_X11_wrong_0]; rfl
theorem X11_next_j (J : TkJ c len j h) : ∃ h', mx_C mm_X11_next [.ref 47] h = some (none, h') ∧ TkJ c len (j + 1) h' ∧ NxF h h' := by
  have b := tE_b (c := c) (tB_le (c := c) (len := len) j)
  obtain ⟨h', a1, a2, a3⟩ := X11_next_c J.1 J.2.2.1 b.2.1
  exact ⟨h', a1, ⟨TxtM_n a3 J.1, a2⟩, a3⟩
theorem X11_pass_t (J : TkJ c len j h) {x : Int32} (hx : x ≠ 0) : ∃ h', mx_C mm_X11_pass [.ref 47, .int x] h = some (some (.int (iI (1))), h') ∧ TkJ c len (j + 1) h' ∧ NxF h h' := by
  obtain ⟨h', a1, a2, a3⟩ := X11_next_j J
  refine ⟨h', ?_, a2, a3⟩
  rw [c_X11_pass, e_X11_pass_0, if_neg hx, a1]
  exact e_X11_pass_17 ..
theorem X11_pass_f (J : TkJ c len j h) : mx_C mm_X11_pass [.ref 47, .int (iI (0))] h = some (some (.int (iI (0))), (mx_u h.1 47 7 (iI (jB c len j : Int)), h.2.1, h.2.2)) := by
  rw [c_X11_pass, e_X11_pass_0, if_pos (show iI 0 = 0 from rfl), J.2.1, X11_wrong_c]
  exact (e_X11_pass_12 ..).trans (if_pos rfl)
theorem X11_word_t {w : Nat} {lo hi : Int64} (J : TkJ c len j h) (hw : w < 42) (hlo : loL (mx_txt w) = lo) (hhi : hiL (mx_txt w) = hi) (q : jW c len j = some w) : ∃ h', mx_C mm_X11_word [.ref 47, .long lo, .long hi] h = some (some (.int (iI (1))), h') ∧ TkJ c len (j + 1) h' ∧ NxF h h' := by
  obtain ⟨q1, q2, q3⟩ := (tso_w J.1.2.2.2 (jB_le j) hw).mpr q
  obtain ⟨t1, t2, t3, t4, t5⟩ := J.2
  obtain ⟨h', a1, a2, a3⟩ := X11_pass_t J (x := 1) (by decide)
  refine ⟨h', ?_, a2, a3⟩
  rw [c_X11_word, e_X11_word_0]
  simp only [lg0]
  rw [t3, t4, t5, q1, q2, q3, if_pos (show iI 3 = 3 from rfl), if_pos hlo, if_pos hhi, e_X11_word_32, a1]
  exact (e_X11_word_35 ..).trans (if_pos rfl)
theorem X11_word_f {w : Nat} {lo hi : Int64} (J : TkJ c len j h) (hw : w < 42) (hlo : loL (mx_txt w) = lo) (hhi : hiL (mx_txt w) = hi) (q : ¬ jW c len j = some w) : mx_C mm_X11_word [.ref 47, .long lo, .long hi] h = some (some (.int (iI (0))), (mx_u h.1 47 7 (iI (jB c len j : Int)), h.2.1, h.2.2)) := by
  have nq := fun z => q ((tso_w J.1.2.2.2 (jB_le j) hw).mp z)
  obtain ⟨t1, t2, t3, t4, t5⟩ := J.2
  have e32 : mx_D (6, mm_X11_word, 31, [.ref 47, .long lo, mx_junk, .long hi, mx_junk], [.ref 47]) h = some (some (.int (iI (0))), (mx_u h.1 47 7 (iI (jB c len j : Int)), h.2.1, h.2.2)) := by
    have := X11_pass_f J
    have : mx_C mm_X11_pass [.ref 47, .int 0] h = _ := this
    rw [e_X11_word_31, e_X11_word_32, this]
    exact (e_X11_word_35 ..).trans (if_pos rfl)
  have sb := jS_b (c := c) (len := len) (j := j)
  rw [c_X11_word, e_X11_word_0]
  simp only [lg0]
  rw [t3, t4, t5, e32]
  by_cases p1 : tso c len (jB c len j) = 3
  · rw [if_pos (show iI (tso c len (jB c len j)) = 3 by rw [p1]; rfl)]
    by_cases p2 : loL (tsL c len (jB c len j)) = lo
    · rw [if_pos p2]
      by_cases p3 : hiL (tsL c len (jB c len j)) = hi
      · exact absurd ⟨p1, p2.trans hlo.symm, p3.trans hhi.symm⟩ nq
      · rw [if_neg p3]
    · rw [if_neg p2]
  · rw [if_neg (show ¬ iI (tso c len (jB c len j)) = 3 from fun z => p1 ((ii_eq (b := 3) (by unfold jS at sb; omega) (by decide)).mp z))]
/-- comparing the token with a word, as conditions of the code do it -/
theorem jW_cmp {w : Nat} {lo hi : Int64} (J : TkJ c len j h) (hw : w < 42) (hlo : loL (mx_txt w) = lo) (hhi : hiL (mx_txt w) = hi) (h3 : jS c len j = 3) : (h.2.1 47 5 = lo ∧ h.2.1 47 6 = hi) ↔ jW c len j = some w := by
  obtain ⟨t1, t2, t3, t4, t5⟩ := J.2
  have := tso_w J.1.2.2.2 (b := jB c len j) (jB_le j) hw
  rw [t4, t5, ← hlo, ← hhi]
  exact ⟨fun z => this.mp ⟨h3, z.1, z.2⟩, fun z => (this.mpr z).2⟩
theorem jW_3 {w : Nat} (J : TkJ c len j h) (q : jW c len j = some w) : jS c len j = 3 := ((tso_w J.1.2.2.2 (b := jB c len j) (jB_le j) (jW_lt q)).mpr q).1
theorem jS_n {k : Int} (hk : 0 ≤ k ∧ k ≤ 4) (q : ¬ jS c len j = k) : ¬ iI (jS c len j) = iI k := fun z => q ((ii_eq (by have := jS_b (c := c) (len := len) (j := j); omega) (by omega)).mp z)
end TJ
