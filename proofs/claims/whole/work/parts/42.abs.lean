/-! texts and tokens -/
theorem ii_ofNat (n : Nat) : Int32.ofNat n = iI (n : Int) := Int32.toBitVec_inj.1 (by rw [ii_nat]; rfl)
def isLet (c : Int) : Bool := decide ((97 ≤ c ∧ c ≤ 122) ∨ (65 ≤ c ∧ c ≤ 90))
def isDig (c : Int) : Bool := decide (48 ≤ c ∧ c ≤ 57)
def isSy (c : Int) : Bool := decide (((97 ≤ c ∧ c ≤ 122) ∨ (65 ≤ c ∧ c ≤ 90)) ∨ (48 ≤ c ∧ c ≤ 57) ∨ c = 45 ∨ c = 95 ∨ c = 61 ∨ c = 62 ∨ c = 35)
/-- where the spaces from e on end -/
def sk (c : Nat → Int) (len e : Nat) : Nat := if h : e < len ∧ c e = 32 then sk c len (e + 1) else e
termination_by len - e
decreasing_by omega
/-- where the symbol's characters from e on end -/
def sy (c : Nat → Int) (len e : Nat) : Nat := if h : e < len ∧ isSy (c e) = true then sy c len (e + 1) else e
termination_by len - e
decreasing_by omega
theorem sk_t {c : Nat → Int} {len e : Nat} (h : e < len ∧ c e = 32) : sk c len e = sk c len (e + 1) := by rw [sk, dif_pos h]
theorem sk_f {c : Nat → Int} {len e : Nat} (h : ¬ (e < len ∧ c e = 32)) : sk c len e = e := by rw [sk, dif_neg h]
theorem sy_t {c : Nat → Int} {len e : Nat} (h : e < len ∧ isSy (c e) = true) : sy c len e = sy c len (e + 1) := by rw [sy, dif_pos h]
theorem sy_f {c : Nat → Int} {len e : Nat} (h : ¬ (e < len ∧ isSy (c e) = true)) : sy c len e = e := by rw [sy, dif_neg h]
theorem sk_b {c : Nat → Int} {len : Nat} : ∀ (d e : Nat), e + d = len → e ≤ sk c len e ∧ sk c len e ≤ len ∧ (sk c len e < len → c (sk c len e) ≠ 32) := by
  intro d
  induction d with
  | zero => intro e he; rw [sk_f (by omega)]; omega
  | succ d ih =>
    intro e he
    by_cases h : e < len ∧ c e = 32
    · rw [sk_t h]
      have := ih (e + 1) (by omega)
      exact ⟨by omega, this.2⟩
    · rw [sk_f h]
      exact ⟨Nat.le_refl _, by omega, fun q z => h ⟨q, z⟩⟩
theorem sy_b {c : Nat → Int} {len : Nat} : ∀ (d e : Nat), e + d = len → e ≤ sy c len e ∧ sy c len e ≤ len ∧ (∀ i, e ≤ i → i < sy c len e → isSy (c i) = true) := by
  intro d
  induction d with
  | zero => intro e he; rw [sy_f (by omega)]; exact ⟨by omega, by omega, fun i h1 h2 => by omega⟩
  | succ d ih =>
    intro e he
    by_cases h : e < len ∧ isSy (c e) = true
    · rw [sy_t h]
      have := ih (e + 1) (by omega)
      exact ⟨by omega, this.2.1, fun i h1 h2 => by
        by_cases q : i = e
        · rw [q]; exact h.2
        · exact this.2.2 i (by omega) h2⟩
    · rw [sy_f h]
      exact ⟨by omega, by omega, fun i h1 h2 => by omega⟩
/-- where the token that begins at b ends -/
def tE (c : Nat → Int) (len b : Nat) : Nat := if b < len then (if isSy (c b) = true then sy c len b else b + 1) else b
/-- where token j begins -/
def tB (c : Nat → Int) (len : Nat) : Nat → Nat
  | 0 => sk c len 0
  | j + 1 => sk c len (tE c len (tB c len j))
theorem tE_b {c : Nat → Int} {len b : Nat} (h : b ≤ len) : b ≤ tE c len b ∧ tE c len b ≤ len ∧ (b < len → b < tE c len b) := by
  unfold tE
  by_cases h1 : b < len
  · rw [if_pos h1]
    by_cases h2 : isSy (c b) = true
    · rw [if_pos h2, sy_t ⟨h1, h2⟩]
      have := sy_b (c := c) (len := len) (len - (b + 1)) (b + 1) (by omega)
      omega
    · rw [if_neg h2]; omega
  · rw [if_neg h1]; omega
theorem tB_le {c : Nat → Int} {len : Nat} : ∀ j, tB c len j ≤ len
  | 0 => (sk_b len 0 (by omega)).2.1
  | j + 1 => (sk_b (len - tE c len (tB c len j)) _ (by have := tE_b (c := c) (len := len) (tB_le (c := c) (len := len) j); omega)).2.1
theorem tB_ns {c : Nat → Int} {len : Nat} : ∀ j, tB c len j < len → c (tB c len j) ≠ 32
  | 0 => (sk_b len 0 (by omega)).2.2
  | j + 1 => (sk_b (len - tE c len (tB c len j)) _ (by have := tE_b (c := c) (tB_le (c := c) (len := len) j); omega)).2.2
theorem tB_s {c : Nat → Int} {len : Nat} (j : Nat) : tE c len (tB c len j) ≤ tB c len (j + 1) := (sk_b (len - tE c len (tB c len j)) _ (by have := tE_b (c := c) (tB_le (c := c) (len := len) j); omega)).1
theorem tE_len {c : Nat → Int} {len : Nat} : tE c len len = len := if_neg (by omega)
theorem tB_end {c : Nat → Int} {len j : Nat} (h : tB c len j = len) : tB c len (j + 1) = len := by
  show sk c len (tE c len (tB c len j)) = len
  rw [h, tE_len, sk_f (by omega)]
/-- the token's characters -/
def tkL (c : Nat → Int) (b e : Nat) : List Nat := (List.range (e - b)).map (fun k => (c (b + k)).toNat)
theorem tkL_len (c : Nat → Int) (b e : Nat) : (tkL c b e).length = e - b := by simp [tkL]
theorem tkL_eq {c : Nat → Int} {b e : Nat} {w : List Nat} : tkL c b e = w ↔ (w.length = e - b ∧ ∀ k, k < e - b → (c (b + k)).toNat = w.getD k 0) := by
  constructor
  · intro h
    subst h
    refine ⟨tkL_len c b e, fun k hk => ?_⟩
    simp [tkL, List.getD, hk]
  · intro h
    apply List.ext_getElem (by rw [tkL_len, h.1])
    intro i h1 h2
    rw [tkL_len] at h1
    have := h.2 i h1
    simp [List.getD, h2] at this
    simp [tkL, this]
def wdF (L : List Nat) : Nat → Nat → Option Nat
  | 0, _ => none
  | d + 1, i => if L = mx_txt i then some i else wdF L d (i + 1)
/-- the word that the characters b .. e are -/
def wdx (c : Nat → Int) (b e : Nat) : Option Nat := wdF (tkL c b e) 42 0
def wRf (o : Option Nat) : Option Nat := o.map (fun i => 1000 + i)
theorem wdF_b {L : List Nat} : ∀ (d i j : Nat), wdF L d i = some j → i ≤ j ∧ j < i + d ∧ L = mx_txt j := by
  intro d
  induction d with
  | zero => intro i j h; cases h
  | succ d ih =>
    intro i j h
    unfold wdF at h
    by_cases q : L = mx_txt i
    · rw [if_pos q] at h; cases h; exact ⟨by omega, by omega, q⟩
    · rw [if_neg q] at h
      have := ih _ _ h
      exact ⟨by omega, by omega, this.2.2⟩
theorem wdF_n {L : List Nat} : ∀ (d i : Nat), wdF L d i = none → ∀ j, i ≤ j → j < i + d → L ≠ mx_txt j := by
  intro d
  induction d with
  | zero => intro i _ j h1 h2; omega
  | succ d ih =>
    intro i h j h1 h2
    unfold wdF at h
    by_cases q : L = mx_txt i
    · rw [if_pos q] at h; cases h
    · rw [if_neg q] at h
      by_cases e : j = i
      · rw [e]; exact q
      · exact ih _ h j (by omega) (by omega)
theorem txt_inj : ∀ i : Fin 42, ∀ j : Fin 42, mx_txt i.val = mx_txt j.val → i = j := by decide +kernel
theorem txt_len : ∀ i : Fin 42, 1 ≤ (mx_txt i.val).length ∧ (mx_txt i.val).length ≤ 13 := by decide +kernel
theorem wdx_iff {c : Nat → Int} {b e i : Nat} (hi : i < 42) : wdx c b e = some i ↔ tkL c b e = mx_txt i := by
  constructor
  · intro h; exact (wdF_b _ _ _ h).2.2
  · intro h
    cases q : wdx c b e with
    | none => exact absurd h (wdF_n _ _ q i (by omega) (by omega))
    | some j =>
      have := wdF_b _ _ _ q
      have e2 := txt_inj ⟨j, by omega⟩ ⟨i, hi⟩ (this.2.2.symm.trans h)
      have := congrArg Fin.val e2
      dsimp only at this
      rw [this]
theorem wdx_lt {c : Nat → Int} {b e i : Nat} (h : wdx c b e = some i) : i < 42 := by have := (wdF_b _ _ _ h).2.1; omega
/-- what is typed, in the class's cells -/
def TxtC (c : Nat → Int) (len : Nat) (f : Nat → Nat → Int32) : Prop := f 1 1 = iI len ∧ (∀ i, i < len → f 2 i = iI (c i)) ∧ len ≤ 120 ∧ ∀ i, i < len → 32 ≤ c i ∧ c i ≤ 126
def TxtM (c : Nat → Int) (len : Nat) (f : Nat → Nat → Int32) : Prop := f 47 1 = iI len ∧ (∀ i, i < len → f 48 i = iI (c i)) ∧ len ≤ 120 ∧ ∀ i, i < len → 32 ≤ c i ∧ c i ≤ 126
/-- tokens below j are written -/
def TokJ (c : Nat → Int) (len j : Nat) (f : Nat → Nat → Int32) (g : Nat → Nat → Option Nat) : Prop := f 1 5 = iI j ∧ ∀ i, i < j → f 3 i = iI (tB c len i) ∧ f 4 i = iI (tE c len (tB c len i)) ∧ g 5 i = wRf (wdx c (tB c len i) (tE c len (tB c len i)))
