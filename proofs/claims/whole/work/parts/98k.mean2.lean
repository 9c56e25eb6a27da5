/-! what each circuit means -/
theorem bt_t (v i : Nat) : bt v i = v.testBit i := by unfold bt; rw [Nat.testBit_eq_decide_div_mod_eq]
theorem bt_hi {v i w : Nat} (h : v < 2 ^ w) (hi : w ≤ i) : bt v i = false := by
  rw [bt_t]; exact Nat.testBit_lt_two_pow (Nat.lt_of_lt_of_le h (Nat.pow_le_pow_right (by decide) hi))
theorem bt_mod {v w i : Nat} (h : i < w) : bt (v % 2 ^ w) i = bt v i := by rw [bt_t, bt_t, Nat.testBit_mod_two_pow, decide_eq_true h]; rfl
theorem bt_div {v w i : Nat} : bt (v / 2 ^ w) i = bt v (i + w) := by rw [bt_t, bt_t, Nat.testBit_div_two_pow]
theorem bt_cat {p q w i : Nat} (h : p < 2 ^ w) : bt (q * 2 ^ w + p) i = if i < w then bt p i else bt q (i - w) := by
  rw [bt_t, bt_t, bt_t, Nat.mul_comm q, Nat.testBit_two_pow_mul_add _ h]
theorem bt_b (p : Prop) [Decidable p] : bt (b01 p) 0 = decide p := by
  unfold b01
  by_cases h : p
  · rw [if_pos h, decide_eq_true h]; rfl
  · rw [if_neg h, decide_eq_false h]; rfl
theorem bt_01 {a : Nat} (h : a < 2) : bt a 0 = decide (a = 1) := by
  have : a = 0 ∨ a = 1 := by omega
  rcases this with e | e <;> rw [e] <;> rfl
theorem eqB_i {f g : Nat → Int → Bool} {x : Int} : ∀ w, eqB f g w x = true ↔ ∀ i, i < w → f i x = g i x := by
  intro w
  induction w with
  | zero => exact ⟨fun _ i hi => by omega, fun _ => rfl⟩
  | succ w ih =>
    unfold eqB
    rw [Bool.and_eq_true, ih]
    constructor
    · intro h i hi
      by_cases e : i = w
      · rw [e]
        have := h.2
        cases q : f w x <;> cases q' : g w x <;> rw [q, q'] at this <;> first | rfl | cases this
      · exact h.1 i (by omega)
    · intro h
      refine ⟨fun i hi => h i (by omega), ?_⟩
      rw [h w (by omega)]
      cases g w x <;> rfl
section ME
variable {f g e : Nat → Int → Bool} {x : Int} {a c d w wy q s i : Nat}
theorem eqB_v (hf : ∀ i, f i x = bt a i) (hg : ∀ i, g i x = bt c i) (ha : a < 2 ^ w) (hc : c < 2 ^ w) : eqB f g w x = decide (a = c) := by
  by_cases h : a = c
  · rw [decide_eq_true h]
    exact (eqB_i w).mpr (fun i _ => by rw [hf, hg, h])
  · rw [decide_eq_false h]
    cases z : eqB f g w x with
    | false => rfl
    | true =>
      exfalso
      apply h
      apply Nat.eq_of_testBit_eq
      intro i
      rw [← bt_t, ← bt_t]
      by_cases y : i < w
      · rw [← hf, ← hg]; exact (eqB_i w).mp z i y
      · rw [bt_hi ha (by omega), bt_hi hc (by omega)]
theorem m_not (ha : a < 2) : (!(bt a 0)) = bt (opv 4 s w wy q a c d) 0 := by
  show _ = bt (b01 (a = 0)) 0
  rw [bt_b, bt_01 ha]
  have : a = 0 ∨ a = 1 := by omega
  rcases this with e | e <;> rw [e] <;> rfl
theorem m_log {k : Nat} (hk : 5 ≤ k ∧ k ≤ 8) (ha : a < 2) (hc : c < 2) : (if k = 5 then bt a 0 && bt c 0 else if k = 6 then bt a 0 || bt c 0 else if k = 7 then (bt a 0).xor (bt c 0) else !(bt a 0) || bt c 0) = bt (opv (k : Int) s w wy q a c d) 0 := by
  have kk : k = 5 ∨ k = 6 ∨ k = 7 ∨ k = 8 := by omega
  have a2 : a = 0 ∨ a = 1 := by omega
  have c2 : c = 0 ∨ c = 1 := by omega
  rcases kk with rfl | rfl | rfl | rfl
  · show (bt a 0 && bt c 0) = bt (b01 (a = 1 ∧ c = 1)) 0
    rw [bt_b]
    rcases a2 with rfl | rfl <;> rcases c2 with rfl | rfl <;> decide
  · show (bt a 0 || bt c 0) = bt (b01 (a = 1 ∨ c = 1)) 0
    rw [bt_b]
    rcases a2 with rfl | rfl <;> rcases c2 with rfl | rfl <;> decide
  · show (bt a 0).xor (bt c 0) = bt (b01 (a ≠ c)) 0
    rw [bt_b]
    rcases a2 with rfl | rfl <;> rcases c2 with rfl | rfl <;> decide
  · show (!(bt a 0) || bt c 0) = bt (b01 (a = 0 ∨ c = 1)) 0
    rw [bt_b]
    rcases a2 with rfl | rfl <;> rcases c2 with rfl | rfl <;> decide
theorem m_eq (hf : ∀ i, f i x = bt a i) (hg : ∀ i, g i x = bt c i) {W : Nat} (ha : a < 2 ^ W) (hc : c < 2 ^ W) : eqB f g W x = bt (opv 9 s w wy q a c d) 0 := by
  show _ = bt (b01 (a = c)) 0
  rw [bt_b, eqB_v hf hg ha hc]
theorem m_ne (hf : ∀ i, f i x = bt a i) (hg : ∀ i, g i x = bt c i) {W : Nat} (ha : a < 2 ^ W) (hc : c < 2 ^ W) : (!(eqB f g W x)) = bt (opv 10 s w wy q a c d) 0 := by
  show _ = bt (b01 (a ≠ c)) 0
  rw [bt_b, eqB_v hf hg ha hc]
  by_cases h : a = c
  · rw [decide_eq_true h, decide_eq_false (fun z => z h)]; rfl
  · rw [decide_eq_false h, decide_eq_true h]; rfl
theorem m_ite (ha : a < 2) : (if bt a 0 = true then bt c i else bt d i) = bt (opv 11 s w wy q a c d) i := by
  show _ = bt (if a = 1 then c else d) i
  rw [bt_01 ha]
  by_cases h : a = 1
  · rw [if_pos h, if_pos (decide_eq_true h)]
  · rw [if_neg h, if_neg (fun z => h (of_decide_eq_true z))]
theorem chk_u {k w : Nat} (hk : 12 ≤ k ∧ k ≤ 24) (hw : 1 ≤ w ∧ w ≤ 4) : chk k w = true := by
  have h : ∀ (w : Nat), (List.range 13).all (fun k => chk (12 + k) w) = true → chk k w = true := by
    intro w hw
    have := List.all_eq_true.mp hw (k - 12) (List.mem_range.mpr (by omega))
    rw [show 12 + (k - 12) = k by omega] at this
    exact this
  have : w = 1 ∨ w = 2 ∨ w = 3 ∨ w = 4 := by omega
  rcases this with rfl | rfl | rfl | rfl
  · exact h 1 chk_1
  · exact h 2 chk_2
  · exact h 3 chk_3
  · exact h 4 chk_4
theorem m_cal {k : Nat} (hk : 12 ≤ k ∧ k ≤ 24) (hs : 1 ≤ s ∧ s ≤ 4) (ha : a < 2 ^ s) (hc : c < 2 ^ s) (hi : i < s) (hf : ∀ i, f i x = bt a i) (hg : ∀ i, g i x = bt c i) : caB k s f g i x = bt (opv (k : Int) s w wy q a c d) i := by
  have t := chk_u hk hs
  unfold chk at t
  have t1 := List.all_eq_true.mp t a (List.mem_range.mpr ha)
  have t2 := List.all_eq_true.mp t1 c (List.mem_range.mpr hc)
  have t3 := List.all_eq_true.mp t2 i (List.mem_range.mpr hi)
  have t4 : caB k s (fun i _ => bt a i) (fun i _ => bt c i) i 0 = bt (opv (k : Int) s s 0 0 a c 0) i := by simpa using t3
  rw [caB_e (f' := fun i _ => bt a i) (g' := fun i _ => bt c i) (y := 0) hf hg, t4]
  have kk : k = 12 ∨ k = 13 ∨ k = 14 ∨ k = 15 ∨ k = 16 ∨ k = 17 ∨ k = 18 ∨ k = 19 ∨ k = 20 ∨ k = 21 ∨ k = 22 ∨ k = 23 ∨ k = 24 := by omega
  rcases kk with rfl | rfl | rfl | rfl | rfl | rfl | rfl | rfl | rfl | rfl | rfl | rfl | rfl <;> rfl
/-- the arithmetic of one operand: the second does not matter -/
theorem m_cal1 {k : Nat} (hk : 12 ≤ k ∧ k ≤ 13) (hs : 1 ≤ s ∧ s ≤ 4) (ha : a < 2 ^ s) (hi : i < s) (hf : ∀ i, f i x = bt a i) : caB k s f g i x = bt (opv (k : Int) s w wy q a c d) i := by
  have e1 : caB k s f g i x = caB k s f (fun _ _ => false) i x := by
    have kk : k = 12 ∨ k = 13 := by omega
    rcases kk with rfl | rfl <;> rfl
  rw [e1, m_cal (w := w) (wy := wy) (q := q) (c := 0) (d := d) (by omega) hs ha (Nat.two_pow_pos s) hi hf (fun i => by unfold bt; rw [Nat.zero_div]; rfl)]
  have kk : k = 12 ∨ k = 13 := by omega
  rcases kk with rfl | rfl <;> rfl
theorem lsB_e {f' g' : Nat → Int → Bool} {y : Int} {sg i0 : Bool} {top : Nat} (hf : ∀ i, f i x = f' i y) (hg : ∀ i, g i x = g' i y) : ∀ i, lsB sg top f g i0 i x = lsB sg top f' g' i0 i y := by
  intro i
  induction i with
  | zero => rfl
  | succ i ih => unfold lsB; rw [hf, hg, ih]
def chL (k w : Nat) : Bool := (List.range (2 ^ w)).all fun a => (List.range (2 ^ w)).all fun c => lsB (decide (27 ≤ k)) (w - 1) (fun i _ => bt a i) (fun i _ => bt c i) (decide (k % 2 = 0)) w 0 == bt (opv (k : Int) 0 w w 0 a c 0) 0
theorem chL_a : (List.range 4).all (fun w => (List.range 4).all (fun k => chL (25 + k) (w + 1))) = true := by decide +kernel
theorem m_les {k : Nat} (hk : 25 ≤ k ∧ k ≤ 28) (hw : 1 ≤ w ∧ w ≤ 4) (ha : a < 2 ^ w) (hc : c < 2 ^ w) (hf : ∀ i, f i x = bt a i) (hg : ∀ i, g i x = bt c i) : lsB (decide (1034 ≤ 1007 + k)) (w - 1) f g (decide ((1007 + k) % 2 = 1)) w x = bt (opv (k : Int) s w wy q a c d) 0 := by
  have t := List.all_eq_true.mp (List.all_eq_true.mp chL_a (w - 1) (List.mem_range.mpr (by omega))) (k - 25) (List.mem_range.mpr (by omega))
  rw [show 25 + (k - 25) = k by omega, show w - 1 + 1 = w by omega] at t
  unfold chL at t
  have t2 := List.all_eq_true.mp (List.all_eq_true.mp t a (List.mem_range.mpr ha)) c (List.mem_range.mpr hc)
  have t4 : lsB (decide (27 ≤ k)) (w - 1) (fun i _ => bt a i) (fun i _ => bt c i) (decide (k % 2 = 0)) w 0 = bt (opv (k : Int) 0 w w 0 a c 0) 0 := by simpa using t2
  rw [show decide (1034 ≤ 1007 + k) = decide (27 ≤ k) from decide_eq_decide.mpr (by omega), show decide ((1007 + k) % 2 = 1) = decide (k % 2 = 0) from decide_eq_decide.mpr (by omega), lsB_e (f' := fun i _ => bt a i) (g' := fun i _ => bt c i) (y := 0) hf hg, t4]
  have kk : k = 25 ∨ k = 26 ∨ k = 27 ∨ k = 28 := by omega
  rcases kk with rfl | rfl | rfl | rfl <;> rfl
theorem m_con (hc : c < 2 ^ wy) (hf : ∀ i, f i x = bt a i) (hg : ∀ i, g i x = bt c i) : plB true 0 wy g f (fun _ => false) i x = bt (opv 29 s w wy q a c d) i := by
  show _ = bt (a * 2 ^ wy + c) i
  rw [bt_cat hc]
  unfold plB
  rw [hf, hg]
  rfl
theorem m_ext (hf : ∀ i, f i x = bt a i) (hi : i < s) (hq : q + s ≤ w) {ab : Int → Bool} : plB false q w f f ab i x = bt (opv 30 s w wy q a c d) i := by
  show _ = bt (a / 2 ^ q % 2 ^ s) i
  rw [bt_mod hi, bt_div]
  unfold plB
  rw [if_pos (by omega), hf]
theorem m_zer (hf : ∀ i, f i x = bt a i) (ha : a < 2 ^ w) {ab : Int → Bool} (hab : ab x = false) : plB false 0 w f f ab i x = bt (opv 31 s w wy q a c d) i := by
  show _ = bt a i
  unfold plB
  by_cases h : i + 0 < w
  · rw [if_pos h, hf]; rfl
  · rw [if_neg h, if_neg (by decide), hab, bt_hi ha (by omega)]
def chS (w s : Nat) : Bool := (List.range (2 ^ w)).all fun a => (List.range s).all fun i => (if i < w then bt a i else bt a (w - 1)) == bt (opv 32 s w 0 0 a 0 0) i
theorem chS_a : (List.range 4).all (fun w => (List.range 5).all (fun p => decide (4 < w + 1 + p) || chS (w + 1) (w + 1 + p))) = true := by decide +kernel
theorem m_sig (hf : ∀ i, f i x = bt a i) (ha : a < 2 ^ w) (hw : 1 ≤ w) (hs : w ≤ s ∧ s ≤ 4) (hi : i < s) {ab : Int → Bool} (hab : ab x = f (w - 1) x) : plB false 0 w f f ab i x = bt (opv 32 s w wy q a c d) i := by
  have t := List.all_eq_true.mp (List.all_eq_true.mp chS_a (w - 1) (List.mem_range.mpr (by omega))) (s - w) (List.mem_range.mpr (by omega))
  rw [show w - 1 + 1 = w by omega, show w + (s - w) = s by omega, decide_eq_false (by omega), Bool.false_or] at t
  unfold chS at t
  have t2 := List.all_eq_true.mp (List.all_eq_true.mp t a (List.mem_range.mpr ha)) i (List.mem_range.mpr hi)
  have t4 : (if i < w then bt a i else bt a (w - 1)) = bt (opv 32 s w 0 0 a 0 0) i := by simpa using t2
  have e : bt (opv 32 s w wy q a c d) i = bt (opv 32 s w 0 0 a 0 0) i := rfl
  rw [e, ← t4]
  unfold plB
  by_cases h : i < w
  · rw [if_pos h, if_pos (show i + 0 < w from h), hf]; rfl
  · rw [if_neg h, if_neg (show ¬ i + 0 < w from h), if_neg (by decide), hab, hf]
theorem m_sel {W : Nat} (hW : w - 4 = W) (hf : ∀ i, f i x = bt a i) (hc : c < 2) (hi : i < W) {sB : Int → Bool} (hs : sB x = bt c 0) : slB f W sB i x = bt (opv 33 s w wy q a c d) i := by
  show _ = bt (if c = 0 then a % 2 ^ (w - 4) else a / 2 ^ (w - 4)) i
  rw [hW]
  unfold slB
  rw [hs, bt_01 hc]
  by_cases h : c = 1
  · rw [if_pos (decide_eq_true h), if_neg (by omega), bt_div, hf, Nat.add_comm]
  · rw [if_neg (fun z => h (of_decide_eq_true z)), if_pos (by omega), bt_mod hi, hf]
theorem m_sto {W : Nat} (hW : w - 4 = W) (hf : ∀ i, f i x = bt a i) (he : ∀ i, e i x = bt d i) (hc : c < 2) (hd : d < 2 ^ W) {sB : Int → Bool} (hs : sB x = bt c 0) : soB f e W sB i x = bt (opv 34 s w wy q a c d) i := by
  show _ = bt ((if c = 0 then d else a % 2 ^ (w - 4)) + (if c = 1 then d else a / 2 ^ (w - 4)) * 2 ^ (w - 4)) i
  rw [hW, Nat.add_comm, bt_cat (by split; exact hd; exact Nat.mod_lt _ (Nat.two_pow_pos W))]
  unfold soB
  rw [hs, bt_01 hc]
  by_cases y : i < W
  · rw [if_pos y, if_pos y]
    by_cases h : c = 1
    · rw [if_pos (decide_eq_true h), if_neg (by omega), bt_mod y, hf]
    · rw [if_neg (fun z => h (of_decide_eq_true z)), if_pos (by omega), he]
  · rw [if_neg y, if_neg y]
    by_cases h : c = 1
    · rw [if_pos (decide_eq_true h), if_pos h, he]
    · rw [if_neg (fun z => h (of_decide_eq_true z)), if_neg h, bt_div, hf, show i - W + W = i by omega]
end ME
