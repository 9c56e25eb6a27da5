def mk_fin1 : List mk_C := [.inl (8, [.inl (some 1), .inl (some 6), .inl (some 11), .inl (some 18), .inl (some 22), .inl (some 28), .inl (some 33), .inl (some 46), .inr (.inl 0), .inr (.inl 0), .inr (.inl 0)]),
  .inl (7, [.inl (some 2), .inr (.inl 0), .inl (some 3), .inl (some 4), .inl (some 5), .inr (.inl 0)]),
  .inr (1, 120),
  .inr (0, 121),
  .inr (0, 121),
  .inr (4, 121),
  .inl (6, [.inl (some 7), .inl (some 8), .inl (some 9), .inl (some 10), .inr (.inl 0)]),
  .inr (4, 180),
  .inr (0, 540),
  .inr (0, 360),
  .inr (0, 180),
  .inl (4, [.inl (some 12), .inl (some 13), .inr (.inl 0), .inr (.inl 0), .inl (some 14), .inr (.inl 0), .inl (some 15), .inl (some 16), .inl (some 17), .inr (.inl 0)]),
  .inr (0, 8),
  .inr (0, 8),
  .inr (0, 12),
  .inr (0, 4),
  .inr (0, 4),
  .inr (0, 4),
  .inl (3, [.inl (some 1), .inl (some 6), .inl (some 11), .inr (.inl 0), .inr (.inl 0), .inr (.inl 0), .inr (.inl 0), .inr (.inl 0), .inl (some 19), .inl (some 20), .inl (some 21), .inr (.inl 0)]),
  .inr (0, 27),
  .inr (0, 8),
  .inr (0, 8),
  .inl (2, [.inl (some 23), .inl (some 24), .inl (some 25), .inl (some 26), .inl (some 27), .inr (.inl 9)]),
  .inr (0, 1065),
  .inr (0, 1065),
  .inr (0, 1065),
  .inr (0, 1065),
  .inr (0, 1065),
  .inl (0, [.inl (some 6), .inl (some 22), .inl (some 29), .inr (.inl 0), .inl (some 30), .inl (some 31), .inl (some 32)]),
  .inr (0, 480),
  .inr (0, 4),
  .inr (0, 4),
  .inr (0, 4),
  .inl (5, [.inl (some 22), .inl (some 34), .inl (some 39), .inr (.inl 0), .inl (some 40), .inl (some 41), .inl (some 42), .inl (some 43), .inl (some 44), .inr (.inl 0), .inr (.inl 0), .inr (.inl 0), .inl (some 45), .inr (.inl 0)]),
  .inl (1, [.inl (some 35), .inl (some 36), .inr (.inl 0), .inl (some 37), .inl (some 38)]),
  .inr (0, 14828),
  .inr (0, 4517),
  .inr (0, 2130),
  .inr (0, 9032),
  .inr (0, 8),
  .inr (2, 1065),
  .inr (0, 1065),
  .inr (0, 1065),
  .inr (0, 1065),
  .inr (0, 1065),
  .inr (0, 8),
  .inr (0, 12)]
def mk_fin2 : List mk_C := [.inl (8, [.inl (some 1), .inl (some 6), .inl (some 11), .inl (some 18), .inl (some 22), .inl (some 28), .inl (some 33), .inl (some 46), .inr (.inl 0), .inr (.inl 0), .inr (.inl 0)]),
  .inl (7, [.inl (some 2), .inr (.inl 0), .inl (some 3), .inl (some 4), .inl (some 5), .inr (.inl 0)]),
  .inr (1, 120),
  .inr (0, 121),
  .inr (0, 121),
  .inr (4, 121),
  .inl (6, [.inl (some 7), .inl (some 8), .inl (some 9), .inl (some 10), .inr (.inl 0)]),
  .inr (4, 180),
  .inr (0, 540),
  .inr (0, 360),
  .inr (0, 180),
  .inl (4, [.inl (some 12), .inl (some 13), .inr (.inl 0), .inr (.inl 0), .inl (some 14), .inr (.inl 0), .inl (some 15), .inl (some 16), .inl (some 17), .inr (.inl 0)]),
  .inr (0, 8),
  .inr (0, 8),
  .inr (0, 12),
  .inr (0, 4),
  .inr (0, 4),
  .inr (0, 4),
  .inl (3, [.inl (some 1), .inl (some 6), .inl (some 11), .inr (.inl 0), .inr (.inl 0), .inr (.inl 0), .inr (.inl 0), .inr (.inl 0), .inl (some 19), .inl (some 20), .inl (some 21), .inr (.inl 0)]),
  .inr (0, 27),
  .inr (0, 8),
  .inr (0, 8),
  .inl (2, [.inl (some 23), .inl (some 24), .inl (some 25), .inl (some 26), .inl (some 27), .inr (.inl 9)]),
  .inr (0, 1065),
  .inr (0, 1065),
  .inr (0, 1065),
  .inr (0, 1065),
  .inr (0, 1065),
  .inl (0, [.inl (some 6), .inl (some 22), .inl (some 29), .inr (.inl 0), .inl (some 30), .inl (some 31), .inl (some 32)]),
  .inr (0, 480),
  .inr (0, 4),
  .inr (0, 4),
  .inr (0, 4),
  .inl (5, [.inl (some 22), .inl (some 34), .inl (some 39), .inr (.inl 0), .inl (some 40), .inl (some 41), .inl (some 42), .inl (some 43), .inl (some 44), .inr (.inl 0), .inr (.inl 0), .inr (.inl 0), .inl (some 45), .inr (.inl 0)]),
  .inl (1, [.inl (some 35), .inl (some 36), .inr (.inl 0), .inl (some 37), .inl (some 38)]),
  .inr (0, 14828),
  .inr (0, 4517),
  .inr (0, 2130),
  .inr (0, 9032),
  .inr (0, 8),
  .inr (2, 1065),
  .inr (0, 1065),
  .inr (0, 1065),
  .inr (0, 1065),
  .inr (0, 1065),
  .inr (0, 8),
  .inr (0, 12),
  .inl (9, [.inl (some 48), .inr (.inl 0), .inr (.inl 0), .inr (.inl 0), .inr (.inl 0), .inr (.inr 0), .inr (.inr 0), .inr (.inl 0), .inr (.inl 0), .inr (.inl 0), .inl (some 49), .inl (some 50), .inl (some 51), .inl (some 52), .inl (some 53), .inl (some 54), .inl (some 55), .inr (.inl 0), .inr (.inl 0), .inl (some 56), .inl (some 57), .inl (some 58), .inl (some 59), .inl (some 60), .inl (some 61), .inl (some 62), .inr (.inl 0), .inr (.inl 0), .inr (.inl 0), .inl (some 63), .inl (some 64), .inr (.inl 0), .inl (some 65), .inr (.inl 0), .inl (some 66), .inl (some 67), .inl (some 68), .inl (some 69), .inr (.inl 0), .inl (some 70), .inl (some 71)]),
  .inr (0, 120),
  .inr (0, 130),
  .inr (0, 130),
  .inr (0, 130),
  .inr (0, 130),
  .inr (0, 130),
  .inr (0, 130),
  .inr (0, 130),
  .inr (0, 12),
  .inr (0, 12),
  .inr (0, 12),
  .inr (0, 36),
  .inr (0, 12),
  .inr (0, 12),
  .inr (3, 12),
  .inr (3, 12),
  .inr (0, 12),
  .inr (0, 12),
  .inr (0, 4),
  .inr (0, 4),
  .inr (0, 130),
  .inr (2, 3072),
  .inr (0, 12),
  .inr (2, 12)]
def mk_vbq : mk_V → mk_V → Bool
  | .inl none, .inl none => true
  | .inl (some i), .inl (some j) => i == j
  | .inr (.inl x), .inr (.inl y) => x == y
  | .inr (.inr x), .inr (.inr y) => x == y
  | _, _ => false
theorem mk_vbq_eq {a b : mk_V} (h : mk_vbq a b = true) : a = b := by
  unfold mk_vbq at h
  split at h
  · rfl
  · rw [beq_iff_eq.mp h]
  · rw [beq_iff_eq.mp h]
  · rw [beq_iff_eq.mp h]
  · cases h
def mk_lbq : List mk_V → List mk_V → Bool
  | [], [] => true
  | a :: r, b :: w => mk_vbq a b && mk_lbq r w
  | _, _ => false
theorem mk_lbq_eq : ∀ {a b : List mk_V}, mk_lbq a b = true → a = b
  | [], [], _ => rfl
  | a :: r, b :: w, h => by
    simp only [mk_lbq, Bool.and_eq_true] at h
    rw [mk_vbq_eq h.1, mk_lbq_eq h.2]
  | [], _ :: _, h => by cases h
  | _ :: _, [], h => by cases h
def mk_cbq : mk_C → mk_C → Bool
  | .inl (k, f), .inl (k', f') => k == k' && mk_lbq f f'
  | .inr (k, n), .inr (k', n') => k == k' && n == n'
  | _, _ => false
theorem mk_cbq_eq {a b : mk_C} (h : mk_cbq a b = true) : a = b := by
  unfold mk_cbq at h
  split at h
  · simp only [Bool.and_eq_true, beq_iff_eq] at h
    rw [h.1, mk_lbq_eq h.2]
  · simp only [Bool.and_eq_true, beq_iff_eq] at h
    rw [h.1, h.2]
  · cases h
def mk_csq : List mk_C → List mk_C → Bool
  | [], [] => true
  | a :: r, b :: w => mk_cbq a b && mk_csq r w
  | _, _ => false
theorem mk_csq_eq : ∀ {a b : List mk_C}, mk_csq a b = true → a = b
  | [], [], _ => rfl
  | a :: r, b :: w, h => by
    simp only [mk_csq, Bool.and_eq_true] at h
    rw [mk_cbq_eq h.1, mk_csq_eq h.2]
  | [], _ :: _, h => by cases h
  | _ :: _, [], h => by cases h
def mk_oq (a : Option (List mk_C)) (b : List mk_C) : Bool := match a with
  | some o => mk_csq o b
  | none => false
theorem mk_oq_eq {a : Option (List mk_C)} {b : List mk_C} (h : mk_oq a b = true) : a = some b := by
  unfold mk_oq at h
  split at h
  · rw [mk_csq_eq h]
  · cases h
theorem mk_run1 : mk_run 300 mi_X10 0 [.inl (some 0)] [] [.inl (8, mk_def 8)] = some mk_fin1 := mk_oq_eq (by decide +kernel)
theorem mk_run2 : mk_run 300 mi_X11 0 [.inl (some 47)] [] (mk_fin1 ++ [.inl (9, mk_def 9)]) = some mk_fin2 := mk_oq_eq (by decide +kernel)
/-- the heap behind the constructors -/
def mx_h0 : mx_H := (fun a k => if a = 22 ∧ k = 5 then 9 else 0, fun _ _ => 0, fun _ _ => none)
def mk_rel1 (i k : Nat) (q : Nat ⊕ Bool) (v : mk_V) : Bool := match q, v with
  | .inl j, .inl (some j') => j == j'
  | .inr false, .inr (.inl x) => x == mx_h0.1 i k
  | .inr true, .inr (.inr x) => x == 0
  | _, _ => false
def mk_relL (i : Nat) : Nat → List (Nat ⊕ Bool) → List mk_V → Bool
  | _, [], [] => true
  | k, q :: r, v :: w => mk_rel1 i k q v && mk_relL i (k + 1) r w
  | _, _, _ => false
def mk_rel (i : Nat) (s : mx_Sh) (c : mk_C) : Bool := match s, c with
  | .inl (a, fk), .inl (b, fs) => a == b && mk_relL i 0 fk fs && fs.all (mk_vok 72)
  | .inr (k, n), .inr (k', n') => k == k' && n == n' && i != 22
  | _, _ => false
theorem mk_rel_all : mx_shpL.length = mk_fin2.length ∧ ∀ i, i < 72 → mk_rel i (mx_shpL.getD i (.inr (0, 0))) (mk_fin2.getD i (.inr (0, 0))) = true := by decide +kernel
theorem mk_rel_fs {ads : List Nat} {ad : Nat → Nat} (had : ∀ i, i < 72 → ad i = ads.getD i 0) {i : Nat} : ∀ (fk : List (Nat ⊕ Bool)) (fs : List mk_V) (k : Nat), mk_relL i k fk fs = true → fs.all (mk_vok 72) = true → fs.map (mk_val ads) = mx_fs ad mx_h0 i k fk := by
  intro fk
  induction fk with
  | nil =>
    intro fs k h _
    cases fs with
    | nil => rfl
    | cons v w => cases h
  | cons q r ih =>
    intro fs k h hv
    cases fs with
    | nil => cases h
    | cons v w =>
      simp only [mk_relL, Bool.and_eq_true] at h
      simp only [List.all_cons, Bool.and_eq_true] at hv
      simp only [List.map_cons, mx_fs]
      rw [ih w (k + 1) h.2 hv.2]
      congr 1
      have h1 := h.1
      unfold mk_rel1 at h1
      split at h1
      · rw [beq_iff_eq.mp h1]
        simp only [mk_val, mx_fv]
        rw [had _ (of_decide_eq_true hv.1)]
      · rw [beq_iff_eq.mp h1]; rfl
      · rw [beq_iff_eq.mp h1]; rfl
      · cases h1
theorem mk_to_mx {cA : Nat → ClassId} {ads : List Nat} {ad : Nat → Nat} (had : ∀ i, i < 72 → ad i = ads.getD i 0) : mk_W cA ads mk_fin2 = mx_W cA ad mx_h0 := by
  apply List.ext_getElem?
  intro i
  by_cases hi : i < 72
  · have hr := mk_rel_all.2 i hi
    have h1 : mk_fin2[i]? = some (mk_fin2.getD i (.inr (0, 0))) := by
      rw [List.getD_eq_getElem?_getD, List.getElem?_eq_getElem (by rw [← mk_rel_all.1]; exact hi)]
      rfl
    have h2 : mx_shp i = some (mx_shpL.getD i (.inr (0, 0))) := by
      unfold mx_shp
      rw [List.getD_eq_getElem?_getD, List.getElem?_eq_getElem (show i < mx_shpL.length from hi)]
      rfl
    rw [mk_W_get h1, mx_W_get h2, had i hi]
    congr 2
    generalize mk_fin2.getD i (.inr (0, 0)) = c at hr
    generalize mx_shpL.getD i (.inr (0, 0)) = sh at hr
    rcases sh with ⟨a, fk⟩ | ⟨k, n⟩ <;> rcases c with ⟨b, fs⟩ | ⟨k', n'⟩
    · simp only [mk_rel, Bool.and_eq_true, beq_iff_eq] at hr
      simp only [mk_cell, mx_cell]
      rw [hr.1.1, mk_rel_fs had fk fs 0 hr.1.2 hr.2]
    · cases hr
    · cases hr
    · simp only [mk_rel, Bool.and_eq_true, beq_iff_eq, bne_iff_ne, ne_eq] at hr
      obtain ⟨⟨rfl, rfl⟩, h3⟩ := hr
      simp only [mk_cell, mx_cell]
      have e1 : mx_h0.1 i = fun _ => 0 := by funext k; simp [mx_h0, h3]
      rw [e1]
      rfl
  · rw [List.getElem?_eq_none (by rw [mk_W_len, ← mk_rel_all.1]; exact Nat.not_lt.mp hi), List.getElem?_eq_none (by simp [mx_W]; exact Nat.not_lt.mp hi)]
