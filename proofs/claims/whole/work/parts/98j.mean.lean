/-! what the circuits of words mean -/
def bt (v i : Nat) : Bool := decide (v / 2 ^ i % 2 = 1)
section MN
variable {l l' r r' f f' g g' : Nat → Int → Bool} {x y : Int}
theorem cyB_e {c : Bool} (hl : ∀ i, l i x = l' i y) (hr : ∀ i, r i x = r' i y) : ∀ i, cyB l r c i x = cyB l' r' c i y := by
  intro i
  induction i with
  | zero => rfl
  | succ i ih => unfold cyB; rw [hl, hr, ih]
theorem smB_e {c : Bool} (hl : ∀ i, l i x = l' i y) (hr : ∀ i, r i x = r' i y) (i : Nat) : smB l r c i x = smB l' r' c i y := by unfold smB; rw [hl, hr, cyB_e hl hr]
theorem nB_e (hl : ∀ i, l i x = l' i y) (i : Nat) : nB l i x = nB l' i y := by unfold nB; rw [hl]
theorem mlB_e (hf : ∀ i, f i x = f' i y) (hg : ∀ i, g i x = g' i y) : ∀ k i, mlB f g k i x = mlB f' g' k i y := by
  intro k
  induction k with
  | zero => intro i; rfl
  | succ k ih =>
    intro i
    unfold mlB
    exact smB_e ih (fun i => by unfold mrB; rw [hf, hg]) i
theorem dvL_e {w : Nat} (hf : ∀ i, f i x = f' i y) (hg : ∀ i, g i x = g' i y) : ∀ j i, dvL f g w j i x = dvL f' g' w j i y := by
  intro j
  induction j with
  | zero => intro i; rfl
  | succ j ih =>
    intro i
    have hs : ∀ i, dsB (dvL f g w j) (f (w - 1 - j)) i x = dsB (dvL f' g' w j) (f' (w - 1 - j)) i y := fun i => by unfold dsB; rw [ih, hf]
    unfold dvL
    rw [cyB_e hs (nB_e hg), smB_e hs (nB_e hg), hs]
theorem shB_e {sl : Bool} {w : Nat} {fi fi' : Int → Bool} (hf : ∀ i, f i x = f' i y) (hg : ∀ i, g i x = g' i y) (hi : fi x = fi' y) : ∀ k i, shB sl w f g fi k i x = shB sl w f' g' fi' k i y := by
  intro k
  induction k with
  | zero => intro i; exact hf i
  | succ k ih =>
    intro i
    unfold shB
    rw [hg, ih]
    have : mvB sl w k (shB sl w f g fi k) fi i x = mvB sl w k (shB sl w f' g' fi' k) fi' i y := by unfold mvB; rw [ih, ih, hi]
    rw [this]
theorem caB_e {k w : Nat} (hf : ∀ i, f i x = f' i y) (hg : ∀ i, g i x = g' i y) (i : Nat) : caB k w f g i x = caB k w f' g' i y := by
  unfold caB dvG mxB
  have hs : ∀ j i, dsB (dvL f g w j) (f (w - 1 - j)) i x = dsB (dvL f' g' w j) (f' (w - 1 - j)) i y := fun j i => by unfold dsB; rw [dvL_e hf hg, hf]
  rw [smB_e (l := fun _ _ => false) (l' := fun _ _ => false) (fun _ => rfl) (nB_e hf), smB_e hf hg, smB_e hf (nB_e hg), mlB_e hf hg, cyB_e (hs _) (nB_e hg), dvL_e hf hg, shB_e (fi := fun x => if k = 24 then f (w - 1) x else false) (fi' := fun x => if k = 24 then f' (w - 1) x else false) hf hg (by rw [hf]), hf, hg]
end MN
def chk (k w : Nat) : Bool := (List.range (2 ^ w)).all fun a => (List.range (2 ^ w)).all fun c => (List.range w).all fun i => caB k w (fun i _ => bt a i) (fun i _ => bt c i) i 0 == bt (opv (k : Int) w w 0 0 a c 0) i
theorem chk_1 : (List.range 13).all (fun k => chk (12 + k) 1) = true := by decide +kernel
theorem chk_2 : (List.range 13).all (fun k => chk (12 + k) 2) = true := by decide +kernel
theorem chk_3 : (List.range 13).all (fun k => chk (12 + k) 3) = true := by decide +kernel
theorem chk_4 : (List.range 13).all (fun k => chk (12 + k) 4) = true := by decide +kernel
