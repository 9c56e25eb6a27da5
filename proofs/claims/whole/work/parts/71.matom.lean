/-! the reference's scopes, frames and atoms -/
def ScopeM (s : Sc) (h : mx_H) : Prop := h.1 47 28 = iI (sNc s : Int) ∧ h.1 47 31 = iI (sNa s : Int) ∧ h.1 47 33 = iI (sNs s : Int) ∧ (∀ i, i < sNc s → h.2.1 63 i = loL (sNm s i) ∧ h.1 64 i = iI (sCt s i : Int)) ∧ (∀ i, i < sNa s → h.1 65 i = iI (sAt s i : Int)) ∧ ∀ i, i < sNs s → h.1 66 i = iI (sCb s i : Int) ∧ h.1 67 i = iI (sAb s i : Int)
/-- names in scope are names, and no two are the same -/
def NmS (s : Sc) : Prop := (∀ i, i < sNc s → vName (sNm s i)) ∧ ∀ i k, i < k → k < sNc s → sNm s i ≠ sNm s k
def lkR (s : Sc) (L : List Nat) : Nat → Int
  | 0 => -1
  | i + 1 => if sNm s i = L then (sCt s i : Int) else lkR s L i
theorem lkR_n {s : Sc} {L : List Nat} : ∀ N, (∀ i, i < N → sNm s i ≠ L) → lkR s L N = -1 := by
  intro N
  induction N with
  | zero => intro _; rfl
  | succ N ih =>
    intro h
    unfold lkR
    rw [if_neg (h N (by omega))]
    exact ih (fun i hi => h i (by omega))
theorem lkR_h {s : Sc} {L : List Nat} {k : Nat} (hk : sNm s k = L) : ∀ N, k < N → (∀ i, i < N → sNm s i = L → i = k) → lkR s L N = (sCt s k : Int) := by
  intro N
  induction N with
  | zero => intro h _; omega
  | succ N ih =>
    intro h hu
    unfold lkR
    by_cases q : sNm s N = L
    · rw [if_pos q, hu N (by omega) q]
    · rw [if_neg q]
      have : k ≠ N := fun z => q (by rw [← z]; exact hk)
      exact ih (by omega) (fun i hi => hu i (by omega))
theorem lkF_n {s : Sc} {L : List Nat} : ∀ (d i : Nat), (∀ k, i ≤ k → k < i + d → sNm s k ≠ L) → lkF s L d i = -1 := by
  intro d
  induction d with
  | zero => intro i _; rfl
  | succ d ih =>
    intro i h
    unfold lkF
    rw [if_neg (h i (by omega) (by omega))]
    exact ih (i + 1) (fun k h1 h2 => h k (by omega) (by omega))
theorem lkR_c {s : Sc} {L : List Nat} (H : NmS s) : lkR s L (sNc s) = lkC s L := by
  rcases lkF_m (s := s) (L := L) (sNc s) 0 with z | ⟨k, a, b, x, y⟩
  · have : ∀ i, i < sNc s → sNm s i ≠ L := by
      intro i hi e
      have : lkC s L ≠ -1 := by
        have key : ∀ (d j : Nat), j ≤ i → i < j + d → lkF s L d j ≠ -1 := by
          intro d
          induction d with
          | zero => intro j h1 h2; omega
          | succ d ih =>
            intro j h1 h2
            unfold lkF
            by_cases q : sNm s j = L
            · rw [if_pos q]; omega
            · rw [if_neg q]
              have : j ≠ i := fun z => q (by rw [z]; exact e)
              exact ih (j + 1) (by omega) (by omega)
        exact key (sNc s) 0 (by omega) (by omega)
      exact this z
    rw [lkR_n _ this]
    exact z.symm
  · unfold lkC
    rw [y]
    refine lkR_h x _ (by omega) (fun i hi e => ?_)
    apply Decidable.byContradiction
    intro ne
    rcases Nat.lt_or_gt_of_ne ne with z | z
    · exact H.2 i k z (by omega) (e.trans x.symm)
    · exact H.2 k i z hi (x.trans e.symm)
/-- a frame: kind, token, parts, numbers, name -/
abbrev Fr : Type := Int × Nat × List Nat × Int × Int × List Nat
def fk (f : Fr) : Int := f.1
def fa (f : Fr) : Nat := f.2.1
def fps (f : Fr) : List Nat := f.2.2.1
def fp (f : Fr) : Int := f.2.2.2.1
def fq (f : Fr) : Int := f.2.2.2.2.1
def fL (f : Fr) : List Nat := f.2.2.2.2.2
def FrC (c : Nat → Int) (len : Nat) (f : Fr) (i : Nat) (h : mx_H) : Prop := h.1 56 i = iI (fk f) ∧ h.1 57 i = iI (jB c len (fa f) : Int) ∧ h.1 58 i = iI ((fps f).length : Int) ∧ (∀ x, x < (fps f).length → h.1 59 (3 * i + x) = iI (((fps f).getD x 0 : Nat) : Int)) ∧ h.1 60 i = iI (fp f) ∧ h.1 61 i = iI (fq f) ∧ (fk f = 35 → h.2.1 62 i = loL (fL f) ∧ vName (fL f)) ∧ (4 ≤ fk f ∧ fk f ≤ 35) ∧ (fps f).length ≤ 3
def FrM (c : Nat → Int) (len : Nat) : List Fr → mx_H → Prop
  | [], _ => True
  | f :: r, h => FrC c len f r.length h ∧ FrM c len r h
def ltF : List Fr → List (List Nat × Nat)
  | [] => []
  | f :: r => if fk f = 35 ∧ (fps f).length = 1 then (fL f, (fps f).getD 0 0) :: ltF r else ltF r
/-- the reference while it reads -/
def RdM (c : Nat → Int) (len : Nat) (s : Sc) (fs : List Fr) (j n : Nat) (ts : Nat → Tm) (h : mx_H) : Prop := TkJ c len j h ∧ ScopeM s h ∧ TermM n ts h.1 ∧ h.1 47 18 = iI (fs.length : Int) ∧ FrM c len fs h
section AT
variable {c : Nat → Int} {len j n : Nat} {s : Sc} {fs : List Fr} {ts : Nat → Tm} {h : mx_H}
/-- a name against a packed one -/
theorem nm_cmp (J : TkJ c len j h) (h3 : jS c len j = 3) {L : List Nat} (hL : vName L) : (loL L = h.2.1 47 5 ∧ h.2.1 47 6 = 0) ↔ L = jL c len j := by
  obtain ⟨T, t1, t2, t3, t4, t5⟩ := J
  have jl := jB_le (c := c) (len := len) j
  have s3 := (tso_3 jl).mp h3
  have tl : tsL c len (jB c len j) = jL c len j := tsL_3 jl h3
  have lL : (jL c len j).length = tE c len (jB c len j) - jB c len j := tkL_len _ _ _
  rw [t4, t5, tl]
  constructor
  · intro ⟨a, b⟩
    refine pk_inj (fun x hx => by have := isLet_b (hL.2.2.1 x hx); omega) ?_ (by have := hL.2.1; omega) (by omega) a ((hi4 (by have := hL.2.1; omega)).trans b.symm)
    rw [← tl]; exact tsL_c T.2.2.2
  · intro e
    rw [← e]
    exact ⟨rfl, hi4 (by have := hL.2.1; omega)⟩
theorem X11_atom_212 (J : TkJ c len j h) (h3 : jS c len j = 3) (S : ScopeM s h) (H : NmS s) (hB : sNc s ≤ 8) (v1 : Int32) : ∀ (d i : Nat), i + d = sNc s → mx_D (2, mm_X11_atom, 212, [.ref 47, .int v1, .int (iI (lkR s (jL c len j) i)), .int (iI ((i : Int))), mx_junk], []) h = mx_D (2, mm_X11_atom, 262, [.ref 47, .int v1, .int (iI (lkR s (jL c len j) (sNc s))), .int (iI (0)), mx_junk], []) h := by
  intro d
  induction d with
  | zero =>
    intro i hi
    have hi' : i = sNc s := by omega
    rw [e_X11_atom_212, S.1, hi', if_pos ((ii_le (by omega)).mpr (by omega))]
    rfl
  | succ d ih =>
    intro i hi
    obtain ⟨n1, n2⟩ := S.2.2.2.1 i (by omega)
    have cm := nm_cmp J h3 (H.1 i (by omega))
    rw [e_X11_atom_212, S.1, if_neg (fun z => by have := (ii_le (by omega)).mp z; omega), if_pos (in_t (a := (i : Int)) (n := 12) (by omega)), ii_cl (by omega), Int.toNat_natCast, n1, n2]
    simp only [lg0]
    have nx := ih (i + 1) (by omega)
    have st : ∀ x : Int32, mx_D (2, mm_X11_atom, 253, [.ref 47, .int v1, .int (iI (lkR s (jL c len j) i)), .int (iI ((i : Int))), mx_junk], [.int x]) h = mx_D (2, mm_X11_atom, 212, [.ref 47, .int v1, .int x, .int (iI (((i + 1 : Nat) : Int))), mx_junk], []) h := by
      intro x
      rw [e_X11_atom_253, ii_s1]
    rw [show lkR s (jL c len j) (i + 1) = if sNm s i = jL c len j then (sCt s i : Int) else lkR s (jL c len j) i from rfl] at nx
    by_cases q : sNm s i = jL c len j
    · rw [if_pos q] at nx
      rw [if_pos (cm.mpr q).1, if_pos (cm.mpr q).2, if_pos (in_t (a := (i : Int)) (n := 12) (by omega)), st]
      exact nx
    · rw [if_neg q] at nx
      have f252 : mx_D (2, mm_X11_atom, 252, [.ref 47, .int v1, .int (iI (lkR s (jL c len j) i)), .int (iI ((i : Int))), mx_junk], []) h = mx_D (2, mm_X11_atom, 262, [.ref 47, .int v1, .int (iI (lkR s (jL c len j) (sNc s))), .int (iI (0)), mx_junk], []) h := by
        rw [e_X11_atom_252, st]
        exact nx
      by_cases p1 : loL (sNm s i) = h.2.1 47 5
      · rw [if_pos p1, if_neg (fun p2 => q (cm.mp ⟨p1, p2⟩)), f252]
      · rw [if_neg p1, f252]
theorem X11_atom_262 (J : TkJ c len j h) (h3 : jS c len j = 3) (hd : h.1 47 18 = iI (fs.length : Int)) (hf : fs.length ≤ 8) (v1 : Int32) : ∀ (r pre : List Fr), fs = pre ++ r → FrM c len r h → mx_D (2, mm_X11_atom, 262, [.ref 47, .int v1, .int (iI (lkC s (jL c len j))), .int (iI (0)), mx_junk], []) h = mx_D (2, mm_X11_atom, 262, [.ref 47, .int v1, .int (iI (mng s (ltF r) (jL c len j))), .int (iI ((r.length : Int))), mx_junk], []) h := by
  intro r
  induction r with
  | nil => intro pre _ _; rfl
  | cons f r ih =>
    intro pre he F
    unfold FrM at F
    obtain ⟨⟨f1, f2, f3, f4, f5, f6, f7, f8, f9⟩, F⟩ := F
    have l : fs.length = pre.length + (r.length + 1) := by rw [he, List.length_append, List.length_cons]
    rw [ih (pre ++ [f]) (by rw [he, List.append_assoc]; rfl) F, e_X11_atom_262, hd, if_neg (fun z => by have := (ii_le (by omega)).mp z; omega), if_pos (in_t (a := (r.length : Int)) (n := 12) (by omega)), ii_cl (by omega), Int.toNat_natCast, f1, f3]
    simp only [lg0]
    have st : ∀ x : Int32, mx_D (2, mm_X11_atom, 326, [.ref 47, .int v1, .int (iI (mng s (ltF r) (jL c len j))), .int (iI ((r.length : Int))), mx_junk], [.int x]) h = mx_D (2, mm_X11_atom, 262, [.ref 47, .int v1, .int x, .int (iI (((r.length + 1 : Nat) : Int))), mx_junk], []) h := by
      intro x
      rw [e_X11_atom_326, ii_s1]
    have f325 : mx_D (2, mm_X11_atom, 325, [.ref 47, .int v1, .int (iI (mng s (ltF r) (jL c len j))), .int (iI ((r.length : Int))), mx_junk], []) h = mx_D (2, mm_X11_atom, 262, [.ref 47, .int v1, .int (iI (mng s (ltF r) (jL c len j))), .int (iI (((r.length + 1 : Nat) : Int))), mx_junk], []) h := by rw [e_X11_atom_325, st]
    rw [List.length_cons]
    by_cases q1 : fk f = 35
    rotate_left
    · rw [show ltF (f :: r) = ltF r from if_neg (fun z => q1 z.1), if_neg (show ¬ iI (fk f) = 35 from fun z => q1 ((ii_eq (b := 35) (by omega) (by decide)).mp z)), f325]
    rw [if_pos (show iI (fk f) = 35 by rw [q1]; rfl)]
    by_cases q2 : (fps f).length = 1
    rotate_left
    · rw [show ltF (f :: r) = ltF r from if_neg (fun z => q2 z.2), if_pos (in_t (a := (r.length : Int)) (n := 12) (by omega)), if_neg (show ¬ iI ((fps f).length : Int) = 1 from fun z => q2 (by have := (ii_eq (b := 1) (by omega) (by decide)).mp z; omega)), f325]
    obtain ⟨g1, g2⟩ := f7 q1
    have cm := nm_cmp J h3 g2
    have g4 := f4 0 (by omega)
    rw [Nat.add_zero] at g4
    rw [show ltF (f :: r) = (fL f, (fps f).getD 0 0) :: ltF r from if_pos ⟨q1, q2⟩, if_pos (in_t (a := (r.length : Int)) (n := 12) (by omega)), if_pos (show iI ((fps f).length : Int) = 1 by rw [q2]; rfl), if_pos (in_t (a := (r.length : Int)) (n := 12) (by omega)), g1, show (3 : Int32) = iI 3 from rfl, ii_mul]
    have e3 : (iI (3 * (r.length : Int))).toNatClampNeg = 3 * r.length := by rw [ii_cl (by omega)]; omega
    rw [show mng s ((fL f, (fps f).getD 0 0) :: ltF r) (jL c len j) = if fL f = jL c len j then (((fps f).getD 0 0 : Nat) : Int) else mng s (ltF r) (jL c len j) from rfl]
    by_cases q3 : fL f = jL c len j
    · rw [if_pos (cm.mpr q3).1, if_pos (cm.mpr q3).2, if_pos (in_t (n := 36) (by omega)), e3, g4, st, if_pos q3]
    · rw [if_neg q3]
      by_cases p1 : loL (fL f) = h.2.1 47 5
      · rw [if_pos p1, if_neg (fun p2 => q3 (cm.mp ⟨p1, p2⟩)), f325]
      · rw [if_neg p1, f325]
end AT
