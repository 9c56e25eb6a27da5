/-! MINI and the machine: arrays -/
section SND3
variable {p : Program} {l : Launch} {e : Env} {s : State} {m : MethodId} {args : Array Value} {below : List Frame} {meth : Method} {c : Code} {g : mx_G} {o : mx_O} {rk : Nat} {y : mx_M} {pc : Nat} {L S : List Value} {h : mx_H}
theorem mx_v_rf (ad : Nat → Nat) (q : Option Nat) : mx_v ad (mx_rf q) = va_rf (q.map ad) := by cases q <;> rfl
theorem mx_idx (b : Nat) (h1 : 1000 ≤ b) (h2 : b < 1042) : 1000 + (b - 1000) = b ∧ b - 1000 < 42 := by omega
def mx_ldI (w : Nat) : Instr := match w with
  | 0 => .iaload
  | 1 => .caload
  | 2 => .baload
  | 3 => .laload
  | _ => .aaload
def mx_stI (w : Nat) : Instr := match w with
  | 0 => .iastore
  | 1 => .castore
  | 2 => .bastore
  | 3 => .lastore
  | _ => .aastore
theorem mx_ok_ld (X : mx_Fx p s m args meth c g y) {w a : Nat} {x : Int32} {v : Value} (hs : mx_ld w h a x = some v) (hd : decode y.2.2.2.2.1 pc = .ok (mx_ldI w, 1)) (kk : mx_Ok p l e s m args below meth c g o rk y (pc + 1) L (v :: S) h) : mx_Ok p l e s m args below meth c g o rk y pc L (.int x :: .ref a :: S) h := by
  intro H locs ls hP hD hS hl hn
  have k1 := kk H locs ls hP hD hS hl hn
  obtain ⟨hx, hb, -, -, hown, hts, -, hK, hSt, hN, -, -⟩ := X
  rcases mx_ld_i hs with ⟨rfl, rfl, hin, rfl⟩ | ⟨rfl, rfl, hin, rfl⟩ | ⟨n, hsh, hin, rfl⟩
  · obtain ⟨cell, q1, q2, q3, q4, q5, q6, q7⟩ := (hSt.2.2.2.1).kept hS.2.1
    have hlt : x.toNatClampNeg < 42 := Nat.not_le.mp fun q => hin (Or.inr q)
    exact W.aald hx hb q1 q2 rfl q3 (fun z => hin (z.imp id (fun z => Nat.le_trans q4 z))) (q6 _ hlt) rfl rfl hd k1
  · exact va_ti hx hb hSt.2.2.2.2.1 hS hin rfl hd k1
  · have he := mx_W_get (cA := g.2.2.1) (ad := g.2.2.2.1) (h := h) hsh
    have hw := mx_shp_chk hsh
    simp only [mx_chk, Bool.and_eq_true, decide_eq_true_eq] at hw
    obtain ⟨hw, -⟩ := hw
    match w, hw, he, hd, k1 with
    | 0, _, he, hd, k1 => exact va_iald hx hb hK hP a 0 he rfl hin hd k1
    | 1, _, he, hd, k1 => exact va_cald hx hb hK hP a 1 he rfl hin hd k1
    | 2, _, he, hd, k1 => exact va_zald hx hb hK hP a 2 he rfl hin hd k1
    | 3, _, he, hd, k1 => exact va_lald hx hb hK hP a 3 he rfl hin hd k1
    | 4, _, he, hd, k1 =>
      refine va_aldq hx hb hK hP a 4 he rfl hin hd ?_
      have e0 : mx_v g.2.2.2.1 (mx_val h 4 a x.toNatClampNeg) = va_rf ((h.2.2 a x.toNatClampNeg).map g.2.2.2.1) := mx_v_rf _ _
      rw [List.map_cons, e0] at k1
      exact k1
theorem mx_ok_sto (X : mx_Fx p s m args meth c g y) {w a : Nat} {x : Int32} {v : Value} {h1 : mx_H} (hs : mx_sto w h a x v = some h1) (hd : decode y.2.2.2.2.1 pc = .ok (mx_stI w, 1)) (kk : mx_Ok p l e s m args below meth c g o rk y (pc + 1) L S h1) : mx_Ok p l e s m args below meth c g o rk y pc L (v :: .int x :: .ref a :: S) h := by
  intro H locs ls hP hD hS hl hn
  obtain ⟨hx, hb, -, -, hown, hts, -, hK, hSt, hN, -, -⟩ := X
  obtain ⟨n, hsh, hin, hput⟩ := mx_sto_i hs
  have he := mx_W_get (cA := g.2.2.1) (ad := g.2.2.2.1) (h := h) hsh
  have hW : (∀ b, b ≠ a → h1.1 b = h.1 b ∧ h1.2.1 b = h.2.1 b ∧ h1.2.2 b = h.2.2 b) → mx_W g.2.2.1 g.2.2.2.1 h1 = (mx_W g.2.2.1 g.2.2.2.1 h).set a (g.2.2.2.1 a, mx_cell g.2.2.1 g.2.2.2.1 h1 a (.inr (w, n))) := fun z => mx_W_set hsh z
  unfold mx_put at hput
  split at hput
  · cases hput
    have hW := hW (fun b z => ⟨mx_u_ne _ _ _ z, rfl, rfl⟩)
    rw [show mx_cell g.2.2.1 g.2.2.2.1 (mx_u h.1 a x.toNatClampNeg _, h.2) a (.inr (0, n)) = .inl (g.2.2.1 0, n, .inl (upd (h.1 a) x.toNatClampNeg _)) by simp only [mx_cell, mx_u_eq]; rfl] at hW
    exact va_iast hx hb hK hP hD hS a 0 he rfl hin hd (fun H1 locs1 hP1 hD1 hS1 => kk H1 locs1 ls (by rw [hW]; exact hP1) (by rw [hW]; exact hD1) hS1 hl hn)
  · cases hput
    have hW := hW (fun b z => ⟨mx_u_ne _ _ _ z, rfl, rfl⟩)
    rw [show mx_cell g.2.2.1 g.2.2.2.1 (mx_u h.1 a x.toNatClampNeg _, h.2) a (.inr (1, n)) = .inl (g.2.2.1 1, n, .inl (upd (h.1 a) x.toNatClampNeg _)) by simp only [mx_cell, mx_u_eq]; rfl] at hW
    exact va_cast hx hb hK hP hD hS a 1 he rfl hin hd (fun H1 locs1 hP1 hD1 hS1 => kk H1 locs1 ls (by rw [hW]; exact hP1) (by rw [hW]; exact hD1) hS1 hl hn)
  · cases hput
    have hW := hW (fun b z => ⟨mx_u_ne _ _ _ z, rfl, rfl⟩)
    rw [show mx_cell g.2.2.1 g.2.2.2.1 (mx_u h.1 a x.toNatClampNeg _, h.2) a (.inr (2, n)) = .inl (g.2.2.1 2, n, .inl (upd (h.1 a) x.toNatClampNeg _)) by simp only [mx_cell, mx_u_eq]; rfl] at hW
    exact va_zast hx hb hK hP hD hS a 2 he rfl hin hd (fun H1 locs1 hP1 hD1 hS1 => kk H1 locs1 ls (by rw [hW]; exact hP1) (by rw [hW]; exact hD1) hS1 hl hn)
  · cases hput
    have hW := hW (fun b z => ⟨rfl, mx_u_ne _ _ _ z, rfl⟩)
    rw [show mx_cell g.2.2.1 g.2.2.2.1 (h.1, mx_u h.2.1 a x.toNatClampNeg _, h.2.2) a (.inr (3, n)) = .inl (g.2.2.1 3, n, .inr (.inl (vp_updL (h.2.1 a) x.toNatClampNeg _))) by simp only [mx_cell, mx_u_eq]; rfl] at hW
    exact va_last hx hb hK hP hD hS a 3 he rfl hin hd (fun H1 locs1 hP1 hD1 hS1 => kk H1 locs1 ls (by rw [hW]; exact hP1) (by rw [hW]; exact hD1) hS1 hl hn)
  · cases hput
    have hW := hW (fun b z => ⟨rfl, rfl, mx_u_ne _ _ _ z⟩)
    rw [show mx_cell g.2.2.1 g.2.2.2.1 (h.1, h.2.1, mx_u h.2.2 a x.toNatClampNeg none) a (.inr (4, n)) = .inl (g.2.2.1 4, n, .inr (.inr (.inr (.inr (va_up (fun j => (h.2.2 a j).map g.2.2.2.1) x.toNatClampNeg none))))) by simp only [mx_cell, mx_u_eq]; congr 7; funext j; unfold va_up; split <;> rfl] at hW
    exact va_astqN hx hb hK hP hD hS a 4 he rfl hin hd (fun H1 locs1 hP1 hD1 hS1 => kk H1 locs1 ls (by rw [hW]; exact hP1) (by rw [hW]; exact hD1) hS1 hl hn)
  · rename_i b
    obtain ⟨⟨b1, b2⟩, hput⟩ := mx_if hput
    cases hput
    have hW := hW (fun b z => ⟨rfl, rfl, mx_u_ne _ _ _ z⟩)
    rw [show mx_cell g.2.2.1 g.2.2.2.1 (h.1, h.2.1, mx_u h.2.2 a x.toNatClampNeg (some b)) a (.inr (4, n)) = .inl (g.2.2.1 4, n, .inr (.inr (.inr (.inr (va_up (fun j => (h.2.2 a j).map g.2.2.2.1) x.toNatClampNeg (some (g.2.2.2.1 b))))))) by simp only [mx_cell, mx_u_eq]; congr 7; funext j; unfold va_up; split <;> rfl] at hW
    obtain ⟨ea, eb⟩ := mx_idx b b1 b2
    have ho := ((hSt.1 (b - 1000) eb).2.1).kept hS.2.1
    rw [ea] at ho
    obtain ⟨cellV, c1, c2, c3, -⟩ := ho
    have hany : va_Any RX9 s H (g.2.2.2.1 b) := by
      obtain ⟨kC, hkC, -⟩ := Vm.findClass_spec c3
      refine ⟨cellV, c1, c2, ⟨kC, hkC⟩, fun comp hcomp => ?_⟩
      rw [c3] at hcomp
      cases hcomp
      exact Vm.assignable_self _ _
    exact va_astqM hx hb hK hP hD hS a 4 he rfl hany hin hd (fun H1 locs1 hP1 hD1 hS1 => kk H1 locs1 ls (by rw [hW]; exact hP1) (by rw [hW]; exact hD1) hS1 hl hn)
  · cases hput
theorem mx_ok_len (X : mx_Fx p s m args meth c g y) {a : Nat} {x : Int32} (hs : mx_len a = some x) (hd : decode y.2.2.2.2.1 pc = .ok (.arraylength, 1)) (kk : mx_Ok p l e s m args below meth c g o rk y (pc + 1) L (.int x :: S) h) : mx_Ok p l e s m args below meth c g o rk y pc L (.ref a :: S) h := by
  intro H locs ls hP hD hS hl hn
  have k1 := kk H locs ls hP hD hS hl hn
  obtain ⟨hx, hb, -, -, hown, hts, -, hK, hSt, hN, -, -⟩ := X
  unfold mx_len at hs
  by_cases ha : a = 2000
  · rw [if_pos ha] at hs
    cases hs
    subst ha
    exact va_tlen hx hb hSt.2.2.2.1 hS rfl hd k1
  · rw [if_neg ha] at hs
    split at hs
    · rename_i w n hq
      cases hs
      have hsh := mx_arr_i hq
      have he := mx_W_get (cA := g.2.2.1) (ad := g.2.2.2.1) (h := h) hsh
      have hw := mx_shp_chk hsh
      simp only [mx_chk, Bool.and_eq_true, decide_eq_true_eq] at hw
      obtain ⟨hw, -⟩ := hw
      match w, hw, he with
      | 0, _, he => exact va_alen hx hb hK hP a 0 he rfl rfl hd k1
      | 1, _, he => exact va_alen hx hb hK hP a 1 he rfl rfl hd k1
      | 2, _, he => exact va_alen hx hb hK hP a 2 he rfl rfl hd k1
      | 3, _, he => exact va_alen hx hb hK hP a 3 he rfl rfl hd k1
      | 4, _, he => exact va_alen hx hb hK hP a 4 he rfl rfl hd k1
    · cases hs
end SND3
