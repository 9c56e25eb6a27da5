/-! MAKE and the machine: each instruction -/
section MKS2
variable {p : Program} {l : Launch} {e : Env} {s : State} {m : MethodId} {args : Array Value} {below : List Frame} {meth : Method} {c : Code} {g : mx_G} {y : mx_M} {ads0 : List Nat} {cs0 cs' : List mk_C} {pc : Nat} {L S : List mk_V} {cs : List mk_C}
theorem mk_ok_new (X : mk_Fx p s m args meth c g y) {ix ci : Nat} (hn : mk_new y.2.2.1 ix = some ci) (hd : decode y.2.2.2.2.1 pc = .ok (.new ix, 3)) (hcok : (cs ++ [(.inl (ci, mk_def ci) : mk_C)]).all (mk_cok (cs ++ [(.inl (ci, mk_def ci) : mk_C)]).length) = true) (hle : cs.length + 1 ≤ cs'.length) (hsz : mk_sz (cs ++ [.inl (ci, mk_def ci)]) ≤ mk_sz cs')
    (kk : mk_Ok p l e s m args below meth c g y ads0 cs0 cs' (pc + 3) L (.inl (some cs.length) :: S) (cs ++ [.inl (ci, mk_def ci)])) : mk_Ok p l e s m args below meth c g y ads0 cs0 cs' pc L S cs := by
  intro more H locs ls h1 hc0 hs0 hcs hP hD hS hl hL hSv
  obtain ⟨hx, hb, hml, hr, hown, hts, hlk, hnm, hK, hN, hAO, hbs⟩ := X
  obtain ⟨C, T, N, hv, q1, q2, q3, q4⟩ := mk_new_ok hn
  obtain ⟨ty, t1, t2, t3⟩ := mk_def_ok hv
  have hszd : mk_sz (cs ++ [(.inl (ci, mk_def ci) : mk_C)]) = mk_sz cs + N := by rw [mk_sz_app, ← q4]; simp [mk_sz]
  refine va_new (ci := ci) (fs := (mk_def ci).map (mk_val (ads0 ++ more))) (C := C) (T := T) (N := N) hx hb hts (mx_uw hv).1 ty t1 hown (mx_gw_use hts q1 rfl) (mx_gw_use hts q2 rfl) (mx_gw_use hts q3 rfl) hK hP hD hS (fun q h => Nat.le_trans hbs h) hv (t2 _) (by show _ ≤ cs'.length - cs0.length; omega) (by show _ ≤ mk_sz cs' - mk_sz cs0; omega) hd (fun q H1 hP1 hD1 hS1 => ?_)
  have e1 : mk_cell g.2.2.1 (ads0 ++ more ++ [q]) (.inl (ci, mk_def ci)) = .inr (ci, (mk_def ci).map (mk_val (ads0 ++ more))) := by
    simp only [mk_cell]
    rw [mk_map_app (t3 _)]
  have := mk_grow (d := .inl (ci, mk_def ci)) (q := q) (n' := 3) rfl h1 hc0 hs0 hcs (t3 _) hL hSv kk hl hcok (by rw [e1]; exact hP1) (by rw [e1]; exact hD1) hS1
  rw [show mk_sz [(.inl (ci, mk_def ci) : mk_C)] = N by rw [← q4]; simp [mk_sz]] at this
  exact this
theorem mk_tyne {t : ArrayType} (h : mk_at t < 4) : ∃ ty : FieldType, newarray.typeOf t = ty ∧ (mx_tys g.2.2.1)[mk_at t]? = some (g.2.2.1 (mk_at t), ty) ∧ Cond.arrayClass (newarray.typeOf t) ∈ lw_tbl ∧ componentBytes ty ≤ 8 ∧ (∀ (cA : ClassId) (n : Nat), vp_cell cA (n, match mk_at t with | 3 => .inr (.inl (fun _ => 0)) | 4 => .inr (.inr (.inr (.inr (fun _ => none)))) | _ => .inl (fun _ => 0)) = arrV cA n (fun _ => defaultValue ty)) ∧ (∀ a b : ClassId, va_RA s a ty → va_RA s b ty → a = b) := by
  cases t
  case int => exact ⟨.int, rfl, rfl, mk_ac_int, by decide, fun _ _ => rfl, fun a b h1 h2 => by have h1 : s.vm.findClass _ = some a := h1; have h2 : s.vm.findClass _ = some b := h2; rw [h1] at h2; exact Option.some.inj h2⟩
  case char => exact ⟨.char, rfl, rfl, mk_ac_char, by decide, fun _ _ => rfl, fun a b h1 h2 => by have h1 : s.vm.findClass _ = some a := h1; have h2 : s.vm.findClass _ = some b := h2; rw [h1] at h2; exact Option.some.inj h2⟩
  case boolean => exact ⟨.boolean, rfl, rfl, mk_ac_boolean, by decide, fun _ _ => rfl, fun a b h1 h2 => by have h1 : s.vm.findClass _ = some a := h1; have h2 : s.vm.findClass _ = some b := h2; rw [h1] at h2; exact Option.some.inj h2⟩
  case long => exact ⟨.long, rfl, rfl, mk_ac_long, by decide, fun _ _ => rfl, fun a b h1 h2 => by have h1 : s.vm.findClass _ = some a := h1; have h2 : s.vm.findClass _ = some b := h2; rw [h1] at h2; exact Option.some.inj h2⟩
  all_goals exact absurd h (by decide)
theorem mk_ok_newa (X : mk_Fx p s m args meth c g y) {t : ArrayType} {x : Int32} (ht : mk_at t < 4) (hx0 : 0 ≤ x.toInt) (hx1 : x.toNatClampNeg ≤ 60000) (hd : decode y.2.2.2.2.1 pc = .ok (.newarray t, 2)) (hcok : (cs ++ [(.inr (mk_at t, x.toNatClampNeg) : mk_C)]).all (mk_cok (cs ++ [(.inr (mk_at t, x.toNatClampNeg) : mk_C)]).length) = true) (hle : cs.length + 1 ≤ cs'.length) (hsz : mk_sz (cs ++ [.inr (mk_at t, x.toNatClampNeg)]) ≤ mk_sz cs')
    (kk : mk_Ok p l e s m args below meth c g y ads0 cs0 cs' (pc + 2) L (.inl (some cs.length) :: S) (cs ++ [.inr (mk_at t, x.toNatClampNeg)])) : mk_Ok p l e s m args below meth c g y ads0 cs0 cs' pc L (.inr (.inl x) :: S) cs := by
  intro more H locs ls h1 hc0 hs0 hcs hP hD hS hl hL hSv
  obtain ⟨hx, hb, hml, hr, hown, hts, hlk, hnm, hK, hN, hAO, hbs⟩ := X
  obtain ⟨ty, t1, t2, t3, t4, t5, t6⟩ := mk_tyne (g := g) (s := s) ht
  have hszd : mk_sz (cs ++ [(.inr (mk_at t, x.toNatClampNeg) : mk_C)]) = mk_sz cs + x.toNatClampNeg := by rw [mk_sz_app]; simp [mk_sz]
  have hx2 : ¬ x < 0 := by
    rw [Int32.lt_iff_toInt_lt]
    simpa using hx0
  have hbytes : x.toNatClampNeg * componentBytes ty ≤ 536870912 := by
    have := Nat.mul_le_mul hx1 t4
    omega
  refine va_newa hx hb (mx_gw_use hts t3 rfl) t1 hK hP hD hS (fun q h => Nat.le_trans hbs h) (fun cA => t5 cA _) hx2 rfl hbytes (by show _ ≤ cs'.length - cs0.length; omega) (by show _ ≤ mk_sz cs' - mk_sz cs0; omega) hd (fun q cA H1 hK1 hP1 hD1 hS1 => ?_)
  have e0 : cA = g.2.2.1 (mk_at t) := t6 _ _ (hK1.2 5 _ rfl).2 (hK.2 _ _ t2).2
  subst e0
  have := mk_grow (d := .inr (mk_at t, x.toNatClampNeg)) (S := S) (q := q) (n' := 2) rfl h1 hc0 hs0 hcs (decide_eq_true (by omega)) hL (by
    have h9 := hSv
    simp only [List.all_cons, Bool.and_eq_true] at h9
    exact h9.2) kk hl hcok hP1 hD1 hS1
  rw [show mk_sz [(.inr (mk_at t, x.toNatClampNeg) : mk_C)] = x.toNatClampNeg by simp [mk_sz]] at this
  exact this
theorem mk_ok_newq (X : mk_Fx p s m args meth c g y) {ix : Nat} {x : Int32} (hw : mk_anw y.2.2.1 ix = true) (hx0 : 0 ≤ x.toInt) (hx1 : x.toNatClampNeg ≤ 60000) (hd : decode y.2.2.2.2.1 pc = .ok (.anewarray ix, 3)) (hcok : (cs ++ [(.inr (4, x.toNatClampNeg) : mk_C)]).all (mk_cok (cs ++ [(.inr (4, x.toNatClampNeg) : mk_C)]).length) = true) (hle : cs.length + 1 ≤ cs'.length) (hsz : mk_sz (cs ++ [.inr (4, x.toNatClampNeg)]) ≤ mk_sz cs')
    (kk : mk_Ok p l e s m args below meth c g y ads0 cs0 cs' (pc + 3) L (.inl (some cs.length) :: S) (cs ++ [.inr (4, x.toNatClampNeg)])) : mk_Ok p l e s m args below meth c g y ads0 cs0 cs' pc L (.inr (.inl x) :: S) cs := by
  intro more H locs ls h1 hc0 hs0 hcs hP hD hS hl hL hSv
  obtain ⟨hx, hb, hml, hr, hown, hts, hlk, hnm, hK, hN, hAO, hbs⟩ := X
  have hszd : mk_sz (cs ++ [(.inr (4, x.toNatClampNeg) : mk_C)]) = mk_sz cs + x.toNatClampNeg := by rw [mk_sz_app]; simp [mk_sz]
  have hx2 : ¬ x < 0 := by
    rw [Int32.lt_iff_toInt_lt]
    simpa using hx0
  have hcl : Cond.classLink (mx_cn y.2.2.1) ix RX9 ∈ lw_tbl := by
    unfold mk_anw at hw
    simp only [Bool.or_eq_true, Bool.and_eq_true, beq_iff_eq] at hw
    rcases hw with ⟨h1, h2⟩ | ⟨h1, h2⟩
    · rw [h1, h2]; first | exact mka_8_22 | exact mka_7_11
    · rw [h1, h2]; first | exact mka_7_11 | exact mka_8_22
  refine va_newq hx hb hown (mx_gw_use hts hcl rfl) hAO hK hP hD hS (fun q h => Nat.le_trans hbs h) hx2 rfl (by omega) (by show _ ≤ cs'.length - cs0.length; omega) (by show _ ≤ mk_sz cs' - mk_sz cs0; omega) hd (fun q cA H1 hK1 hP1 hD1 hS1 => ?_)
  have e0 : cA = g.2.2.1 4 := by
    obtain ⟨kA, comp, -, -, -, z1⟩ := (hK1.2 5 _ rfl).2
    obtain ⟨kA2, comp2, -, -, -, z2⟩ := (hK.2 4 _ rfl).2
    rw [z1] at z2
    exact Option.some.inj z2
  subst e0
  have := mk_grow (d := .inr (4, x.toNatClampNeg)) (S := S) (q := q) (n' := 3) rfl h1 hc0 hs0 hcs rfl hL (by
    have h9 := hSv
    simp only [List.all_cons, Bool.and_eq_true] at h9
    exact h9.2) kk hl hcok hP1 hD1 hS1
  rw [show mk_sz [(.inr (4, x.toNatClampNeg) : mk_C)] = x.toNatClampNeg by simp [mk_sz]] at this
  exact this
theorem mk_ok_getf (X : mk_Fx p s m args meth c g y) {ix ci k a : Nat} {fs : List mk_V} {v : mk_V} (hf : mk_fld y.2.2.1 ix = some (ci, k)) (ha : cs[a]? = some (.inl (ci, fs))) (hv : fs[k]? = some v) (hci : ci < 10) (hkN : ∀ C T N, vwCl[ci]? = some (C, T, N) → k < N) (hd : decode y.2.2.2.2.1 pc = .ok (.getfield ix, 3)) (hvok : mk_vok cs.length v = true)
    (kk : mk_Ok p l e s m args below meth c g y ads0 cs0 cs' (pc + 3) L (v :: S) cs) : mk_Ok p l e s m args below meth c g y ads0 cs0 cs' pc L (.inl (some a) :: S) cs := by
  intro more H locs ls h1 hc0 hs0 hcs hP hD hS hl hL hSv
  obtain ⟨hx, hb, hml, hr, hown, hts, hlk, hnm, hK, hN, hAO, hbs⟩ := X
  have hlk := mk_fld_ok hf
  obtain ⟨C, T, N, hcl⟩ : ∃ C T N, vwCl[ci]? = some (C, T, N) := by
    cases hq : vwCl[ci]? with
    | none => simp at hq; omega
    | some q => exact ⟨q.1, q.2.1, q.2.2, rfl⟩
  rw [mx_fnm_eq (by omega) hcl] at hlk
  have he := mk_W_get (cA := g.2.2.1) (ads := ads0 ++ more) ha
  have hSv2 : (v :: S).all (mk_vok cs.length) = true := by
    have h9 := hSv
    simp only [List.all_cons, Bool.and_eq_true] at h9 ⊢
    exact ⟨hvok, h9.2⟩
  exact va_get hx hb hts (mx_uw hcl).1 hown hK hP a he hcl k (hkN _ _ _ hcl) (mx_gw_use hts hlk rfl) (fun _ h9 => h9) (by rw [List.getElem?_map, hv]; rfl) hd (kk more H locs ls h1 hc0 hs0 hcs hP hD hS hl hL hSv2)
theorem mk_ok_putf (X : mk_Fx p s m args meth c g y) {ix ci k a : Nat} {fs : List mk_V} {v : mk_V} (hf : mk_fld y.2.2.1 ix = some (ci, k)) (ha : cs[a]? = some (.inl (ci, fs))) (hkl : k < fs.length) (hfit : mk_fit ci k v = true) (hvok : mk_vok cs.length v = true) (hown2 : mx_ci y.2.2.1 = ci) (hkN : ∀ C T N, vwCl[ci]? = some (C, T, N) → k < N ∧ (T k).1 = C) (hd : decode y.2.2.2.2.1 pc = .ok (.putfield ix, 3)) (hcok : (cs.set a (.inl (ci, fs.set k v))).all (mk_cok (cs.set a (.inl (ci, fs.set k v))).length) = true) (hszeq : mk_sz (cs.set a (.inl (ci, fs.set k v))) = mk_sz cs)
    (kk : mk_Ok p l e s m args below meth c g y ads0 cs0 cs' (pc + 3) L S (cs.set a (.inl (ci, fs.set k v)))) : mk_Ok p l e s m args below meth c g y ads0 cs0 cs' pc L (v :: .inl (some a) :: S) cs := by
  intro more H locs ls h1 hc0 hs0 hcs hP hD hS hl hL hSv
  obtain ⟨hx, hb, hml, hr, hown, hts, hlk0, hnm, hK, hN, hAO, hbs⟩ := X
  have hlk := mk_fld_ok hf
  have hci : mx_ci y.2.2.1 < 10 ∨ ¬ mx_ci y.2.2.1 < 10 := Nat.lt_or_ge _ _ |>.imp id (fun h => by omega)
  obtain ⟨C, T, N, hcl⟩ : ∃ C T N, vwCl[ci]? = some (C, T, N) := by
    unfold mk_fit at hfit
    split at hfit
    · rename_i C T N hq
      exact ⟨C, T, N, hq⟩
    · cases hfit
  have hci10 : mx_ci y.2.2.1 < 10 := by
    rw [hown2]
    have := (List.getElem?_eq_some_iff.mp hcl).1
    simpa using this
  obtain ⟨T', N', hcl'⟩ := mx_ci_cn hci10
  rw [hown2, hcl] at hcl'
  have hCn : C = mx_cn y.2.2.1 := by
    have := Option.some.inj hcl'
    exact (Prod.mk.inj this).1
  obtain ⟨hk, hdecl⟩ := hkN _ _ _ hcl
  rw [mx_fnm_eq (by omega) hcl] at hlk
  have he := mk_W_get (cA := g.2.2.1) (ads := ads0 ++ more) ha
  obtain ⟨huw, ty0, hty0, hnm0⟩ := mx_uw hcl
  have hW := mk_W_set (cA := g.2.2.1) (ads := ads0 ++ more) (c' := .inl (ci, fs.set k v)) ha
  have hcell : mk_cell g.2.2.1 (ads0 ++ more) (.inl (ci, fs.set k v)) = .inr (ci, (fs.map (mk_val (ads0 ++ more))).set k (mk_val (ads0 ++ more) v)) := by simp [mk_cell, List.map_set]
  rw [hcell] at hW
  have hlen : k < (fs.map (mk_val (ads0 ++ more))).length := by simpa using hkl
  have hSv2 : S.all (mk_vok cs.length) = true := by
    have h9 := hSv
    simp only [List.all_cons, Bool.and_eq_true] at h9
    exact h9.2.2
  have fin : ∀ (H1 : Heap) (locs1 : List Loc), va_P (g.1, g.2.1) vwCl ((mk_W g.2.2.1 (ads0 ++ more) cs).set a ((ads0 ++ more).getD a 0, .inr (ci, (fs.map (mk_val (ads0 ++ more))).set k (mk_val (ads0 ++ more) v)))) H1 → va_D (mx_A g.2.2.2.2) ((mk_W g.2.2.1 (ads0 ++ more) cs).set a ((ads0 ++ more).getD a 0, .inr (ci, (fs.map (mk_val (ads0 ++ more))).set k (mk_val (ads0 ++ more) v)))) → va_S (mx_A g.2.2.2.2) s.heap H1 locs1 → W p l e (mk_rm y.1 cs0 cs') s m args below meth c H1 locs1 (cs.length - cs0.length) (mk_sz cs - mk_sz cs0) (MQ below (mk_Post g ads0 cs') args s (cs'.length - cs0.length) (mk_sz cs' - mk_sz cs0) (mx_A g.2.2.2.2)) (F0 m (pc + 3) ls (S.map (mk_val (ads0 ++ more)))) := by
    intro H1 locs1 hP1 hD1 hS1
    have k1 := kk more H1 locs1 ls (by rw [List.length_set]; exact h1) (by rw [List.length_set]; exact hc0) (by omega) hcok (by rw [hW]; exact hP1) (by rw [hW]; exact hD1) hS1 hl (by rw [List.length_set]; exact hL) (by rw [List.length_set]; exact hSv2)
    rw [List.length_set, hszeq] at k1
    exact k1
  have key : ∀ ty : FieldType, parseFieldDescriptor (T k).2.2.1 = some ty → narrow ty (mk_val (ads0 ++ more) v) = mk_val (ads0 ++ more) v → fits ty (mk_val (ads0 ++ more) v) = true → W p l e (mk_rm y.1 cs0 cs') s m args below meth c H locs (cs.length - cs0.length) (mk_sz cs - mk_sz cs0) (MQ below (mk_Post g ads0 cs') args s (cs'.length - cs0.length) (mk_sz cs' - mk_sz cs0) (mx_A g.2.2.2.2)) (F0 m pc ls (mk_val (ads0 ++ more) v :: .ref ((ads0 ++ more).getD a 0) :: S.map (mk_val (ads0 ++ more)))) := by
    intro ty z1 z2 z3
    cases hfin : (T k).2.2.2 with
    | false => exact va_put hx hb hts huw ty0 hty0 hnm0 hown hK hP hD hS a he hcl k hk (mx_gw_use hts hlk rfl) (fun _ h9 => h9) hfin z1 z2 z3 hlen hd fin
    | true => exact va_putF hx hb hts huw ty0 hty0 hnm0 hown hK hP hD hS a he hcl k hk (mx_gw_use hts hlk rfl) (fun _ h9 => h9) hfin hnm (by rw [hdecl, hCn]) z1 z2 z3 hlen hd fin
  unfold mk_fit at hfit
  rw [hcl] at hfit
  dsimp only at hfit
  split at hfit
  · split at hfit
    · rename_i hq
      exact key _ hq rfl rfl
    · rename_i hq
      exact key _ hq rfl rfl
    · cases hfit
  · exact key .int (by rw [beq_iff_eq.mp hfit]; rfl) rfl rfl
  · cases hfit
end MKS2
