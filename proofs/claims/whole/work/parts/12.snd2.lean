/-! MINI and the machine: fields, arrays, statics, calls, returns -/
def mx_chk (s : mx_Sh) : Bool := match s with
  | .inl (c, fk) => (match vwCl[c]? with
    | some (_, T, N) => fk.length == N && (List.range N).all (fun k => match fk[k]? with
      | some (.inr false) => (T k).2.2.1 == "I" && !(T k).2.2.2
      | some (.inr true) => (T k).2.2.1 == "J" && !(T k).2.2.2
      | some (.inl _) => true
      | none => false)
    | none => false)
  | .inr (k, n) => decide (k < 5) && decide (n < 2 ^ 31)
theorem mx_chk_all : mx_shpL.all mx_chk = true := by decide +kernel
theorem mx_shp_chk {a : Nat} {s : mx_Sh} (h : mx_shp a = some s) : mx_chk s = true := List.all_eq_true.mp mx_chk_all s (List.mem_of_getElem? h)
theorem mx_shp_o {a ci : Nat} {fk : List (Nat ⊕ Bool)} (h : mx_shp a = some (.inl (ci, fk))) : ∃ (C : String) (T : u_T) (N : Nat), vwCl[ci]? = some (C, T, N) ∧ fk.length = N ∧ ∀ k, k < N → (fk[k]? = some (.inr false) → (T k).2.2.1 = "I" ∧ (T k).2.2.2 = false) ∧ (fk[k]? = some (.inr true) → (T k).2.2.1 = "J" ∧ (T k).2.2.2 = false) := by
  have hc := mx_shp_chk h
  unfold mx_chk at hc
  dsimp only at hc
  split at hc
  · rename_i C T N hv
    simp only [Bool.and_eq_true, beq_iff_eq, List.all_eq_true, List.mem_range] at hc
    refine ⟨C, T, N, hv, hc.1, fun k hk => ⟨fun hf => ?_, fun hf => ?_⟩⟩
    · have := hc.2 k hk
      rw [hf] at this
      simpa using this
    · have := hc.2 k hk
      rw [hf] at this
      simpa using this
  · cases hc
theorem mx_fnm_eq {ci k : Nat} {C : String} {T : u_T} {N : Nat} (hc : ci ≠ 99) (hv : vwCl[ci]? = some (C, T, N)) : mx_fnm ci k = ((T k).1, (T k).2.1, (T k).2.2.1) := by
  unfold mx_fnm
  rw [if_neg hc, hv]
section SND2
variable {p : Program} {l : Launch} {e : Env} {s : State} {m : MethodId} {args : Array Value} {below : List Frame} {meth : Method} {c : Code} {g : mx_G} {o : mx_O} {rk : Nat} {y : mx_M} {pc : Nat} {L S : List Value} {h : mx_H}
theorem mx_ok_getf (X : mx_Fx p s m args meth c g y) {ix ci k a : Nat} {v : Value} (hfld : mx_fld y.2.2.1 ix = some (ci, k)) (hg : mx_getf h a ci k = some v) (hd : decode y.2.2.2.2.1 pc = .ok (.getfield ix, 3)) (kk : mx_Ok p l e s m args below meth c g o rk y (pc + 3) L (v :: S) h) : mx_Ok p l e s m args below meth c g o rk y pc L (.ref a :: S) h := by
  intro H locs ls hP hD hS hl hn
  have k1 := kk H locs ls hP hD hS hl hn
  obtain ⟨hx, hb, -, -, hown, hts, -, hK, hSt, hN, -, -⟩ := X
  have hlk := mx_fld_ok hfld
  rcases mx_getf_i hg with ⟨rfl, h1, h2, h3⟩ | ⟨hc, fk, q, h1, h2, h3⟩
  · have hi : a - 1000 < 42 := by omega
    have ea : 1000 + (a - 1000) = a := by omega
    obtain ⟨-, -, z0, z1, z2, -⟩ := hSt.1 (a - 1000) hi
    rw [ea] at z0 z1 z2
    have key : ∀ (n d : String), mx_fnm 99 k = (RX9, n, d) → va_OF RX9 n d (mx_v g.2.2.2.1 v) (g.2.2.2.1 a) (mx_A g.2.2.2.2) s s.heap → W p l e (mx_rm rk) s m args below meth c H locs 0 0 (MQ below (mx_Post g o) args s 0 0 (mx_A g.2.2.2.2)) (F0 m pc ls (.ref (g.2.2.2.1 a) :: S.map (mx_v g.2.2.2.1))) := by
      intro n d hnm hz
      rw [hnm] at hlk
      obtain ⟨cf, kc, fi, f, cell, q1, q2, q3, q4, q5, q6⟩ := hz.kept hS.2.1
      rcases hlk with hlk | ⟨host, hlk⟩
      · exact W.getf hx hb hown (mx_gw_use hts hlk rfl) q1 q2 q3 q4 q5 rfl rfl hd k1
      · exact va_Wgetf hx hb hown (va_Nw.use rfl (hN _ (List.mem_filter.mpr ⟨hlk, rfl⟩))) q1 q2 q3 q4 q5 rfl rfl hd k1
    unfold mx_wf at h3
    split at h3
    · cases h3; exact key _ _ rfl (by rw [← ea] at z0 ⊢; simpa [mx_v] using z0)
    · cases h3; exact key _ _ rfl z1
    · cases h3; exact key _ _ rfl z2
    · cases h3
  · obtain ⟨C, T, N, hv, hN1, -⟩ := mx_shp_o h1
    have hk : k < N := by rw [← hN1]; exact (List.getElem?_eq_some_iff.mp h2).1
    rw [mx_fnm_eq hc hv] at hlk
    have he := mx_W_get (cA := g.2.2.1) (ad := g.2.2.2.1) (h := h) h1
    have hfs : (mx_fs g.2.2.2.1 h a 0 fk)[k]? = some (mx_v g.2.2.2.1 v) := by rw [mx_fs_get, h2, h3]; simp
    rcases hlk with hlk | ⟨host, hlk⟩
    · exact va_get hx hb hts (mx_uw hv).1 hown hK hP a he hv k hk (mx_gw_use hts hlk rfl) (fun _ h9 => h9) hfs hd k1
    · exact va_getN hx hb hts (mx_uw hv).1 hown hK hP a he hv k hk (va_Nw.use rfl (hN _ (List.mem_filter.mpr ⟨hlk, rfl⟩))) (fun _ h9 => h9) hfs hd k1
theorem mx_ok_putf (X : mx_Fx p s m args meth c g y) {ix ci k a : Nat} {v : Value} {h1 : mx_H} (hfld : mx_fld y.2.2.1 ix = some (ci, k)) (hg : mx_putf h a ci k v = some h1) (hd : decode y.2.2.2.2.1 pc = .ok (.putfield ix, 3)) (kk : mx_Ok p l e s m args below meth c g o rk y (pc + 3) L S h1) : mx_Ok p l e s m args below meth c g o rk y pc L (v :: .ref a :: S) h := by
  intro H locs ls hP hD hS hl hn
  obtain ⟨hx, hb, -, -, hown, hts, -, hK, hSt, hN, -, -⟩ := X
  have hlk := mx_fld_ok hfld
  obtain ⟨fk, hs, hcase⟩ := mx_putf_i hg
  obtain ⟨C, T, N, hv, hN1, hty⟩ := mx_shp_o hs
  have hc : ci ≠ 99 := by
    intro z
    subst z
    cases hv
  rw [mx_fnm_eq hc hv] at hlk
  have he := mx_W_get (cA := g.2.2.1) (ad := g.2.2.2.1) (h := h) hs
  have hk : k < N := by
    rw [← hN1]
    rcases hcase with ⟨q, -⟩ | ⟨q, -⟩ <;> exact (List.getElem?_eq_some_iff.mp q).1
  obtain ⟨huw, ty0, hty0, hnm⟩ := mx_uw hv
  have hlen : k < (mx_fs g.2.2.2.1 h a 0 fk).length := by
    rcases hcase with ⟨q, -⟩ | ⟨q, -⟩ <;> exact (List.getElem?_eq_some_iff.mp (show (mx_fs g.2.2.2.1 h a 0 fk)[k]? = some _ by rw [mx_fs_get, q]; rfl)).1
  -- the new world
  have hne : ∀ b, b ≠ a → h1.1 b = h.1 b ∧ h1.2.1 b = h.2.1 b ∧ h1.2.2 b = h.2.2 b := by
    intro b hb'
    rcases hcase with ⟨-, x, -, rfl⟩ | ⟨-, x, -, rfl⟩
    · exact ⟨mx_u_ne _ _ _ hb', rfl, rfl⟩
    · exact ⟨rfl, mx_u_ne _ _ _ hb', rfl⟩
  have hW := mx_W_set (cA := g.2.2.1) (ad := g.2.2.2.1) hs hne
  have hcell : mx_cell g.2.2.1 g.2.2.2.1 h1 a (.inl (ci, fk)) = .inr (ci, (mx_fs g.2.2.2.1 h a 0 fk).set k (mx_v g.2.2.2.1 v)) := by
    simp only [mx_cell]
    congr 2
    refine mx_fs_put fk 0 (fun k2 q2 hq2 => ?_)
    rcases hcase with ⟨hq, x, rfl, rfl⟩ | ⟨hq, x, rfl, rfl⟩
    · by_cases z : k2 = k
      · subst z
        rw [hq] at hq2
        cases hq2
        simp [mx_fv, mx_u, mx_v]
      · rw [if_neg z]
        rcases q2 with j | _ | _ <;> simp [mx_fv, mx_u, z]
    · by_cases z : k2 = k
      · subst z
        rw [hq] at hq2
        cases hq2
        simp [mx_fv, mx_u, mx_v]
      · rw [if_neg z]
        rcases q2 with j | _ | _ <;> simp [mx_fv, mx_u, z]
  rw [hcell] at hW
  have fin : ∀ (ty : FieldType), parseFieldDescriptor (T k).2.2.1 = some ty → (T k).2.2.2 = false → narrow ty (mx_v g.2.2.2.1 v) = mx_v g.2.2.2.1 v → fits ty (mx_v g.2.2.2.1 v) = true → W p l e (mx_rm rk) s m args below meth c H locs 0 0 (MQ below (mx_Post g o) args s 0 0 (mx_A g.2.2.2.2)) (F0 m pc ls (mx_v g.2.2.2.1 v :: .ref (g.2.2.2.1 a) :: S.map (mx_v g.2.2.2.1))) := by
    intro ty t1 t2 t3 t4
    rcases hlk with hlk | ⟨host, hlk⟩
    · exact va_put hx hb hts huw ty0 hty0 hnm hown hK hP hD hS a he hv k hk (mx_gw_use hts hlk rfl) (fun _ h9 => h9) t2 t1 t3 t4 hlen hd (fun H1 locs1 hP1 hD1 hS1 => kk H1 locs1 ls (by rw [hW]; exact hP1) (by rw [hW]; exact hD1) hS1 hl hn)
    · exact va_putN hx hb hts huw ty0 hty0 hnm hown hK hP hD hS a he hv k hk (va_Nw.use rfl (hN _ (List.mem_filter.mpr ⟨hlk, rfl⟩))) (fun _ h9 => h9) t2 t1 t3 t4 hlen hd (fun H1 locs1 hP1 hD1 hS1 => kk H1 locs1 ls (by rw [hW]; exact hP1) (by rw [hW]; exact hD1) hS1 hl hn)
  rcases hcase with ⟨hq, x, rfl, -⟩ | ⟨hq, x, rfl, -⟩
  · obtain ⟨t1, t2⟩ := (hty k hk).1 hq
    exact fin .int (by rw [t1]; rfl) t2 rfl rfl
  · obtain ⟨t1, t2⟩ := (hty k hk).2 hq
    exact fin .long (by rw [t1]; rfl) t2 rfl rfl
theorem mx_ok_ret (X : mx_Fx p s m args meth c g y) {H : Heap} {locs : List Loc} {r : Option Value} (hP : va_P (g.1, g.2.1) vwCl (mx_W g.2.2.1 g.2.2.2.1 h) H) (hD : va_D (mx_A g.2.2.2.2) (mx_W g.2.2.1 g.2.2.2.1 h)) (hS : va_S (mx_A g.2.2.2.2) s.heap H locs) : ∀ t : State, t.heap = H → s.WarmedH t.vm → mx_Post g (r, h) args s (.returned (r.map (mx_v g.2.2.2.1))) t := by
  intro t ht hW
  obtain ⟨-, -, -, -, -, -, -, hK, hSt, hN, hI, hsz⟩ := X
  refine ⟨⟨rfl, va_K.moved hW.alike hK, by rw [ht]; exact hP, hD, ?_, hN.warm hW, hI, ?_⟩, hS.F ht⟩
  · rw [ht]
    exact (hSt.kept hS.2.1).moved hW.alike
  · rw [ht]
    exact Nat.le_trans hsz hS.1
theorem mx_ok_ireturn (X : mx_Fx p s m args meth c g y) {x : Int32} {ty : FieldType} (hret : y.2.2.2.2.2.2 = some ty) (hnar : narrow ty (.int x) = .int x) (hd : decode y.2.2.2.2.1 pc = .ok (.ireturn, 1)) : mx_Ok p l e s m args below meth c g (some (.int x), h) rk y pc L [.int x] h :=
  fun H locs ls hP hD hS hl hn => W.zret X.1 X.2.1 (X.2.2.2.1.trans hret) hnar (mx_ok_ret (r := some (.int x)) X hP hD hS) hS.2.2 hd X.2.2.2.2.2.2.1
theorem mx_ok_return (X : mx_Fx p s m args meth c g y) (hret : y.2.2.2.2.2.2 = none) (hd : decode y.2.2.2.2.1 pc = .ok (.return_, 1)) : mx_Ok p l e s m args below meth c g (none, h) rk y pc L [] h :=
  fun H locs ls hP hD hS hl hn => W.vret X.1 X.2.1 (X.2.2.2.1.trans hret) (mx_ok_ret (r := none) X hP hD hS) hS.2.2 hd X.2.2.2.2.2.2.1
theorem mx_ok_areturn (X : mx_Fx p s m args meth c g y) {v : Value} {cn : String} (hv : mx_ar v = true) (hret : y.2.2.2.2.2.2 = some (.object cn)) (hd : decode y.2.2.2.2.1 pc = .ok (.areturn, 1)) : mx_Ok p l e s m args below meth c g (some v, h) rk y pc L [v] h :=
  fun H locs ls hP hD hS hl hn => W.aret X.1 X.2.1 (X.2.2.2.1.trans hret) (Or.inl ⟨_, rfl⟩) (by cases v <;> first | exact Or.inl rfl | exact Or.inr ⟨_, rfl⟩ | cases hv) (mx_ok_ret (r := some v) X hP hD hS) hS.2.2 hd X.2.2.2.2.2.2.1
theorem mx_ok_gets (X : mx_Fx p s m args meth c g y) {ix a : Nat} (hsta : mx_sta y.2.2.1 ix = some a) (hd : decode y.2.2.2.2.1 pc = .ok (.getstatic ix, 3)) (kk : mx_Ok p l e s m args below meth c g o rk y (pc + 3) L (.ref a :: S) h) : mx_Ok p l e s m args below meth c g o rk y pc L S h := by
  intro H locs ls hP hD hS hl hn
  have k1 := kk H locs ls hP hD hS hl hn
  obtain ⟨hx, hb, -, -, hown, hts, -, hK, hSt, hN, -, -⟩ := X
  obtain ⟨hlk, hcase⟩ := mx_sta_ok hsta
  have key : ∀ (C n d : String), mx_snm a = (C, n, d) → va_Z C n d (.ref (g.2.2.2.1 a)) (mx_A g.2.2.2.2) s s.heap → W p l e (mx_rm rk) s m args below meth c H locs 0 0 (MQ below (mx_Post g o) args s 0 0 (mx_A g.2.2.2.2)) (F0 m pc ls (S.map (mx_v g.2.2.2.1))) := by
    intro C n d hnm hz
    rw [hnm] at hlk
    rcases hlk with hlk | ⟨host, hlk⟩
    · exact va_gets hx hb hz hS hown (mx_gw_use hts hlk rfl) (fun _ h9 => h9) hd k1
    · exact va_getsN hx hb hz hS hown (va_Nw.use rfl (hN _ (List.mem_filter.mpr ⟨hlk, rfl⟩))) (fun _ h9 => h9) hd k1
  rcases hcase with rfl | rfl | ⟨h1, h2⟩
  · exact key _ _ _ rfl hSt.2.1
  · exact key _ _ _ rfl hSt.2.2.1
  · have hi : a - 1000 < 42 := by omega
    have ea : 1000 + (a - 1000) = a := by omega
    have hz := (hSt.1 (a - 1000) hi).1
    rw [ea] at hz
    exact key _ _ _ (by unfold mx_snm; rw [if_neg (by omega), if_neg (by omega)]) hz
theorem mx_after {H : Heap} {locs : List Loc} {ls : Array Slot} {a9 : Array Value} {st0 rest : List Value} {o1 : mx_O} (hr : va_Run p l e (mx_rm rk) s m args below meth c H locs 0 0 0 0 (F0 m pc ls st0) (rest.map (mx_v g.2.2.2.1)) (mx_Post g o1 a9) (mx_A g.2.2.2.2)) (hS : va_S (mx_A g.2.2.2.2) s.heap H locs) (hl : lv_has ls y.2.2.2.2.2.1 (mx_lv g.2.2.2.1 0 L)) (hn : L.length = y.2.2.2.2.2.1) (kk : mx_Ok p l e s m args below meth c g o rk y (pc + 3) L (o1.1.toList ++ rest) o1.2) : W p l e (mx_rm rk) s m args below meth c H locs 0 0 (MQ below (mx_Post g o) args s 0 0 (mx_A g.2.2.2.2)) (F0 m pc ls st0) := by
  intro T hT X
  obtain ⟨v, st₀, t, T', L9, h0, X', hL, e1, e2, ⟨⟨hv, hWd⟩, hz, hk⟩, st⟩ := hr T hT X
  have hv' : v = o1.1.map (mx_v g.2.2.2.1) := by cases hv; rfl
  subst hv'
  rw [h0] at hz hk
  obtain ⟨-, hP1, hD1, -⟩ := hWd
  rw [← e1] at hP1 hz hk
  have hS1 : va_S (mx_A g.2.2.2.2) s.heap T'.heap (locs ++ L9) := ⟨Nat.le_trans hS.1 hz, fun q h1 h2 => by rw [hk q (Nat.lt_of_lt_of_le h1 hS.1) h2]; exact hS.2.1 q h1 h2, fun q hq => by
    rcases List.mem_append.mp hq with z | z
    · exact hS.2.2 q z
    · exact hL q z⟩
  have k1 := kk T'.heap (locs ++ L9) ls hP1 hD1 hS1 hl hn T' rfl X'
  have es : (o1.1.map (mx_v g.2.2.2.1)).toList ++ rest.map (mx_v g.2.2.2.1) = (o1.1.toList ++ rest).map (mx_v g.2.2.2.1) := by cases o1.1 <;> simp
  rw [← es] at k1
  obtain ⟨t2, a1, b1⟩ := k1
  exact ⟨t2, st t2 a1, b1⟩
end SND2
