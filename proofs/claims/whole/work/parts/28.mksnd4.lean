/-! MAKE is sound -/
theorem mk_sz_set {cs : List mk_C} {a ci : Nat} {fs fs' : List mk_V} (h : cs[a]? = some (.inl (ci, fs))) (hl : fs'.length = fs.length) : mk_sz (cs.set a (.inl (ci, fs'))) = mk_sz cs := by
  induction cs generalizing a with
  | nil => simp at h
  | cons c r ih =>
    cases a with
    | zero =>
      simp at h
      subst h
      simp [mk_sz, hl]
    | succ a =>
      have := ih (a := a) (by simpa using h)
      rcases c with ⟨k, gs⟩ | ⟨k, n⟩ <;> simp [mk_sz, this]
section MKS4
variable {p : Program} {l : Launch} {e : Env} {s : State} {m : MethodId} {args : Array Value} {below : List Frame} {meth : Method} {c : Code} {g : mx_G} {y : mx_M} {ads0 : List Nat} {cs0 cs' : List mk_C} {pc : Nat} {L S : List mk_V} {cs : List mk_C}
set_option maxHeartbeats 4000000 in
theorem mk_step_ok (X : mk_Fx p s m args meth c g y) {i : Instr} {n : Nat} {r} (hcsok : cs.all (mk_cok cs.length) = true) (hret : y.2.2.2.2.2.2 = none) (hrk : 0 < y.1) (hd : decode y.2.2.2.2.1 pc = .ok (i, n)) (hs : mk_ex i n y pc L S cs = some r)
    (kgo : ∀ pc' S' cs1, r = .inr (.inl (pc', S', cs1)) → (cs.length ≤ cs1.length ∧ mk_sz cs ≤ mk_sz cs1 ∧ cs1.all (mk_cok cs1.length) = true ∧ S'.all (mk_vok cs1.length) = true) ∧ (cs1.length ≤ cs'.length ∧ mk_sz cs1 ≤ mk_sz cs') ∧ mk_Ok p l e s m args below meth c g y ads0 cs0 cs' pc' L S' cs1)
    (kret : ∀ o', r = .inl o' → o' = cs')
    (kcall : ∀ z as rest np, r = .inr (.inr (z, as, rest)) → mk_inv y.2.2.1 (match i with | .invokespecial ix => ix | _ => 0) = some (some (z, np)) → as.all mk_isr = true → as.all (mk_vok cs.length) = true → as.length = np + 1 → np + 1 ≤ z.2.2.2.2.2.1 → ∃ cs1, (cs.length ≤ cs1.length ∧ mk_sz cs ≤ mk_sz cs1) ∧ (cs1.length ≤ cs'.length ∧ mk_sz cs1 ≤ mk_sz cs') ∧ cs1.all (mk_cok cs1.length) = true ∧ (∀ ads : List Nat, ads.length = cs.length → mk_Met l g z as ads cs cs1) ∧ mk_Ok p l e s m args below meth c g y ads0 cs0 cs' (pc + 3) L rest cs1) : mk_Ok p l e s m args below meth c g y ads0 cs0 cs' pc L S cs := by
  cases i
  case aload_n k =>
    have h9 := mx_if hs; clear hs; obtain ⟨rfl, hs⟩ := h9
    split at hs
    · rename_i j hj
      cases hs
      obtain ⟨-, -, kk⟩ := kgo _ _ _ rfl
      intro more H locs ls h1 hc0 hs0 hcs hP hD hS hl hL hSv
      refine lv_aload_n X.1 X.2.1 hd rfl (mk_lvl_at hl hj) (kk more H locs ls h1 hc0 hs0 hcs hP hD hS hl hL ?_)
      simp only [List.all_cons, Bool.and_eq_true]
      exact ⟨List.all_eq_true.mp hL _ (List.mem_of_getElem? hj), hSv⟩
    · cases hs
  case iconst k =>
    have h9 := mx_if hs; clear hs; obtain ⟨rfl, hs⟩ := h9
    cases hs
    obtain ⟨-, -, kk⟩ := kgo _ _ _ rfl
    exact fun more H locs ls h1 hc0 hs0 hcs hP hD hS hl hL hSv => lv_iconst X.1 X.2.1 hd rfl (kk more H locs ls h1 hc0 hs0 hcs hP hD hS hl hL (by simp only [List.all_cons, Bool.and_eq_true]; exact ⟨rfl, hSv⟩))
  case bipush k =>
    have h9 := mx_if hs; clear hs; obtain ⟨rfl, hs⟩ := h9
    cases hs
    obtain ⟨-, -, kk⟩ := kgo _ _ _ rfl
    exact fun more H locs ls h1 hc0 hs0 hcs hP hD hS hl hL hSv => lv_bipush X.1 X.2.1 hd rfl (kk more H locs ls h1 hc0 hs0 hcs hP hD hS hl hL (by simp only [List.all_cons, Bool.and_eq_true]; exact ⟨rfl, hSv⟩))
  case sipush k =>
    have h9 := mx_if hs; clear hs; obtain ⟨rfl, hs⟩ := h9
    cases hs
    obtain ⟨-, -, kk⟩ := kgo _ _ _ rfl
    exact fun more H locs ls h1 hc0 hs0 hcs hP hD hS hl hL hSv => lv_sipush X.1 X.2.1 hd rfl (kk more H locs ls h1 hc0 hs0 hcs hP hD hS hl hL (by simp only [List.all_cons, Bool.and_eq_true]; exact ⟨rfl, hSv⟩))
  case dup =>
    have h9 := mx_if hs; clear hs; obtain ⟨rfl, hs⟩ := h9
    split at hs
    · cases hs
      obtain ⟨-, -, kk⟩ := kgo _ _ _ rfl
      intro more H locs ls h1 hc0 hs0 hcs hP hD hS hl hL hSv
      refine lv_dup X.1 X.2.1 hd rfl (kk more H locs ls h1 hc0 hs0 hcs hP hD hS hl hL ?_)
      simp only [List.all_cons, Bool.and_eq_true] at hSv ⊢
      exact ⟨hSv.1, hSv⟩
    · cases hs
  case new ix =>
    have h9 := mx_if hs; clear hs; obtain ⟨rfl, hs⟩ := h9
    split at hs
    · rename_i ci hci
      cases hs
      obtain ⟨⟨-, -, q3, -⟩, ⟨q5, q6⟩, kk⟩ := kgo _ _ _ rfl
      exact mk_ok_new X hci hd q3 (by simpa using q5) q6 kk
    · cases hs
  case newarray t =>
    have h9 := mx_if hs; clear hs; obtain ⟨rfl, hs⟩ := h9
    split at hs
    · obtain ⟨⟨w1, w2, w3⟩, hs⟩ := mx_if hs
      cases hs
      obtain ⟨⟨-, -, q3, -⟩, ⟨q5, q6⟩, kk⟩ := kgo _ _ _ rfl
      exact mk_ok_newa X w1 w2 w3 hd q3 (by simpa using q5) q6 kk
    · cases hs
  case anewarray ix =>
    have h9 := mx_if hs; clear hs; obtain ⟨rfl, hs⟩ := h9
    split at hs
    · obtain ⟨⟨w1, w2, w3⟩, hs⟩ := mx_if hs
      cases hs
      obtain ⟨⟨-, -, q3, -⟩, ⟨q5, q6⟩, kk⟩ := kgo _ _ _ rfl
      exact mk_ok_newq X w1 w2 w3 hd q3 (by simpa using q5) q6 kk
    · cases hs
  case getfield ix =>
    have h9 := mx_if hs; clear hs; obtain ⟨rfl, hs⟩ := h9
    split at hs
    · rename_i ci k a q hf
      split at hs
      · rename_i cc fs ha
        have h9 := mx_if hs; clear hs; obtain ⟨rfl, hs⟩ := h9
        split at hs
        · rename_i v hv
          cases hs
          obtain ⟨⟨-, -, -, q4⟩, -, kk⟩ := kgo _ _ _ rfl
          obtain ⟨z1, z2⟩ := mk_fld_ok2 hf
          simp only [List.all_cons, Bool.and_eq_true] at q4
          exact mk_ok_getf X hf ha hv z1 (fun C T N hh => (z2 C T N hh).1) hd q4.1 kk
        · cases hs
      · cases hs
    · cases hs
  case putfield ix =>
    have h9 := mx_if hs; clear hs; obtain ⟨rfl, hs⟩ := h9
    split at hs
    · rename_i ci k v a q hf
      split at hs
      · rename_i cc fs ha
        obtain ⟨⟨rfl, w2, w3, w4, w5⟩, hs⟩ := mx_if hs
        cases hs
        obtain ⟨⟨-, -, q3, -⟩, -, kk⟩ := kgo _ _ _ rfl
        obtain ⟨z1, z2⟩ := mk_fld_ok2 hf
        exact mk_ok_putf X hf ha w2 w3 w4 w5 z2 hd q3 (mk_sz_set ha (by simp)) kk
      · cases hs
    · cases hs
  case invokespecial ix =>
    have h9 := mx_if hs; clear hs; obtain ⟨rfl, hs⟩ := h9
    split at hs
    · rename_i hi
      split at hs
      case h_2 => cases hs
      rename_i a q
      obtain ⟨w1, hs⟩ := mx_if hs
      cases hs
      obtain ⟨-, -, kk⟩ := kgo _ _ _ rfl
      have hlk := mk_inv_ok hi
      intro more H locs ls h1 hc0 hs0 hcs hP hD hS hl hL hSv
      have hcat := mk_cat_le (ads0 ++ more) q
      refine W.objInit X.1 X.2.1 X.2.2.2.2.1 (mx_gw_use X.2.2.2.2.2.1 hlk rfl) (mx_gw_use X.2.2.2.2.2.1 mk_objI rfl) (mx_gw_use X.2.2.2.2.2.1 mk_objC rfl) rfl (by rw [X.2.2.1]; exact hl.1) rfl hd (by show 1 ≤ y.1; omega) (by show 2 * 0 + _ + 12 ≤ 64 * y.1; omega) ?_
      refine kk more H locs ls h1 hc0 hs0 hcs hP hD hS hl hL ?_
      simp only [List.all_cons, Bool.and_eq_true] at hSv
      exact hSv.2
    · rename_i z np hi
      obtain ⟨⟨w1, w2, w3, w4, w5⟩, hs⟩ := mx_if hs
      cases hs
      have e0 : S = (S.take (np + 1)).reverse.reverse ++ S.drop (np + 1) := by rw [List.reverse_reverse, List.take_append_drop]
      have e1 : (S.take (np + 1)).reverse.length = np + 1 := by rw [List.length_reverse, List.length_take]; omega
      have w6 : (S.take (np + 1)).reverse.all mk_isr = true := List.all_eq_true.mpr (fun v hv => by
        have := List.all_eq_true.mp w5 v hv
        rcases v with (_ | j) | x | x
        · cases this
        · rfl
        · cases this
        · cases this)
      have w7 : (S.take (np + 1)).reverse.all (mk_vok cs.length) = true := List.all_eq_true.mpr (fun v hv => by
        have := List.all_eq_true.mp w5 v hv
        rcases v with (_ | j) | x | x
        · rfl
        · exact this
        · rfl
        · rfl)
      obtain ⟨cs1, m1, m2, m3, hM, kk⟩ := kcall z _ _ np rfl hi w6 w7 e1 w4
      have hiv := mk_inv_ok hi
      obtain ⟨i1, i2, i3, i4, i5, i6, i7⟩ := hiv
      have := mk_ok_call (np := np) X i1 i2 i3 i4 i5 i6 w6 e1 w2 w3 m1 m2 m3 hM hd kk
      rw [← e0] at this
      exact this
    · cases hs
  case return_ =>
    have h9 := mx_if hs; clear hs; obtain ⟨rfl, hs⟩ := h9
    split at hs
    · cases hs
      have hcs' := kret _ rfl
      subst hcs'
      intro more H locs ls h1 hc0 hs0 hcs hP hD hS hl hL hSv
      obtain ⟨hx, hb, hml, hr, hown, hts, hlk0, hnm, hK, hN, hAO, hbs⟩ := X
      exact W.vret hx hb hr (fun t ht hW => ⟨⟨rfl, more, h1, va_K.moved hW.alike hK, by rw [ht]; exact hP, hD, hN.warm hW, va_AO.moved hW.alike hAO, by rw [ht]; exact Nat.le_trans hbs hS.1⟩, hS.F ht⟩) hS.2.2 hd hlk0
    · cases hs
  all_goals cases hs
end MKS4
theorem mk_sound {l : Launch} {g : mx_G} : ∀ (f : Nat) (y : mx_M) (pc : Nat) (L S : List mk_V) (cs cs' : List mk_C), mk_run f y pc L S cs = some cs' → y.2.2.2.2.2.2 = none → 0 < y.1 → cs.all (mk_cok cs.length) = true → ∀ (ads0 : List Nat) (cs0 : List mk_C) (p : Program) (e : Env) (s : State) (m : MethodId) (args : Array Value) (below : List Frame) (meth : Method) (c : Code), mk_Fx p s m args meth c g y → mk_Ok p l e s m args below meth c g y ads0 cs0 cs' pc L S cs := by
  intro f
  induction f with
  | zero => intro y pc L S cs cs' q; cases q
  | succ f ih =>
    intro y pc L S cs cs' q hret hrk hcsok ads0 cs0 p e s m args below meth c X
    rw [mk_run] at q
    cases hst : mk_step y pc L S cs with
    | none => rw [hst] at q; cases q
    | some r =>
      rw [hst] at q
      unfold mk_step at hst
      split at hst
      · rename_i i k hd
        refine mk_step_ok X hcsok hret hrk hd hst ?_ ?_ ?_
        · rintro pc' S' cs1 rfl
          obtain ⟨hh, q⟩ := mx_if q
          exact ⟨hh, mk_mono _ _ _ _ _ _ _ q, ih _ _ _ _ _ _ q hret hrk hh.2.2.1 ads0 cs0 p e s m args below meth c X⟩
        · rintro o' rfl
          exact Option.some.inj (mx_if q).2
        · rintro z as rest np rfl hi has hvok hlen hmx
          dsimp only at q
          cases hc : mk_run f z 0 as [] cs with
          | none => rw [hc] at q; cases q
          | some cs1 =>
            rw [hc] at q
            obtain ⟨⟨m1, m2, m3⟩, q⟩ := mx_if q
            obtain ⟨i1, i2, i3, i4, i5, i6, i7⟩ := mk_inv_ok hi
            have hz : 0 < z.1 := mk_rank_pos hi
            exact ⟨cs1, ⟨m1, m2⟩, mk_mono _ _ _ _ _ _ _ q, m3, fun ads hads => mk_met_of i2 i3 i6 has (by omega) hads hcsok hvok (fun p e s m args below meth c X' => ih _ _ _ _ _ _ hc i6 hz hcsok ads cs p e s m args below meth c X'), ih _ _ _ _ _ _ q hret hrk m3 ads0 cs0 p e s m args below meth c X⟩
      · cases hst
