/-! MINI and the machine: all steps together -/
/-- what is owed of the JDK's own methods: a word's ordinal, a text's length and charAt, the smaller of two numbers -/
def mx_BiOk (l : Launch) (g : mx_G) : Prop := ∀ (p : Program) (e : Env) (s : State) (m : MethodId) (args : Array Value) (below : List Frame) (meth : Method) (c : Code) (o : mx_O) (rk : Nat) (y : mx_M) (pc : Nat) (L S : List Value) (h : mx_H) (ix kd np : Nat) (z : mx_M) (pc' : Nat) (L' S' : List Value) (h' : mx_H),
  mx_Fx p s m args meth c g y → mx_inv y.2.2.1 ix = some (kd, np, z) → 10 ≤ kd → decode y.2.2.2.2.1 pc = .ok (if kd = 13 then .invokestatic ix else .invokevirtual ix, 3) → mx_bi kd h rk y pc L S = some (.inr (.inl ((rk, y, pc', L', S'), h'))) → mx_Ok p l e s m args below meth c g o rk y pc' L' S' h' → mx_Ok p l e s m args below meth c g o rk y pc L S h
theorem mx_bi_i {kd : Nat} {h : mx_H} {rk : Nat} {m : mx_M} {pc : Nat} {L S : List Value} {r} (hs : mx_bi kd h rk m pc L S = some r) : ∃ S', r = .inr (.inl ((rk, m, pc + 3, L, S'), h)) := by
  unfold mx_bi at hs
  split at hs
  · exact ⟨_, (Option.some.inj (mx_if hs).2).symm⟩
  · exact ⟨_, (Option.some.inj (mx_if hs).2).symm⟩
  · exact ⟨_, (Option.some.inj (mx_if hs).2).symm⟩
  · exact ⟨_, (Option.some.inj (mx_if hs).2).symm⟩
  · cases hs
theorem mx_call_i {kd np : Nat} {z : mx_M} {rk : Nat} {m : mx_M} {pc : Nat} {L S : List Value} {r} (hs : mx_call kd np z rk m pc L S = some r) : ∃ as rest, S = as.reverse ++ rest ∧ mx_ws8 rest ≤ 8 ∧ (mx_lay as).length ≤ z.2.2.2.2.2.1 ∧ mx_rank z as < rk ∧ r = .inr (.inr (z, as, (rk, m, pc + 3, L, rest))) ∧ ((kd = 1 ∧ as.length = np) ∨ (kd = 0 ∧ ∃ a as', as = .ref a :: as' ∧ as'.length = np ∧ ∃ fk, mx_shp a = some (.inl (mx_ci z.2.2.1, fk))) ∨ (kd = 2 ∧ ∃ a as', as = .ref a :: as' ∧ as'.length = np ∧ 1000 ≤ a ∧ a < 1042)) := by
  unfold mx_call at hs
  dsimp only at hs
  obtain ⟨⟨h1, h2, h3, h4⟩, h5⟩ := mx_if hs
  have e0 : S = (S.take (if kd = 1 then np else np + 1)).reverse.reverse ++ S.drop (if kd = 1 then np else np + 1) := by rw [List.reverse_reverse, List.take_append_drop]
  have e1 : (S.take (if kd = 1 then np else np + 1)).reverse.length = (if kd = 1 then np else np + 1) := by rw [List.length_reverse, List.length_take]; omega
  refine ⟨(S.take (if kd = 1 then np else np + 1)).reverse, S.drop (if kd = 1 then np else np + 1), e0, h2, h3, h4, ?_⟩
  generalize hA : (S.take (if kd = 1 then np else np + 1)).reverse = A at h5 e1 ⊢
  split at h5
  · refine ⟨(Option.some.inj h5).symm, Or.inl ⟨rfl, by simpa using e1⟩⟩
  · split at h5
    · rename_i c fk hsh
      obtain ⟨hc, h6⟩ := mx_if h5
      refine ⟨(Option.some.inj h6).symm, Or.inr (Or.inl ⟨rfl, _, _, rfl, by simpa using e1, fk, by rw [hsh, hc]⟩)⟩
    · cases h5
  · obtain ⟨hc, h6⟩ := mx_if h5
    exact ⟨(Option.some.inj h6).symm, Or.inr (Or.inr ⟨rfl, _, _, rfl, by simpa using e1, hc.1, hc.2⟩)⟩
  · cases h5
section SND5
variable {p : Program} {l : Launch} {e : Env} {s : State} {m : MethodId} {args : Array Value} {below : List Frame} {meth : Method} {c : Code} {g : mx_G} {o : mx_O} {rk : Nat} {y : mx_M} {pc : Nat} {L S : List Value} {h : mx_H}
theorem mx_ok_inv (X : mx_Fx p s m args meth c g y) (hbi : mx_BiOk l g) {kd0 ix : Nat} {r} (hk0 : kd0 = 0 ∨ kd0 = 1) (hd : decode y.2.2.2.2.1 pc = .ok (if kd0 = 1 then .invokestatic ix else .invokevirtual ix, 3)) (hs : mx_inv' kd0 ix rk y pc L S h = some r)
    (kgo : ∀ pc' L' S' h', r = .inr (.inl ((rk, y, pc', L', S'), h')) → mx_Ok p l e s m args below meth c g o rk y pc' L' S' h')
    (kcall : ∀ z as rest st, r = .inr (.inr (z, as, (rk, y, pc + 3, L, rest))) → mx_gm z st → (mx_lay as).length ≤ z.2.2.2.2.2.1 → ∃ o1, mx_Met l g z as h o1 ∧ mx_Ok p l e s m args below meth c g o rk y (pc + 3) L (o1.1.toList ++ rest) o1.2) : mx_Ok p l e s m args below meth c g o rk y pc L S h := by
  unfold mx_inv' at hs
  split at hs
  · rename_i kd np z hiv
    by_cases h10 : 10 ≤ kd
    · rw [if_pos h10] at hs
      obtain ⟨hk, hs⟩ := mx_if hs
      obtain ⟨S', rfl⟩ := mx_bi_i hs
      refine hbi p e s m args below meth c o rk y pc L S h ix kd np z _ _ _ _ X hiv h10 ?_ hs (kgo _ _ _ _ rfl)
      by_cases z1 : kd = 13
      · rw [if_pos z1]
        rw [if_pos (hk.mp z1)] at hd
        exact hd
      · rw [if_neg z1]
        rw [if_neg (fun z2 => z1 (hk.mpr z2))] at hd
        exact hd
    · rw [if_neg h10] at hs
      obtain ⟨hk, hs⟩ := mx_if hs
      have hIV := mx_inv_ok hiv
      obtain ⟨as, rest, rfl, hr4, hlay, hrk, rfl, hcase⟩ := mx_call_i hs
      unfold mx_IV at hIV
      dsimp only at hIV
      split at hIV
      · omega
      · omega
      · omega
      · omega
      · obtain ⟨-, hlk, gm, hnp, hw9, hci⟩ := hIV
        obtain ⟨o1, hM, kk⟩ := kcall z as rest _ rfl gm hlay
        rcases hcase with ⟨rfl, hlen⟩ | ⟨rfl, a, as', rfl, hlen, fk, hsh⟩ | ⟨rfl, a, as', rfl, hlen, ha1, ha2⟩
        · rw [if_pos (hk.mp rfl)] at hd
          exact mx_ok_callS X hlk gm hnp hlen hr4 hrk hM hd kk
        · have : ¬ kd0 = 1 := fun z1 => by have := hk.mpr z1; omega
          rw [if_neg this] at hd
          exact mx_ok_callV X hlk gm hnp hlen hr4 hrk (Or.inl ⟨fk, hsh, hci rfl⟩) hM hd kk
        · have : ¬ kd0 = 1 := fun z1 => by have := hk.mpr z1; omega
          rw [if_neg this] at hd
          exact mx_ok_callV X hlk gm hnp hlen hr4 hrk (Or.inr ⟨ha1, ha2, hw9 rfl⟩) hM hd kk
  · cases hs
set_option maxHeartbeats 4000000 in
theorem mx_step_ok (X : mx_Fx p s m args meth c g y) (hbi : mx_BiOk l g) {i : Instr} {n : Nat} {r} (hd : decode y.2.2.2.2.1 pc = .ok (i, n)) (hs : mx_ex i n rk y pc L S h = some r)
    (kgo : ∀ pc' L' S' h', r = .inr (.inl ((rk, y, pc', L', S'), h')) → mx_Ok p l e s m args below meth c g o rk y pc' L' S' h')
    (kret : ∀ o', r = .inl o' → o' = o)
    (kcall : ∀ z as rest st, r = .inr (.inr (z, as, (rk, y, pc + 3, L, rest))) → mx_gm z st → (mx_lay as).length ≤ z.2.2.2.2.2.1 → ∃ o1, mx_Met l g z as h o1 ∧ mx_Ok p l e s m args below meth c g o rk y (pc + 3) L (o1.1.toList ++ rest) o1.2) : mx_Ok p l e s m args below meth c g o rk y pc L S h := by
  cases i
  case aload_n k => have h9 := mx_if hs; clear hs; obtain ⟨rfl, hs⟩ := h9; obtain ⟨v, h1, h2, rfl⟩ := mx_load_a hs; exact mx_ok_load_a X h1 h2 (Or.inl ⟨k, rfl, rfl, hd⟩) (kgo _ _ _ _ rfl)
  case aload k => have h9 := mx_if hs; clear hs; obtain ⟨rfl, hs⟩ := h9; obtain ⟨v, h1, h2, rfl⟩ := mx_load_a hs; exact mx_ok_load_a X h1 h2 (Or.inr ⟨rfl, hd⟩) (kgo _ _ _ _ rfl)
  case iload_n k => have h9 := mx_if hs; clear hs; obtain ⟨rfl, hs⟩ := h9; obtain ⟨v, h1, rfl⟩ := mx_load_i hs; exact mx_ok_load_i X h1 (Or.inl ⟨k, rfl, rfl, hd⟩) (kgo _ _ _ _ rfl)
  case iload k => have h9 := mx_if hs; clear hs; obtain ⟨rfl, hs⟩ := h9; obtain ⟨v, h1, rfl⟩ := mx_load_i hs; exact mx_ok_load_i X h1 (Or.inr ⟨rfl, hd⟩) (kgo _ _ _ _ rfl)
  case lload_n k => have h9 := mx_if hs; clear hs; obtain ⟨rfl, hs⟩ := h9; obtain ⟨v, h1, rfl⟩ := mx_load_l hs; exact mx_ok_load_l X h1 rfl hd (kgo _ _ _ _ rfl)
  case istore_n k => have h9 := mx_if hs; clear hs; obtain ⟨rfl, hs⟩ := h9; obtain ⟨x, q, rfl, h1, rfl⟩ := mx_store_i hs; exact mx_ok_store_i X h1 (Or.inl ⟨k, rfl, rfl, hd⟩) (kgo _ _ _ _ rfl)
  case istore k => have h9 := mx_if hs; clear hs; obtain ⟨rfl, hs⟩ := h9; obtain ⟨x, q, rfl, h1, rfl⟩ := mx_store_i hs; exact mx_ok_store_i X h1 (Or.inr ⟨rfl, hd⟩) (kgo _ _ _ _ rfl)
  case astore_n k => have h9 := mx_if hs; clear hs; obtain ⟨rfl, hs⟩ := h9; obtain ⟨x, q, rfl, h0, h1, rfl⟩ := mx_store_a hs; exact mx_ok_store_a X h0 h1 (Or.inl ⟨k, rfl, rfl, hd⟩) (kgo _ _ _ _ rfl)
  case astore k => have h9 := mx_if hs; clear hs; obtain ⟨rfl, hs⟩ := h9; obtain ⟨x, q, rfl, h0, h1, rfl⟩ := mx_store_a hs; exact mx_ok_store_a X h0 h1 (Or.inr ⟨rfl, hd⟩) (kgo _ _ _ _ rfl)
  case lstore_n k => have h9 := mx_if hs; clear hs; obtain ⟨rfl, hs⟩ := h9; obtain ⟨x, q, rfl, h1, rfl⟩ := mx_store_l hs; exact mx_ok_store_l X h1 rfl hd (kgo _ _ _ _ rfl)
  case iconst k => have h9 := mx_if hs; clear hs; obtain ⟨rfl, hs⟩ := h9; cases hs; exact fun H locs ls hP hD hS hl hn => lv_iconst X.1 X.2.1 hd rfl (kgo _ _ _ _ rfl H locs ls hP hD hS hl hn)
  case bipush k => have h9 := mx_if hs; clear hs; obtain ⟨rfl, hs⟩ := h9; cases hs; exact fun H locs ls hP hD hS hl hn => lv_bipush X.1 X.2.1 hd rfl (kgo _ _ _ _ rfl H locs ls hP hD hS hl hn)
  case sipush k => have h9 := mx_if hs; clear hs; obtain ⟨rfl, hs⟩ := h9; cases hs; exact fun H locs ls hP hD hS hl hn => lv_sipush X.1 X.2.1 hd rfl (kgo _ _ _ _ rfl H locs ls hP hD hS hl hn)
  case lconst k => have h9 := mx_if hs; clear hs; obtain ⟨rfl, hs⟩ := h9; cases hs; exact fun H locs ls hP hD hS hl hn => lv_lconst X.1 X.2.1 hd rfl (kgo _ _ _ _ rfl H locs ls hP hD hS hl hn)
  case aconst_null => have h9 := mx_if hs; clear hs; obtain ⟨rfl, hs⟩ := h9; cases hs; exact fun H locs ls hP hD hS hl hn => lv_null X.1 X.2.1 hd (kgo _ _ _ _ rfl H locs ls hP hD hS hl hn)
  case ldc k =>
    have h9 := mx_if hs; clear hs; obtain ⟨rfl, hs⟩ := h9
    split at hs
    · rename_i x hx
      cases hs
      exact fun H locs ls hP hD hS hl hn => lv_ldc X.1 X.2.1 X.2.2.2.2.1 (mx_gw_use X.2.2.2.2.2.1 (mx_ldc_ok hx) rfl) hd (kgo _ _ _ _ rfl H locs ls hP hD hS hl hn)
    · cases hs
  case ldc2_w k =>
    have h9 := mx_if hs; clear hs; obtain ⟨rfl, hs⟩ := h9
    split at hs
    · rename_i x hx
      cases hs
      exact fun H locs ls hP hD hS hl hn => lv_ldc2 X.1 X.2.1 X.2.2.2.2.1 (mx_gw_use X.2.2.2.2.2.1 (mx_ldc2_ok hx) rfl) hd (kgo _ _ _ _ rfl H locs ls hP hD hS hl hn)
    · cases hs
  case getfield ix =>
    have h9 := mx_if hs; clear hs; obtain ⟨rfl, hs⟩ := h9
    split at hs
    · rename_i ci k a q hf
      split at hs
      · rename_i v hv
        cases hs
        exact mx_ok_getf X hf hv hd (kgo _ _ _ _ rfl)
      · cases hs
    · cases hs
  case putfield ix =>
    have h9 := mx_if hs; clear hs; obtain ⟨rfl, hs⟩ := h9
    split at hs
    · rename_i ci k v a q hf
      split at hs
      · rename_i h1 hv
        cases hs
        exact mx_ok_putf X hf hv hd (kgo _ _ _ _ rfl)
      · cases hs
    · cases hs
  case getstatic ix =>
    have h9 := mx_if hs; clear hs; obtain ⟨rfl, hs⟩ := h9
    split at hs
    · rename_i a ha
      cases hs
      exact mx_ok_gets X ha hd (kgo _ _ _ _ rfl)
    · cases hs
  case iaload =>
    have h9 := mx_if hs; clear hs; obtain ⟨rfl, hs⟩ := h9
    split at hs
    · split at hs
      · rename_i hv; cases hs; exact mx_ok_ld (w := 0) X hv hd (kgo _ _ _ _ rfl)
      · cases hs
    · cases hs
  case caload =>
    have h9 := mx_if hs; clear hs; obtain ⟨rfl, hs⟩ := h9
    split at hs
    · split at hs
      · rename_i hv; cases hs; exact mx_ok_ld (w := 1) X hv hd (kgo _ _ _ _ rfl)
      · cases hs
    · cases hs
  case baload =>
    have h9 := mx_if hs; clear hs; obtain ⟨rfl, hs⟩ := h9
    split at hs
    · split at hs
      · rename_i hv; cases hs; exact mx_ok_ld (w := 2) X hv hd (kgo _ _ _ _ rfl)
      · cases hs
    · cases hs
  case laload =>
    have h9 := mx_if hs; clear hs; obtain ⟨rfl, hs⟩ := h9
    split at hs
    · split at hs
      · rename_i hv; cases hs; exact mx_ok_ld (w := 3) X hv hd (kgo _ _ _ _ rfl)
      · cases hs
    · cases hs
  case aaload =>
    have h9 := mx_if hs; clear hs; obtain ⟨rfl, hs⟩ := h9
    split at hs
    · split at hs
      · rename_i hv; cases hs; exact mx_ok_ld (w := 4) X hv hd (kgo _ _ _ _ rfl)
      · cases hs
    · cases hs
  case iastore =>
    have h9 := mx_if hs; clear hs; obtain ⟨rfl, hs⟩ := h9
    split at hs
    · split at hs
      · rename_i hv; cases hs; exact mx_ok_sto (w := 0) X hv hd (kgo _ _ _ _ rfl)
      · cases hs
    · cases hs
  case castore =>
    have h9 := mx_if hs; clear hs; obtain ⟨rfl, hs⟩ := h9
    split at hs
    · split at hs
      · rename_i hv; cases hs; exact mx_ok_sto (w := 1) X hv hd (kgo _ _ _ _ rfl)
      · cases hs
    · cases hs
  case bastore =>
    have h9 := mx_if hs; clear hs; obtain ⟨rfl, hs⟩ := h9
    split at hs
    · split at hs
      · rename_i hv; cases hs; exact mx_ok_sto (w := 2) X hv hd (kgo _ _ _ _ rfl)
      · cases hs
    · cases hs
  case lastore =>
    have h9 := mx_if hs; clear hs; obtain ⟨rfl, hs⟩ := h9
    split at hs
    · split at hs
      · rename_i hv; cases hs; exact mx_ok_sto (w := 3) X hv hd (kgo _ _ _ _ rfl)
      · cases hs
    · cases hs
  case aastore =>
    have h9 := mx_if hs; clear hs; obtain ⟨rfl, hs⟩ := h9
    split at hs
    · split at hs
      · rename_i hv; cases hs; exact mx_ok_sto (w := 4) X hv hd (kgo _ _ _ _ rfl)
      · cases hs
    · cases hs
  case arraylength =>
    have h9 := mx_if hs; clear hs; obtain ⟨rfl, hs⟩ := h9
    split at hs
    · split at hs
      · rename_i hv; cases hs; exact mx_ok_len X hv hd (kgo _ _ _ _ rfl)
      · cases hs
    · cases hs
  case iinc k d =>
    have h9 := mx_if hs; clear hs; obtain ⟨rfl, hs⟩ := h9
    split at hs
    · rename_i hv; cases hs; exact mx_ok_iinc X hv hd (kgo _ _ _ _ rfl)
    · cases hs
  case iadd => have h9 := mx_if hs; clear hs; obtain ⟨rfl, hs⟩ := h9; obtain ⟨a, b, q, rfl, rfl⟩ := mx_bin_i hs; exact fun H locs ls hP hD hS hl hn => lv_iadd X.1 X.2.1 hd (kgo _ _ _ _ rfl H locs ls hP hD hS hl hn)
  case isub => have h9 := mx_if hs; clear hs; obtain ⟨rfl, hs⟩ := h9; obtain ⟨a, b, q, rfl, rfl⟩ := mx_bin_i hs; exact fun H locs ls hP hD hS hl hn => lv_isub X.1 X.2.1 hd (kgo _ _ _ _ rfl H locs ls hP hD hS hl hn)
  case imul => have h9 := mx_if hs; clear hs; obtain ⟨rfl, hs⟩ := h9; obtain ⟨a, b, q, rfl, rfl⟩ := mx_bin_i hs; exact fun H locs ls hP hD hS hl hn => lv_imul X.1 X.2.1 hd (kgo _ _ _ _ rfl H locs ls hP hD hS hl hn)
  case iand => have h9 := mx_if hs; clear hs; obtain ⟨rfl, hs⟩ := h9; obtain ⟨a, b, q, rfl, rfl⟩ := mx_bin_i hs; exact fun H locs ls hP hD hS hl hn => lv_iand X.1 X.2.1 hd (kgo _ _ _ _ rfl H locs ls hP hD hS hl hn)
  case ior => have h9 := mx_if hs; clear hs; obtain ⟨rfl, hs⟩ := h9; obtain ⟨a, b, q, rfl, rfl⟩ := mx_bin_i hs; exact fun H locs ls hP hD hS hl hn => lv_ior X.1 X.2.1 hd (kgo _ _ _ _ rfl H locs ls hP hD hS hl hn)
  case ixor => have h9 := mx_if hs; clear hs; obtain ⟨rfl, hs⟩ := h9; obtain ⟨a, b, q, rfl, rfl⟩ := mx_bin_i hs; exact fun H locs ls hP hD hS hl hn => lv_ixor X.1 X.2.1 hd (kgo _ _ _ _ rfl H locs ls hP hD hS hl hn)
  case ishl => have h9 := mx_if hs; clear hs; obtain ⟨rfl, hs⟩ := h9; obtain ⟨a, b, q, rfl, rfl⟩ := mx_bin_i hs; exact fun H locs ls hP hD hS hl hn => lv_ishl X.1 X.2.1 hd (kgo _ _ _ _ rfl H locs ls hP hD hS hl hn)
  case ishr => have h9 := mx_if hs; clear hs; obtain ⟨rfl, hs⟩ := h9; obtain ⟨a, b, q, rfl, rfl⟩ := mx_bin_i hs; exact fun H locs ls hP hD hS hl hn => lv_ishr X.1 X.2.1 hd (kgo _ _ _ _ rfl H locs ls hP hD hS hl hn)
  case idiv =>
    have h9 := mx_if hs; clear hs; obtain ⟨rfl, hs⟩ := h9
    split at hs
    · split at hs
      · cases hs
      · rename_i hne; cases hs; exact fun H locs ls hP hD hS hl hn => lv_idiv X.1 X.2.1 hd hne (kgo _ _ _ _ rfl H locs ls hP hD hS hl hn)
    · cases hs
  case irem =>
    have h9 := mx_if hs; clear hs; obtain ⟨rfl, hs⟩ := h9
    split at hs
    · split at hs
      · cases hs
      · rename_i hne; cases hs; exact fun H locs ls hP hD hS hl hn => lv_irem X.1 X.2.1 hd hne (kgo _ _ _ _ rfl H locs ls hP hD hS hl hn)
    · cases hs
  case ineg => have h9 := mx_if hs; clear hs; obtain ⟨rfl, hs⟩ := h9; split at hs; · cases hs; exact fun H locs ls hP hD hS hl hn => lv_ineg X.1 X.2.1 hd (kgo _ _ _ _ rfl H locs ls hP hD hS hl hn)
               · cases hs
  case i2c => have h9 := mx_if hs; clear hs; obtain ⟨rfl, hs⟩ := h9; split at hs; · cases hs; exact fun H locs ls hP hD hS hl hn => lv_i2c X.1 X.2.1 hd rfl (kgo _ _ _ _ rfl H locs ls hP hD hS hl hn)
              · cases hs
  case i2l => have h9 := mx_if hs; clear hs; obtain ⟨rfl, hs⟩ := h9; split at hs; · cases hs; exact fun H locs ls hP hD hS hl hn => lv_i2l X.1 X.2.1 hd rfl (kgo _ _ _ _ rfl H locs ls hP hD hS hl hn)
              · cases hs
  case lor => have h9 := mx_if hs; clear hs; obtain ⟨rfl, hs⟩ := h9; split at hs; · cases hs; exact fun H locs ls hP hD hS hl hn => lv_lor X.1 X.2.1 hd (kgo _ _ _ _ rfl H locs ls hP hD hS hl hn)
              · cases hs
  case lshl => have h9 := mx_if hs; clear hs; obtain ⟨rfl, hs⟩ := h9; split at hs; · cases hs; exact fun H locs ls hP hD hS hl hn => lv_lshl X.1 X.2.1 hd rfl (kgo _ _ _ _ rfl H locs ls hP hD hS hl hn)
               · cases hs
  case lcmp => have h9 := mx_if hs; clear hs; obtain ⟨rfl, hs⟩ := h9; split at hs; · cases hs; exact fun H locs ls hP hD hS hl hn => W.lcmp X.1 X.2.1 hd (kgo _ _ _ _ rfl H locs ls hP hD hS hl hn)
               · cases hs
  case dup =>
    have h9 := mx_if hs; clear hs; obtain ⟨rfl, hs⟩ := h9
    split at hs
    · rename_i v q
      obtain ⟨hv, hs⟩ := mx_if hs
      cases hs
      exact fun H locs ls hP hD hS hl hn => lv_dup X.1 X.2.1 hd (by rw [mx_v_cat]; cases v <;> first | rfl | cases hv) (kgo _ _ _ _ rfl H locs ls hP hD hS hl hn)
    · cases hs
  case dup2 =>
    have h9 := mx_if hs; clear hs; obtain ⟨rfl, hs⟩ := h9
    split at hs
    · rename_i v w q
      obtain ⟨⟨hv, hw⟩, hs⟩ := mx_if hs
      cases hs
      exact fun H locs ls hP hD hS hl hn => lv_dup2_11 X.1 X.2.1 hd (by rw [mx_v_cat]; cases v <;> first | rfl | cases hv) (by rw [mx_v_cat]; cases w <;> first | rfl | cases hw) (kgo _ _ _ _ rfl H locs ls hP hD hS hl hn)
    · cases hs
  case pop =>
    have h9 := mx_if hs; clear hs; obtain ⟨rfl, hs⟩ := h9
    split at hs
    · rename_i v q
      obtain ⟨hv, hs⟩ := mx_if hs
      cases hs
      exact fun H locs ls hP hD hS hl hn => lv_pop X.1 X.2.1 hd (by rw [mx_v_cat]; cases v <;> first | rfl | cases hv) (kgo _ _ _ _ rfl H locs ls hP hD hS hl hn)
    · cases hs
  case goto off => have h9 := mx_if hs; clear hs; obtain ⟨rfl, hs⟩ := h9; obtain ⟨t, ht, rfl⟩ := mx_jmp_i hs; exact mx_ok_goto X ht hd (kgo _ _ _ _ rfl)
  case ifCond cd off => have h9 := mx_if hs; clear hs; obtain ⟨rfl, hs⟩ := h9; split at hs; · obtain ⟨t, ht, rfl⟩ := mx_br_i hs; exact mx_ok_if X ht hd (kgo _ _ _ _ rfl)
                        · cases hs
  case if_icmp cd off => have h9 := mx_if hs; clear hs; obtain ⟨rfl, hs⟩ := h9; split at hs; · obtain ⟨t, ht, rfl⟩ := mx_br_i hs; exact mx_ok_icmp X ht hd (kgo _ _ _ _ rfl)
                         · cases hs
  case if_acmp cd off =>
    cases cd
    · have h9 := mx_if hs; clear hs; obtain ⟨rfl, hs⟩ := h9
      split at hs
      · obtain ⟨⟨hv, hw⟩, hs⟩ := mx_if hs
        obtain ⟨t, ht, rfl⟩ := mx_br_i hs
        exact mx_ok_acmp_eq X hv hw ht hd (kgo _ _ _ _ rfl)
      · cases hs
    · have h9 := mx_if hs; clear hs; obtain ⟨rfl, hs⟩ := h9
      split at hs
      · obtain ⟨⟨hv, hw⟩, hs⟩ := mx_if hs
        obtain ⟨t, ht, rfl⟩ := mx_br_i hs
        exact mx_ok_acmp_ne X hv hw ht hd (kgo _ _ _ _ rfl)
      · cases hs
  case ifnull off =>
    have h9 := mx_if hs; clear hs; obtain ⟨rfl, hs⟩ := h9
    split at hs
    · obtain ⟨hv, hs⟩ := mx_if hs
      obtain ⟨t, ht, rfl⟩ := mx_br_i hs
      exact mx_ok_ifnull X hv ht hd (kgo _ _ _ _ rfl)
    · cases hs
  case ifnonnull off =>
    have h9 := mx_if hs; clear hs; obtain ⟨rfl, hs⟩ := h9
    split at hs
    · obtain ⟨hv, hs⟩ := mx_if hs
      obtain ⟨t, ht, rfl⟩ := mx_br_i hs
      exact mx_ok_ifnonnull X hv ht hd (kgo _ _ _ _ rfl)
    · cases hs
  case tableswitch d lo hi offs =>
    dsimp only [mx_ex] at hs
    split at hs
    · rename_i x q
      split at hs
      · rename_i off ho
        obtain ⟨t, ht, rfl⟩ := mx_jmp_i hs
        intro H locs ls hP hD hS hl hn
        have kk := kgo _ _ _ _ rfl H locs ls hP hD hS hl hn
        unfold mx_swo at ho
        by_cases hr : x.toInt < lo ∨ hi < x.toInt
        · rw [if_pos hr] at ho
          cases ho
          exact lv_tableOut X.1 X.2.1 hd hr ht kk
        · rw [if_neg hr] at ho
          exact lv_tableIn X.1 X.2.1 hd (fun z => hr (Or.inl z)) (fun z => hr (Or.inr z)) ho ht kk
      · cases hs
    · cases hs
  case lookupswitch d ps =>
    dsimp only [mx_ex] at hs
    split at hs
    · rename_i x q
      obtain ⟨hp, hs⟩ := mx_if hs
      obtain ⟨t, ht, rfl⟩ := mx_jmp_i hs
      exact fun H locs ls hP hD hS hl hn => lv_lookup X.1 X.2.1 hd hp rfl ht (kgo _ _ _ _ rfl H locs ls hP hD hS hl hn)
    · cases hs
  case invokevirtual ix => have h9 := mx_if hs; clear hs; obtain ⟨rfl, hs⟩ := h9; exact mx_ok_inv (kd0 := 0) X hbi (Or.inl rfl) hd hs kgo kcall
  case invokestatic ix => have h9 := mx_if hs; clear hs; obtain ⟨rfl, hs⟩ := h9; exact mx_ok_inv (kd0 := 1) X hbi (Or.inr rfl) hd hs kgo kcall
  case ireturn =>
    have h9 := mx_if hs; clear hs; obtain ⟨rfl, hs⟩ := h9
    split at hs
    · rename_i x ty hr
      obtain ⟨hn, hs⟩ := mx_if hs
      cases hs
      have := kret _ rfl
      subst this
      exact mx_ok_ireturn X hr hn hd
    · cases hs
  case areturn =>
    have h9 := mx_if hs; clear hs; obtain ⟨rfl, hs⟩ := h9
    split at hs
    · rename_i v cn hr
      obtain ⟨hn, hs⟩ := mx_if hs
      cases hs
      have := kret _ rfl
      subst this
      exact mx_ok_areturn X hn hr hd
    · cases hs
  case return_ =>
    have h9 := mx_if hs; clear hs; obtain ⟨rfl, hs⟩ := h9
    split at hs
    · rename_i hr
      cases hs
      have := kret _ rfl
      subst this
      exact mx_ok_return X hr hd
    · cases hs
  all_goals cases hs
end SND5
/-- MINI is sound: what a frame comes to in MINI, the machine comes to -/
theorem mx_sound {l : Launch} {g : mx_G} (hbi : mx_BiOk l g) : ∀ (n : Nat) (rk : Nat) (y : mx_M) (pc : Nat) (L S : List Value) (h : mx_H) (o : mx_O), mx_run n (rk, y, pc, L, S) h = some o → ∀ (p : Program) (e : Env) (s : State) (m : MethodId) (args : Array Value) (below : List Frame) (meth : Method) (c : Code), mx_Fx p s m args meth c g y → mx_Ok p l e s m args below meth c g o rk y pc L S h := by
  intro n
  induction n with
  | zero => intro rk y pc L S h o q; cases q
  | succ n ih =>
    intro rk y pc L S h o q p e s m args below meth c X
    rw [mx_run] at q
    cases hst : mx_step (rk, y, pc, L, S) h with
    | none => rw [hst] at q; cases q
    | some r =>
      rw [hst] at q
      unfold mx_step at hst
      dsimp only at hst
      split at hst
      · rename_i i k hd
        refine mx_step_ok X hbi hd hst ?_ ?_ ?_
        · rintro pc' L' S' h' rfl
          exact ih _ _ _ _ _ _ _ q p e s m args below meth c X
        · rintro o' rfl
          exact Option.some.inj q
        · rintro z as rest st rfl gm hlay
          dsimp only at q
          cases hc : mx_run n (mx_ent z as) h with
          | none => rw [hc] at q; cases q
          | some o1 =>
            rw [hc] at q
            exact ⟨o1, mx_met_of gm hlay (fun p e s m args below meth c X' => ih _ _ _ _ _ _ _ hc p e s m args below meth c X'), ih _ _ _ _ _ _ _ q p e s m args below meth c X⟩
      · cases hst
theorem mx_met {l : Launch} {g : mx_G} (hbi : mx_BiOk l g) {y : mx_M} {st : Bool} {as : List Value} {h : mx_H} {o : mx_O} (gm : mx_gm y st) (hlay : (mx_lay as).length ≤ y.2.2.2.2.2.1) (hC : mx_C y as h = some o) : mx_Met l g y as h o := by
  obtain ⟨n, hn⟩ := mx_D_to hC
  exact mx_met_of gm hlay (fun p e s m args below meth c X => mx_sound hbi n _ _ _ _ _ _ _ hn p e s m args below meth c X)
