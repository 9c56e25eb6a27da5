/-! MINI's built-in answers are the machine's -/
section BI2
variable {p : Program} {l : Launch} {e : Env} {s : State} {m : MethodId} {args : Array Value} {below : List Frame} {meth : Method} {c : Code} {g : mx_G} {o : mx_O} {rk : Nat} {y : mx_M} {pc : Nat} {L S : List Value} {h : mx_H}
theorem mx_met_of2 {as : List Value} (hpl : plainName y.2.2.2.1.cls = true) (hcl : y.2.2.2.1.cls = mx_cn y.2.2.1) (hlay : (mx_lay as).length ≤ y.2.2.2.2.2.1) (hok : ∀ (p : Program) (e : Env) (s : State) (m : MethodId) (args : Array Value) (below : List Frame) (meth : Method) (c : Code), mx_Fx p s m args meth c g y → mx_Ok p l e s m args below meth c g o (mx_rank y as) y 0 (mx_pad y.2.2.2.2.2.1 (mx_lay as)) [] h) : mx_Met l g y as h o := by
  refine Met.ofW (cc := y.2.2.2.2.1) (maxL := y.2.2.2.2.2.1) (ret := y.2.2.2.2.2.2) hpl rfl ?_
  intro p e s m args below meth c s₁ B hml hv
  obtain ⟨rfl, hK, hP, hD, hSt, hN, hI, hsz⟩ := hv
  have hown : s.vm.findClass (mx_cn y.2.2.1) = some m.cls := by
    have := findClass_of_methodNamed B.named
    rw [hcl] at this
    exact this
  have X : mx_Fx p s m (as.map (mx_v g.2.2.2.1)).toArray meth c g y := ⟨B.exec, B.bytes, hml, B.returns, hown, fun w hw => atoms_spec (ws := mx_ws y) B.pre w (List.mem_cons_of_mem _ hw), B.notSynchronized, hK, hSt, hN, hI, hsz⟩
  rw [lg_entry_eq]
  exact hok p e s m _ below meth c X s.heap [] _ hP hD va_S.rf (mx_entry as hlay) (mx_pad_len hlay)
theorem mx_met_ord {i : Nat} (hi : i < 42) : mx_Met l g mj_ord [.ref (1000 + i)] h (some (.int (Int32.ofNat i)), h) := by
  refine mx_met_of2 (by decide +kernel) rfl (Nat.le_of_ble_eq_true rfl) (fun p e s m args below meth c X => ?_)
  refine mx_ok_load_a (v := .ref (1000 + i)) X rfl rfl (Or.inl ⟨0, rfl, rfl, dJx29ce0_ordinal_8abf5_0⟩) ?_
  refine mx_ok_gof (v := .int (Int32.ofNat i)) X (X.2.2.2.2.2.2.2.2.1.1 i hi).2.2.2.2.2 jw_ord dJx29ce0_ordinal_8abf5_1 ?_
  exact mx_ok_ireturn X rfl (vp_nar_int _) dJx29ce0_ordinal_8abf5_4
theorem mx_goodord : GoodIn mx_gw (mx_ws mj_ord) := by
  intro w hw
  rcases List.mem_cons.mp hw with rfl | hw
  · exact mx_good (mx_gw_of jw_codeE rfl)
  · exact mx_good hw
theorem mx_ok_ord (X : mx_Fx p s m args meth c g y) {ix i : Nat} (hi : i < 42) {rest : List Value} (hlk : Cond.methodLink (mx_cn y.2.2.1) ix ⟨RX9, "ordinal", "()I"⟩ ∈ lw_tbl) (hr4 : mx_ws8 rest ≤ 8) (hrk : 0 < rk) (hd : decode y.2.2.2.2.1 pc = .ok (.invokevirtual ix, 3)) (kk : mx_Ok p l e s m args below meth c g o rk y (pc + 3) L (.int (Int32.ofNat i) :: rest) h) : mx_Ok p l e s m args below meth c g o rk y pc L (.ref (1000 + i) :: rest) h := by
  intro H locs ls hP hD hS hl hn
  have hwd := mx_wd_ok X hP hD hS
  obtain ⟨hx, hb, hml, -, hown, hts, -, hK, hSt, hN, -, -⟩ := X
  have hW8 : 2 * (F0 m pc ls ((.ref (1000 + i) :: rest).map (mx_v g.2.2.2.1))).monitorRoom + ((rest.map (mx_v g.2.2.2.1)).map fun v => v.category).sum ≤ 8 := by
    have := mx_cat_le g.2.2.2.1 rest
    show 2 * 0 + _ ≤ 8
    omega
  obtain ⟨cell, c1, c2, c3, -⟩ := ((hSt.1 i hi).2.1).kept hS.2.1
  have hpre : PreV s H RX9 (g.2.2.2.1 (1000 + i)) (mx_Pre g [.ref (1000 + i)] h) [] := ⟨mx_blind g _ h, ⟨cell, c1, c2, c3⟩, fun U hU hW => ⟨rfl, hwd U hU hW⟩⟩
  have hT : GoodIn mx_gw (va_wsU (mx_cn y.2.2.1) ix RX9 RJx29ce0 ⟨RX9, "ordinal", "()I"⟩ yJx29ce0_ordinal_8abf5 (mx_ws mj_ord)) := by
    intro w hw
    rcases List.mem_append.mp hw with h1 | h1
    · simp only [List.mem_cons, List.not_mem_nil, or_false] at h1
      rcases h1 with rfl | rfl | rfl | rfl | rfl
      · exact mx_good (mx_gw_of hlk rfl)
      · exact mx_good (mx_gw_of jw_same rfl)
      · exact mx_good (mx_gw_of jw_sel rfl)
      · exact mx_good (mx_gw_of jw_inst rfl)
      · exact mx_good (mx_gw_of jw_iniE rfl)
    · exact mx_goodord w h1
  have hcw := va_cwU (R := mx_rm rk) (mc := 0) (ms := 0) (rm := mx_rm 0) 0 hts hT rfl rfl rfl rfl ⟨by decide +kernel, by decide +kernel, by decide +kernel⟩ (mx_room hrk (by decide))
  exact mx_after (o1 := (some (.int (Int32.ofNat i)), h)) (a9 := ([Value.ref (g.2.2.2.1 (1000 + i))] : List Value).toArray) (rest := rest) (va_runU (As := []) ⟨hx, hb, hml, hown, hts⟩ (mx_met_ord hi) hcw hpre rfl rfl hl.1 rfl hW8 hd ⟨Nat.zero_le _, Nat.zero_le _⟩) hS hl hn kk
theorem mx_ws8_le (r : List Value) : mx_ws8 r ≤ 2 * r.length := by
  induction r with
  | nil => exact Nat.le_refl _
  | cons v r ih =>
    have : (match mx_cat1 v with | true => 1 | false => 2) ≤ 2 := by split <;> decide
    have h2 := Nat.add_le_add this ih
    simp only [List.length_cons]
    refine Nat.le_trans h2 (by omega)
theorem mx_idx3 (b : Nat) (h1 : 3000 ≤ b) (h2 : b < 3042) : 3000 + (b - 3000) = b ∧ b - 3000 < 42 := by omega
end BI2
theorem mx_biok (l : Launch) (g : mx_G) : mx_BiOk l g := by
  intro p e s m args below meth c o rk y pc L S h ix kd np z pc' L' S' h' X hiv h10 hd hs kk
  have hIV := mx_inv_ok hiv
  unfold mx_bi at hs
  split at hs
  · rename_i a r
    obtain ⟨⟨a1, a2, a3, a4⟩, hq⟩ := mx_if hs
    cases hq
    obtain ⟨ea, eb⟩ := mx_idx a a1 a2
    have h8 : mx_ws8 r ≤ 8 := Nat.le_trans (mx_ws8_le r) (by omega)
    have := mx_ok_ord (i := a - 1000) (rest := r) (L := L) (h := h) (o := o) (l := l) (e := e) (below := below) (rk := rk) X eb hIV h8 (by omega) hd kk
    rw [ea] at this
    exact this
  · rename_i a r
    obtain ⟨⟨a1, a2, a3, a4⟩, hq⟩ := mx_if hs
    cases hq
    obtain ⟨ea, eb⟩ := mx_idx3 a a1 a2
    have h8 : mx_ws8 r ≤ 8 := Nat.le_trans (mx_ws8_le r) (by omega)
    have hX := mx_txt_cell X eb
    have := mx_ok_callC (z := mj_len) (np := 0) (as := []) (rest := r) (L := L) (o := o) (l := l) (e := e) (below := below) (rk := rk) X hIV gm_mj_len (by decide +kernel) rfl h8 (by show (1 : Nat) < rk; omega) hX (mx_met_len eb) hd kk
    rw [ea] at this
    exact this
  · rename_i x a r
    obtain ⟨⟨a1, a2, a3, a4, a5⟩, hq⟩ := mx_if hs
    cases hq
    obtain ⟨ea, eb⟩ := mx_idx3 a a1 a2
    have h8 : mx_ws8 r ≤ 8 := Nat.le_trans (mx_ws8_le r) (by omega)
    have hX := mx_txt_cell X eb
    have := mx_ok_callC (z := mj_chr) (np := 1) (as := [.int x]) (rest := r) (L := L) (o := o) (l := l) (e := e) (below := below) (rk := rk) X hIV gm_mj_chr (by decide +kernel) rfl h8 (by show (3 : Nat) < rk; omega) hX (mx_met_chr eb (mx_in_iff.mp a5)) hd kk
    rw [ea] at this
    exact this
  · rename_i b x r
    obtain ⟨⟨a3, a4⟩, hq⟩ := mx_if hs
    cases hq
    intro H locs ls hP hD hS hl hn
    have k1 := kk H locs ls hP hD hS hl hn
    have h8 : mx_ws8 r ≤ 8 := Nat.le_trans (mx_ws8_le r) (by omega)
    have hcat := mx_cat_le g.2.2.2.1 r
    have hts := X.2.2.2.2.2.1
    refine va_mmin X.1 X.2.1 (by rw [X.2.2.1]; exact hl.1.symm) X.2.2.2.2.1 (mx_gw_use hts hIV rfl) (mx_gw_use hts jw_staM rfl) (mx_gw_use hts jw_iniM rfl) (mx_gw_use hts jw_codeM rfl) (by show 1 ≤ rk; omega) (by show _ + 13 ≤ 64 * rk; omega) (Nat.zero_le _) (Nat.zero_le _) hd ?_
    exact k1
  · cases hs
