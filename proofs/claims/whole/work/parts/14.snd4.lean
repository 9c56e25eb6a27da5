/-! MINI and the machine: calls, and all steps together -/
theorem mx_cat_le (ad : Nat → Nat) (r : List Value) : ((r.map (mx_v ad)).map fun v => v.category).sum ≤ mx_ws8 r := by
  induction r with
  | nil => exact Nat.le_refl _
  | cons v r ih =>
    have : (mx_v ad v).category ≤ (match mx_cat1 v with | true => 1 | false => 2) := by
      rw [mx_v_cat]
      cases v <;> exact Nat.le_refl _
    simp only [List.map_cons, List.sum_cons]
    exact Nat.add_le_add this ih
theorem mx_good {w : Cond} (h : w ∈ mx_gw) : w ∈ mx_gw ∧ ((w.onTables && w.keeps) = true ∨ ∃ ty, w = .arrayClass ty) := ⟨h, good_of_word (List.mem_filter.mp h).2⟩
theorem mx_goodws {y : mx_M} {st : Bool} (hg : mx_gm y st) : GoodIn mx_gw (mx_ws y) := by
  intro w hw
  rcases List.mem_cons.mp hw with rfl | hw
  · exact mx_good (mx_gw_of hg.2.1 rfl)
  · exact mx_good hw
theorem mx_ci_cn {o : Nat} (h : mx_ci o < 10) : ∃ (T : u_T) (N : Nat), vwCl[mx_ci o]? = some (mx_cn o, T, N) := by
  unfold mx_ci at h ⊢
  split at h
  all_goals first | exact ⟨_, _, rfl⟩ | omega
theorem mx_pad_len {n : Nat} {L : List Value} (h : L.length ≤ n) : (mx_pad n L).length = n := by
  simp [mx_pad]
  omega
section SND4
variable {p : Program} {l : Launch} {e : Env} {s : State} {m : MethodId} {args : Array Value} {below : List Frame} {meth : Method} {c : Code} {g : mx_G} {o : mx_O} {rk : Nat} {y : mx_M} {pc : Nat} {L S : List Value} {h : mx_H}
theorem mx_met_of {st : Bool} {as : List Value} (gm : mx_gm y st) (hlay : (mx_lay as).length ≤ y.2.2.2.2.2.1) (hok : ∀ (p : Program) (e : Env) (s : State) (m : MethodId) (args : Array Value) (below : List Frame) (meth : Method) (c : Code), mx_Fx p s m args meth c g y → mx_Ok p l e s m args below meth c g o (mx_rank y as) y 0 (mx_pad y.2.2.2.2.2.1 (mx_lay as)) [] h) : mx_Met l g y as h o := by
  refine Met.ofW (cc := y.2.2.2.2.1) (maxL := y.2.2.2.2.2.1) (ret := y.2.2.2.2.2.2) gm.1.1 rfl ?_
  intro p e s m args below meth c s₁ B hml hv
  obtain ⟨rfl, hK, hP, hD, hSt, hN, hI, hsz⟩ := hv
  have hown : s.vm.findClass (mx_cn y.2.2.1) = some m.cls := by
    have := findClass_of_methodNamed B.named
    rw [gm.1.2.2.2.2] at this
    exact this
  have X : mx_Fx p s m (as.map (mx_v g.2.2.2.1)).toArray meth c g y := ⟨B.exec, B.bytes, hml, B.returns, hown, fun w hw => atoms_spec (ws := mx_ws y) B.pre w (List.mem_cons_of_mem _ hw), B.notSynchronized, hK, hSt, hN, hI, hsz⟩
  rw [lg_entry_eq]
  exact hok p e s m _ below meth c X s.heap [] _ hP hD va_S.rf (mx_entry as hlay) (mx_pad_len hlay)
theorem mx_wd_ok (X : mx_Fx p s m args meth c g y) {H : Heap} {locs : List Loc} (hP : va_P (g.1, g.2.1) vwCl (mx_W g.2.2.1 g.2.2.2.1 h) H) (hD : va_D (mx_A g.2.2.2.2) (mx_W g.2.2.1 g.2.2.2.1 h)) (hS : va_S (mx_A g.2.2.2.2) s.heap H locs) : ∀ U : State, U.heap = H → s.WarmedH U.vm → mx_Wd g h U := by
  intro t ht hW
  obtain ⟨-, -, -, -, -, -, -, hK, hSt, hN, hI, hsz⟩ := X
  refine ⟨va_K.moved hW.alike hK, by rw [ht]; exact hP, hD, ?_, hN.warm hW, hI, ?_⟩
  · rw [ht]
    exact (hSt.kept hS.2.1).moved hW.alike
  · rw [ht]
    exact Nat.le_trans hsz hS.1
theorem mx_room {r rk n : Nat} (h : r < rk) (hn : n ≤ 40) : (mx_rm r).frames + 1 ≤ (mx_rm rk).frames ∧ 8 + (n + 11) + (mx_rm r).locals ≤ (mx_rm rk).locals := ⟨h, by show 8 + (n + 11) + 64 * r ≤ 64 * rk; omega⟩
theorem mx_ok_callS (X : mx_Fx p s m args meth c g y) {ix np : Nat} {z : mx_M} {as rest : List Value} {o1 : mx_O} (hlk : mx_LM y.2.2.1 ix z.2.2.2.1) (gm : mx_gm z true) (hnp : (parseMethodDescriptor z.2.2.2.1.desc).map (fun d => d.parameters.length) = some np) (hlen : as.length = np) (hr4 : mx_ws8 rest ≤ 8) (hrk : mx_rank z as < rk) (hM : mx_Met l g z as h o1) (hd : decode y.2.2.2.2.1 pc = .ok (.invokestatic ix, 3)) (kk : mx_Ok p l e s m args below meth c g o rk y (pc + 3) L (o1.1.toList ++ rest) o1.2) : mx_Ok p l e s m args below meth c g o rk y pc L (as.reverse ++ rest) h := by
  intro H locs ls hP hD hS hl hn
  have hwd := mx_wd_ok X hP hD hS
  obtain ⟨hx, hb, hml, -, hown, hts, -, hK, hSt, hN, -, -⟩ := X
  have hW8 : 2 * (F0 m pc ls ((as.reverse ++ rest).map (mx_v g.2.2.2.1))).monitorRoom + ((rest.map (mx_v g.2.2.2.1)).map fun v => v.category).sum ≤ 8 := by
    have := mx_cat_le g.2.2.2.1 rest
    show 2 * 0 + _ ≤ 8
    omega
  have hst : (F0 m pc ls ((as.reverse ++ rest).map (mx_v g.2.2.2.1))).stack = (as.map (mx_v g.2.2.2.1)).reverse ++ rest.map (mx_v g.2.2.2.1) := by simp
  have hpre : PreS s H (mx_Pre g as h) (as.map (mx_v g.2.2.2.1)) := ⟨mx_blind g as h, fun U hU hW => ⟨rfl, hwd U hU hW⟩⟩
  have hini : (Cond.initialized z.2.2.2.1.cls).before args s = true := mx_gw_use hts gm.2.2.1 rfl
  have hsta : (Cond.static z.2.2.2.1).before args s = true := mx_gw_use hts gm.2.2.2 rfl
  rcases hlk with hlk | ⟨host, hlk⟩
  · refine mx_after (a9 := (as.map (mx_v g.2.2.2.1)).toArray) (rest := rest) (va_runS (As := as.map (mx_v g.2.2.2.1)) ⟨hx, hb, hml, hown, hts⟩ hM ⟨callB_of np hts (mx_goodws gm) rfl rfl rfl hini (mx_gw_use hts hlk rfl) ⟨gm.1.2.1, gm.1.2.2.1, hnp⟩ (mx_room hrk gm.1.2.2.2.1), hsta⟩ hpre rfl (by simpa using hlen) hl.1 hst hW8 hd ⟨Nat.zero_le _, Nat.zero_le _⟩) hS hl hn kk
  · refine mx_after (a9 := (as.map (mx_v g.2.2.2.1)).toArray) (rest := rest) (va_runSN (As := as.map (mx_v g.2.2.2.1)) ⟨hx, hb, hml, hown, hts⟩ hM ⟨va_cnB np hts (mx_goodws gm) rfl rfl rfl (hN _ (List.mem_filter.mpr ⟨hlk, rfl⟩)) hini ⟨gm.1.2.1, gm.1.2.2.1, hnp⟩ (mx_room hrk gm.1.2.2.2.1), hsta, trivial⟩ hpre rfl (by simpa using hlen) hl.1 hst hW8 hd ⟨Nat.zero_le _, Nat.zero_le _⟩) hS hl hn kk
theorem mx_ok_callV (X : mx_Fx p s m args meth c g y) {ix np a : Nat} {z : mx_M} {as rest : List Value} {o1 : mx_O} (hlk : mx_LM y.2.2.1 ix z.2.2.2.1) (gm : mx_gm z false) (hnp : (parseMethodDescriptor z.2.2.2.1.desc).map (fun d => d.parameters.length) = some np) (hlen : as.length = np) (hr4 : mx_ws8 rest ≤ 8) (hrk : mx_rank z (.ref a :: as) < rk) (hrecv : (∃ fk, mx_shp a = some (.inl (mx_ci z.2.2.1, fk)) ∧ mx_ci z.2.2.1 < 10) ∨ (1000 ≤ a ∧ a < 1042 ∧ z.2.2.1 = 9)) (hM : mx_Met l g z (.ref a :: as) h o1) (hd : decode y.2.2.2.2.1 pc = .ok (.invokevirtual ix, 3)) (kk : mx_Ok p l e s m args below meth c g o rk y (pc + 3) L (o1.1.toList ++ rest) o1.2) : mx_Ok p l e s m args below meth c g o rk y pc L ((.ref a :: as).reverse ++ rest) h := by
  intro H locs ls hP hD hS hl hn
  have hwd := mx_wd_ok X hP hD hS
  obtain ⟨hx, hb, hml, -, hown, hts, -, hK, hSt, hN, -, -⟩ := X
  have hW8 : 2 * (F0 m pc ls (((.ref a :: as).reverse ++ rest).map (mx_v g.2.2.2.1))).monitorRoom + ((rest.map (mx_v g.2.2.2.1)).map fun v => v.category).sum ≤ 8 := by
    have := mx_cat_le g.2.2.2.1 rest
    show 2 * 0 + _ ≤ 8
    omega
  have hst : (F0 m pc ls (((.ref a :: as).reverse ++ rest).map (mx_v g.2.2.2.1))).stack = (as.map (mx_v g.2.2.2.1)).reverse ++ .ref (g.2.2.2.1 a) :: rest.map (mx_v g.2.2.2.1) := by simp [mx_v]
  have hcell : ∃ cellB : Cell, H[g.2.2.2.1 a]? = some cellB ∧ cellB.vm.isStatics = false ∧ s.vm.findClass z.2.2.2.1.cls = some cellB.cls := by
    rw [gm.1.2.2.2.2]
    rcases hrecv with ⟨fk, h1, h2⟩ | ⟨h1, h2, h3⟩
    · obtain ⟨T, N, hv⟩ := mx_ci_cn h2
      exact va_recv hK hP hv (mx_W_get h1)
    · rw [h3]
      have ho := ((hSt.1 (a - 1000) (by omega)).2.1).kept hS.2.1
      rw [show 1000 + (a - 1000) = a by omega] at ho
      obtain ⟨cell, c1, c2, c3, -⟩ := ho
      exact ⟨cell, c1, c2, c3⟩
  have hpre : PreV s H z.2.2.2.1.cls (g.2.2.2.1 a) (mx_Pre g (.ref a :: as) h) (as.map (mx_v g.2.2.2.1)) := ⟨mx_blind g _ h, hcell, fun U hU hW => ⟨rfl, hwd U hU hW⟩⟩
  have hini : (Cond.initialized z.2.2.2.1.cls).before args s = true := mx_gw_use hts gm.2.2.1 rfl
  have hin : (Cond.instanceMethod z.2.2.2.1).before args s = true := mx_gw_use hts gm.2.2.2.1 rfl
  have hse : (Cond.selects z.2.2.2.1.cls z.2.2.2.1 z.2.2.2.1).before args s = true := mx_gw_use hts gm.2.2.2.2 rfl
  rcases hlk with hlk | ⟨host, hlk⟩
  · refine mx_after (a9 := (Value.ref (g.2.2.2.1 a) :: as.map (mx_v g.2.2.2.1)).toArray) (rest := rest) (va_runV (C := z.2.2.2.1.cls) (As := as.map (mx_v g.2.2.2.1)) ⟨hx, hb, hml, hown, hts⟩ hM ⟨callB_of np hts (mx_goodws gm) rfl rfl rfl hini (mx_gw_use hts hlk rfl) ⟨gm.1.2.1, gm.1.2.2.1, hnp⟩ (mx_room hrk gm.1.2.2.2.1), hin, hse⟩ hpre rfl (by simpa using hlen) hl.1 hst hW8 hd ⟨Nat.zero_le _, Nat.zero_le _⟩) hS hl hn kk
  · refine mx_after (a9 := (Value.ref (g.2.2.2.1 a) :: as.map (mx_v g.2.2.2.1)).toArray) (rest := rest) (va_runVN (C := z.2.2.2.1.cls) (As := as.map (mx_v g.2.2.2.1)) ⟨hx, hb, hml, hown, hts⟩ hM ⟨va_cnB np hts (mx_goodws gm) rfl rfl rfl (hN _ (List.mem_filter.mpr ⟨hlk, rfl⟩)) hini ⟨gm.1.2.1, gm.1.2.2.1, hnp⟩ (mx_room hrk gm.1.2.2.2.1), hin, hse⟩ hpre rfl (by simpa using hlen) hl.1 hst hW8 hd ⟨Nat.zero_le _, Nat.zero_le _⟩) hS hl hn kk
end SND4
