/-! the law from its entry, over the pure statement -/
theorem mk_inst {ci : Nat} {C : String} {T : u_T} {N : Nat} (hv : vwCl[ci]? = some (C, T, N)) : Cond.instantiable C N ∈ lw_tbl :=
  match ci, hv with
  | 0, hv => by cases hv; exact mkc_0.1
  | 1, hv => by cases hv; exact mkc_1.1
  | 2, hv => by cases hv; exact mkc_2.1
  | 3, hv => by cases hv; exact mkc_3.1
  | 4, hv => by cases hv; exact mkc_4.1
  | 5, hv => by cases hv; exact mkc_5.1
  | 6, hv => by cases hv; exact mkc_6.1
  | 7, hv => by cases hv; exact mkc_7.1
  | 8, hv => by cases hv; exact mkc_8.1
  | 9, hv => by cases hv; exact mkc_9.1
  | n + 10, hv => by simp at hv
/-- the classes and array classes of the start -/
theorem lw_K {s : State} {b : Nat} (htt : ∀ w ∈ lw_tbl, w.before #[Value.ref b] s = true) : ∃ (dC : Nat → ClassId) (dI : Nat → Nat → Nat) (cA : Nat → ClassId), va_K (dC, dI) vwCl (mx_tys cA) s := by
  have hts : ∀ w ∈ mx_gw, w.before #[Value.ref b] s = true := fun w hw => htt w (List.mem_filter.mp hw).1
  have hex : ∀ k : Nat, ∃ z : ClassId × (Nat → Nat), ∀ q : vw_C, vwCl[k]? = some q → u_Kn s q.1 q.2.1 q.2.2 z.1 z.2 := by
    intro k
    cases hq : vwCl[k]? with
    | none => exact ⟨(0, id), fun q h => by cases h⟩
    | some q =>
      obtain ⟨C, T, N⟩ := q
      obtain ⟨cC, iS, hKn⟩ := u_known (C := C) (T := T) (N := N) (n := N) hts (mx_uw hq).1 (htt _ (mk_inst hq))
      exact ⟨(cC, iS), fun q h => by cases h; exact hKn⟩
  obtain ⟨cI, kI, pI, i1, i2, i3⟩ := Cond.arrayClass_spec (htt _ mk_ac_int)
  obtain ⟨cC, kC, pC, c1, c2, c3⟩ := Cond.arrayClass_spec (htt _ mk_ac_char)
  obtain ⟨cZ, kZ, pZ, z1, z2, z3⟩ := Cond.arrayClass_spec (htt _ mk_ac_boolean)
  obtain ⟨cJ, kJ, pJ, j1, j2, j3⟩ := Cond.arrayClass_spec (htt _ mk_ac_long)
  obtain ⟨pW, cW, kW, w1, -, w2, w3, w4⟩ := Cond.arrayOver_spec (htt _ mk_ao)
  refine ⟨fun k => (Classical.choose (hex k)).1, fun k => (Classical.choose (hex k)).2, fun k => match k with | 0 => cI | 1 => cC | 2 => cZ | 3 => cJ | _ => cW, fun k q hq => Classical.choose_spec (hex k) q hq, fun k q hq => ?_⟩
  match k, hq with
  | 0, hq => cases hq; exact ⟨fun n z => ⟨fun k h => (by cases h), kI, i2, pI, i3⟩, i1⟩
  | 1, hq => cases hq; exact ⟨fun n z => ⟨fun k h => (by cases h), kC, c2, pC, c3⟩, c1⟩
  | 2, hq => cases hq; exact ⟨fun n z => ⟨fun k h => (by cases h), kZ, z2, pZ, z3⟩, z1⟩
  | 3, hq => cases hq; exact ⟨fun n z => ⟨fun k h => (by cases h), kJ, j2, pJ, j3⟩, j1⟩
  | 4, hq => cases hq; exact ⟨fun n z => ⟨fun k h => (by cases h), kW, w2, pW, w3⟩, kW, pW, w2, w3, w1, w4⟩
  | k + 5, hq => simp at hq
section LWI
variable {p : Program} {l : Launch} {e : Env} {s : State} {m : MethodId} {below : List Frame} {meth : Method} {c : Code} {g : mx_G} {b : Nat}
theorem lw_init (hx : p.tables.exec = Jvm.exec) (hb : c.code = code) (hml : c.maxLocals = 4) (hown : s.vm.findClass RL = some m.cls) (hts : ∀ w ∈ mx_gw, w.before #[Value.ref b] s = true) (hK : va_K (g.1, g.2.1) vwCl (mx_tys g.2.2.1) s) (hN : mx_St2 s) (hAO : va_AO RX9 s) (hbs : g.2.2.2.2 ≤ s.heap.size) {pc : Nat} {ls : Array Slot} {H : Heap} {locs : List Loc} {cells slots : Nat} {Q : State → Prop} {z : mx_M} {ix j : Nat} {rest : List Value} {ads : List Nat} {cs cs1 : List mk_C} (gm : mk_gm z) (hzn : z.2.2.2.1.name = "<init>") (hret : z.2.2.2.2.2.2 = none) (hzd : (parseMethodDescriptor z.2.2.2.1.desc).map (fun d => d.parameters.length) = some 0) (hlk : Cond.methodLink RL ix z.2.2.2.1 ∈ lw_tbl) (hr4 : (rest.map fun v => v.category).sum ≤ 8) (hrk : z.1 ≤ 60) (hmx : z.2.2.2.2.2.1 ≤ 40) (hM : mk_Met l g z [.inl (some j)] ads cs cs1) (hP : va_P (g.1, g.2.1) vwCl (mk_W g.2.2.1 ads cs) H) (hD : va_D (mx_A g.2.2.2.2) (mk_W g.2.2.1 ads cs)) (hS : va_S (mx_A g.2.2.2.2) s.heap H locs) (hls : ls.size = 4) (hd : decode code pc = .ok (.invokespecial ix, 3)) (hcs : cells + (cs1.length - cs.length) ≤ 600000 ∧ slots + (mk_sz cs1 - mk_sz cs) ≤ 7302250)
    (kk : ∀ (more : List Nat) (H1 : Heap) (locs1 : List Loc), (ads ++ more).length = cs1.length → va_P (g.1, g.2.1) vwCl (mk_W g.2.2.1 (ads ++ more) cs1) H1 → va_D (mx_A g.2.2.2.2) (mk_W g.2.2.1 (ads ++ more) cs1) → va_S (mx_A g.2.2.2.2) s.heap H1 locs1 → W p l e room_1 s m #[Value.ref b] below meth c H1 locs1 (cells + (cs1.length - cs.length)) (slots + (mk_sz cs1 - mk_sz cs)) Q (F0 m (pc + 3) ls rest)) : W p l e room_1 s m #[Value.ref b] below meth c H locs cells slots Q (F0 m pc ls (.ref (ads.getD j 0) :: rest)) := by
  have hwd : ∀ U : State, U.heap = H → s.WarmedH U.vm → mk_Wd g ads cs U := by
    intro t ht hW
    exact ⟨va_K.moved hW.alike hK, by rw [ht]; exact hP, hD, hN.warm hW, va_AO.moved hW.alike hAO, by rw [ht]; exact Nat.le_trans hbs hS.1⟩
  have hpre : PreS s H (mk_Pre g [.inl (some j)] ads cs) (.ref (ads.getD j 0) :: ([] : List Value)) := ⟨mk_blind g _ _ cs, fun U hU hW => ⟨rfl, hwd U hU hW⟩⟩
  have hini : (Cond.initialized z.2.2.2.1.cls).before #[Value.ref b] s = true := mx_gw_use hts gm.2.2.1 rfl
  have hin : (Cond.instanceMethod z.2.2.2.1).before #[Value.ref b] s = true := mx_gw_use hts gm.2.2.2 rfl
  have hws : mx_ws z = Cond.code z.2.2.2.1 z.2.2.2.2.1 z.2.2.2.2.2.1 none :: mx_gw := by unfold mx_ws; rw [hret]
  have hroom : (mk_rm z.1 cs cs1).frames + 1 ≤ room_1.frames ∧ 8 + (z.2.2.2.2.2.1 + 11) + (mk_rm z.1 cs cs1).locals ≤ room_1.locals := ⟨by show z.1 + 1 ≤ 2048; omega, by show 8 + (z.2.2.2.2.2.1 + 11) + 64 * z.1 ≤ 84000; omega⟩
  have hrun := va_runI (g := F0 m pc ls (.ref (ads.getD j 0) :: rest)) (rest := rest) (As := []) (e := e) (below := below) (meth := meth) (locs := locs) (cells := cells) (slots := slots) ⟨hx, hb, hml, hown, hts⟩ hM ⟨callB_of 0 hts (mk_goodws gm hret) hws rfl rfl hini (mx_gw_use hts hlk rfl) ⟨gm.1.2.1, gm.1.2.2.1, hzd⟩ hroom, hzn, hin⟩ hpre rfl rfl hls rfl (by show 2 * 0 + _ ≤ 8; omega) hd ⟨hcs.1, hcs.2⟩
  intro T hT XX
  obtain ⟨v, st₀, t, T', L9, h0, X', hL9, e1, e2, ⟨⟨hv, more2, hlen2, hWd⟩, hz, hk⟩, st⟩ := hrun T hT XX
  have hv' : v = none := by cases hv; rfl
  subst hv'
  rw [h0] at hz hk
  obtain ⟨-, hP1, hD1, -⟩ := hWd
  rw [← e1] at hP1 hz hk
  have hS1 : va_S (mx_A g.2.2.2.2) s.heap T'.heap (locs ++ L9) := ⟨Nat.le_trans hS.1 hz, fun q h1 h2 => by rw [hk q (Nat.lt_of_lt_of_le h1 hS.1) h2]; exact hS.2.1 q h1 h2, fun q hq => by
    rcases List.mem_append.mp hq with z | z
    · exact hS.2.2 q z
    · exact hL9 q z⟩
  obtain ⟨t2, a1, b1⟩ := kk more2 T'.heap (locs ++ L9) hlen2 hP1 hD1 hS1 T' rfl X'
  exact ⟨t2, st t2 a1, b1⟩
end LWI
