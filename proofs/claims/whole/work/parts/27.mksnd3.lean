/-! MAKE and the machine: calls, and all steps together -/
def mk_isr (v : mk_V) : Bool := match v with
  | .inl (some _) => true
  | _ => false
theorem mk_isr_val {ads : List Nat} {v : mk_V} (h : mk_isr v = true) : ∃ j, v = .inl (some j) ∧ mk_val ads v = .ref (ads.getD j 0) := by
  rcases v with (_ | j) | x | x
  · cases h
  · exact ⟨j, rfl, rfl⟩
  · cases h
  · cases h
theorem mk_args_lv (ads : List Nat) : ∀ (as : List mk_V) (k : Nat), as.all mk_isr = true → lv_args k (as.map (mk_val ads)) = (as.zipIdx k).map (fun q => (q.2, mk_val ads q.1)) := by
  intro as
  induction as with
  | nil => intro k _; rfl
  | cons v r ih =>
    intro k h
    simp only [List.all_cons, Bool.and_eq_true] at h
    obtain ⟨j, rfl, hv⟩ := mk_isr_val (ads := ads) h.1
    simp only [List.map_cons, List.zipIdx_cons]
    rw [← ih (k + 1) h.2]
    rfl
theorem mk_args_len (ads : List Nat) : ∀ (as : List mk_V), as.all mk_isr = true → (lg_sl (as.map (mk_val ads))).length = as.length := by
  intro as
  induction as with
  | nil => intro _; rfl
  | cons v r ih =>
    intro h
    simp only [List.all_cons, Bool.and_eq_true] at h
    obtain ⟨j, rfl, hv⟩ := mk_isr_val (ads := ads) h.1
    have := ih h.2
    simp only [List.map_cons, List.length_cons]
    rw [← this]
    simp [lg_sl, mk_val, Value.category]
theorem mk_cat_le (ads : List Nat) (r : List mk_V) : ((r.map (mk_val ads)).map fun v => v.category).sum ≤ 2 * r.length := by
  induction r with
  | nil => exact Nat.le_refl _
  | cons v r ih =>
    have : (mk_val ads v).category ≤ 2 := by
      rcases v with (_ | j) | x | x <;> simp [mk_val, Value.category]
    simp only [List.map_cons, List.sum_cons, List.length_cons]
    omega
/-- what is known of a constructor -/
def mk_gm (y : mx_M) : Prop := (plainName y.2.2.2.1.cls = true ∧ y.2.2.2.1.cls ≠ "java/lang/invoke/MethodHandle" ∧ y.2.2.2.1.cls ≠ "java/lang/invoke/VarHandle" ∧ y.2.2.2.1.cls = mx_cn y.2.2.1) ∧ Cond.code y.2.2.2.1 y.2.2.2.2.1 y.2.2.2.2.2.1 none ∈ lw_tbl ∧ Cond.initialized y.2.2.2.1.cls ∈ lw_tbl ∧ Cond.instanceMethod y.2.2.2.1 ∈ lw_tbl
theorem mk_goodws {y : mx_M} (hg : mk_gm y) (hr : y.2.2.2.2.2.2 = none) : GoodIn mx_gw (mx_ws y) := by
  intro w hw
  rcases List.mem_cons.mp hw with rfl | hw
  · rw [hr]; exact mx_good (mx_gw_of hg.2.1 rfl)
  · exact mx_good hw
section MKS3
variable {p : Program} {l : Launch} {e : Env} {s : State} {m : MethodId} {args : Array Value} {below : List Frame} {meth : Method} {c : Code} {g : mx_G} {y : mx_M} {ads0 : List Nat} {cs0 cs' : List mk_C} {pc : Nat} {L S : List mk_V} {cs : List mk_C}
theorem mk_met_of {as : List mk_V} {ads : List Nat} (gm : mk_gm y) (hnm : y.2.2.2.1.name = "<init>") (hret : y.2.2.2.2.2.2 = none) (has : as.all mk_isr = true) (hlen : as.length ≤ y.2.2.2.2.2.1) (hads : ads.length = cs.length) (hcs : cs.all (mk_cok cs.length) = true) (hvok : as.all (mk_vok cs.length) = true) (hok : ∀ (p : Program) (e : Env) (s : State) (m : MethodId) (args : Array Value) (below : List Frame) (meth : Method) (c : Code), mk_Fx p s m args meth c g y → mk_Ok p l e s m args below meth c g y ads cs cs' 0 as [] cs) : mk_Met l g y as ads cs cs' := by
  refine Met.ofW (cc := y.2.2.2.2.1) (maxL := y.2.2.2.2.2.1) (ret := none) gm.1.1 (by unfold mx_ws; rw [hret]) ?_
  intro p e s m args below meth c s₁ B hml hv
  obtain ⟨rfl, hK, hP, hD, hN, hAO, hsz⟩ := hv
  have hown : s.vm.findClass (mx_cn y.2.2.1) = some m.cls := by
    have := findClass_of_methodNamed B.named
    rw [gm.1.2.2.2] at this
    exact this
  have hmn : meth.name = "<init>" := by rw [(name_of_methodNamed B.named B.method).1, hnm]
  have X : mk_Fx p s m (as.map (mk_val ads)).toArray meth c g y := ⟨B.exec, B.bytes, hml, B.returns, hown, fun w hw => atoms_spec (ws := mx_ws y) B.pre w (List.mem_cons_of_mem _ hw), B.notSynchronized, hmn, hK, hN, hAO, hsz⟩
  rw [lg_entry_eq]
  have hl := lv_entry (as.map (mk_val ads)) (n := y.2.2.2.2.2.1) (by rw [mk_args_len ads as has]; exact hlen)
  rw [mk_args_lv ads as 0 has] at hl
  have k1 := hok p e s m _ below meth c X [] s.heap [] _ (by simpa using hads) (Nat.le_refl _) (Nat.le_refl _) hcs (by rw [List.append_nil]; exact hP) (by rw [List.append_nil]; exact hD) va_S.rf (by rw [List.append_nil]; exact hl) hvok rfl
  rw [Nat.sub_self, Nat.sub_self] at k1
  exact k1
theorem mk_ok_call (X : mk_Fx p s m args meth c g y) {ix np : Nat} {z : mx_M} {as rest : List mk_V} {cs1 : List mk_C} (hlk : mx_LM y.2.2.1 ix z.2.2.2.1) (gm : mk_gm z) (hzn : z.2.2.2.1.name = "<init>") (hnp : (parseMethodDescriptor z.2.2.2.1.desc).map (fun d => d.parameters.length) = some np) (hmx : z.2.2.2.2.2.1 ≤ 40) (hret : z.2.2.2.2.2.2 = none) (has : as.all mk_isr = true) (hlen : as.length = np + 1) (hr4 : rest.length ≤ 4) (hrk : z.1 < y.1) (hmono : cs.length ≤ cs1.length ∧ mk_sz cs ≤ mk_sz cs1) (hmono2 : cs1.length ≤ cs'.length ∧ mk_sz cs1 ≤ mk_sz cs') (hcs1 : cs1.all (mk_cok cs1.length) = true) (hM : ∀ ads : List Nat, ads.length = cs.length → mk_Met l g z as ads cs cs1) (hd : decode y.2.2.2.2.1 pc = .ok (.invokespecial ix, 3)) (kk : mk_Ok p l e s m args below meth c g y ads0 cs0 cs' (pc + 3) L rest cs1) : mk_Ok p l e s m args below meth c g y ads0 cs0 cs' pc L (as.reverse ++ rest) cs := by
  intro more H locs ls h1 hc0 hs0 hcs hP hD hS hl hL hSv
  obtain ⟨hx, hb, hml, hr, hown, hts, hlk0, hnm, hK, hN, hAO, hbs⟩ := X
  obtain ⟨v0, as', rfl⟩ : ∃ v0 as', as = v0 :: as' := by
    cases as with
    | nil => simp at hlen
    | cons v r => exact ⟨v, r, rfl⟩
  have has0 := has
  simp only [List.all_cons, Bool.and_eq_true] at has0
  obtain ⟨j, rfl, hv0⟩ := mk_isr_val (ads := ads0 ++ more) has0.1
  have hW8 : 2 * (F0 m pc ls (((Sum.inl (some j) :: as' : List mk_V).reverse ++ rest).map (mk_val (ads0 ++ more)))).monitorRoom + ((rest.map (mk_val (ads0 ++ more))).map fun v => v.category).sum ≤ 8 := by
    have := mk_cat_le (ads0 ++ more) rest
    show 2 * 0 + _ ≤ 8
    omega
  have hst : (F0 m pc ls (((Sum.inl (some j) :: as' : List mk_V).reverse ++ rest).map (mk_val (ads0 ++ more)))).stack = (as'.map (mk_val (ads0 ++ more))).reverse ++ .ref ((ads0 ++ more).getD j 0) :: rest.map (mk_val (ads0 ++ more)) := by simp [mk_val]
  have hwd : ∀ U : State, U.heap = H → s.WarmedH U.vm → mk_Wd g (ads0 ++ more) cs U := by
    intro t ht hW
    exact ⟨va_K.moved hW.alike hK, by rw [ht]; exact hP, hD, hN.warm hW, va_AO.moved hW.alike hAO, by rw [ht]; exact Nat.le_trans hbs hS.1⟩
  have hpre : PreS s H (mk_Pre g (.inl (some j) :: as') (ads0 ++ more) cs) (.ref ((ads0 ++ more).getD j 0) :: as'.map (mk_val (ads0 ++ more))) := ⟨mk_blind g _ _ cs, fun U hU hW => ⟨rfl, hwd U hU hW⟩⟩
  have hini : (Cond.initialized z.2.2.2.1.cls).before args s = true := mx_gw_use hts gm.2.2.1 rfl
  have hin : (Cond.instanceMethod z.2.2.2.1).before args s = true := mx_gw_use hts gm.2.2.2 rfl
  have hroom : (mk_rm z.1 cs cs1).frames + 1 ≤ (mk_rm y.1 cs0 cs').frames ∧ 8 + (z.2.2.2.2.2.1 + 11) + (mk_rm z.1 cs cs1).locals ≤ (mk_rm y.1 cs0 cs').locals := ⟨hrk, by show 8 + (z.2.2.2.2.2.1 + 11) + 64 * z.1 ≤ 64 * y.1; omega⟩
  have hfit : cs.length - cs0.length + (cs1.length - cs.length) ≤ (mk_rm y.1 cs0 cs').cells ∧ mk_sz cs - mk_sz cs0 + (mk_sz cs1 - mk_sz cs) ≤ (mk_rm y.1 cs0 cs').slots := ⟨by show _ ≤ cs'.length - cs0.length; omega, by show _ ≤ mk_sz cs' - mk_sz cs0; omega⟩
  have hn : as'.length = np := by simpa using hlen
  have hws : mx_ws z = Cond.code z.2.2.2.1 z.2.2.2.2.1 z.2.2.2.2.2.1 none :: mx_gw := by unfold mx_ws; rw [hret]
  have hrun : va_Run p l e (mk_rm y.1 cs0 cs') s m args below meth c H locs (cs.length - cs0.length) (mk_sz cs - mk_sz cs0) (cs1.length - cs.length) (mk_sz cs1 - mk_sz cs) (F0 m pc ls (((Sum.inl (some j) :: as' : List mk_V).reverse ++ rest).map (mk_val (ads0 ++ more)))) (rest.map (mk_val (ads0 ++ more))) (mk_Post g (ads0 ++ more) cs1 (Value.ref ((ads0 ++ more).getD j 0) :: as'.map (mk_val (ads0 ++ more))).toArray) (mx_A g.2.2.2.2) := by
    rcases hlk with hlk | ⟨host, hlk⟩
    · exact va_runI ⟨hx, hb, hml, hown, hts⟩ (hM (ads0 ++ more) h1) ⟨callB_of np hts (mk_goodws gm hret) hws rfl rfl hini (mx_gw_use hts hlk rfl) ⟨gm.1.2.1, gm.1.2.2.1, hnp⟩ hroom, hzn, hin⟩ hpre rfl (by simpa using hn) hl.1 hst hW8 hd hfit
    · exact va_runIN ⟨hx, hb, hml, hown, hts⟩ (hM (ads0 ++ more) h1) ⟨va_cnB np hts (mk_goodws gm hret) hws rfl rfl (hN _ (List.mem_filter.mpr ⟨hlk, rfl⟩)) hini ⟨gm.1.2.1, gm.1.2.2.1, hnp⟩ hroom, hzn, hin⟩ hpre rfl (by simpa using hn) hl.1 hst hW8 hd hfit
  intro T hT XX
  obtain ⟨v, st₀, t, T', L9, h0, X', hL9, e1, e2, ⟨⟨hv, more2, hlen2, hWd⟩, hz, hk⟩, st⟩ := hrun T hT XX
  have hv' : v = none := by cases hv; rfl
  subst hv'
  rw [h0] at hz hk
  obtain ⟨-, hP1, hD1, -⟩ := hWd
  rw [← e1] at hP1 hz hk
  have hS1 : va_S (mx_A g.2.2.2.2) s.heap T'.heap (locs ++ L9) := ⟨Nat.le_trans hS.1 hz, fun q h1 h2 => by rw [hk q (Nat.lt_of_lt_of_le h1 hS.1) h2]; exact hS.2.1 q h1 h2, fun q hq => by
    rcases List.mem_append.mp hq with z | z
    · exact hS.2.2 q z
    · exact hL9 q z⟩
  have ea : ads0 ++ (more ++ more2) = ads0 ++ more ++ more2 := by simp
  have hSr : rest.all (mk_vok cs.length) = true := by
    have h9 := hSv
    rw [List.all_append, Bool.and_eq_true] at h9
    exact h9.2
  have k1 := kk (more ++ more2) T'.heap (locs ++ L9) ls (by rw [ea]; exact hlen2) (by omega) (by omega) hcs1 (by rw [ea]; exact hP1) (by rw [ea]; exact hD1) hS1 (by rw [ea, mk_lvl_app (by rw [h1]; exact hL)]; exact hl) (mk_all_le hmono.1 hL) (mk_all_le hmono.1 hSr)
  rw [ea, mk_map_app (by rw [h1]; exact hSr)] at k1
  rw [show cs1.length - cs0.length = cs.length - cs0.length + (cs1.length - cs.length) by omega, show mk_sz cs1 - mk_sz cs0 = mk_sz cs - mk_sz cs0 + (mk_sz cs1 - mk_sz cs) by omega] at k1
  obtain ⟨t2, a1, b1⟩ := k1 T' rfl X'
  exact ⟨t2, st t2 a1, b1⟩
end MKS3
