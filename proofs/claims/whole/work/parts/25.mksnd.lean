/-! MAKE and the machine -/
theorem mk_mono : ∀ (f : Nat) (m : mx_M) (pc : Nat) (L S : List mk_V) (cs o : List mk_C), mk_run f m pc L S cs = some o → cs.length ≤ o.length ∧ mk_sz cs ≤ mk_sz o := by
  intro f
  induction f with
  | zero => intro m pc L S cs o q; cases q
  | succ f ih =>
    intro m pc L S cs o q
    rw [mk_run] at q
    cases hs : mk_step m pc L S cs with
    | none => rw [hs] at q; cases q
    | some r =>
      rw [hs] at q
      rcases r with o' | ⟨pc', S', cs'⟩ | ⟨y, as, r⟩
      · obtain ⟨h1, q⟩ := mx_if q
        cases q
        exact h1
      · obtain ⟨⟨h1, h2, -, -⟩, q⟩ := mx_if q
        have := ih _ _ _ _ _ _ q
        exact ⟨Nat.le_trans h1 this.1, Nat.le_trans h2 this.2⟩
      · dsimp only at q
        split at q
        · cases q
        · obtain ⟨⟨h1, h2, -⟩, q⟩ := mx_if q
          have := ih _ _ _ _ _ _ q
          exact ⟨Nat.le_trans h1 this.1, Nat.le_trans h2 this.2⟩
def mk_lvl (ads : List Nat) (L : List mk_V) : List (Nat × Value) := L.zipIdx.map (fun q => (q.2, mk_val ads q.1))
theorem mk_lvl_at {ads : List Nat} {L : List mk_V} {ls : Array Slot} {nL i : Nat} {v : mk_V} (h : lv_has ls nL (mk_lvl ads L)) (hi : L[i]? = some v) : ls[i]? = some (.val (mk_val ads v)) := by
  refine h.2.2 (i, mk_val ads v) ?_
  refine List.mem_map.mpr ⟨(v, i), ?_, rfl⟩
  exact List.mem_iff_getElem?.mpr ⟨i, by simp [List.getElem?_zipIdx, hi]⟩
theorem mk_lvl_app {ads more : List Nat} {L : List mk_V} (h : L.all (mk_vok ads.length) = true) : mk_lvl (ads ++ more) L = mk_lvl ads L := by
  unfold mk_lvl
  refine List.map_congr_left (fun q hq => ?_)
  obtain ⟨v, i⟩ := q
  have : v ∈ L := by
    obtain ⟨j, hj⟩ := List.mem_iff_getElem?.mp hq
    simp [List.getElem?_zipIdx] at hj
    obtain ⟨a, h1, rfl, rfl⟩ := hj
    exact List.mem_of_getElem? h1
  simp only [mk_val_app (List.all_eq_true.mp h v this)]
theorem mk_map_app {ads more : List Nat} {S : List mk_V} (h : S.all (mk_vok ads.length) = true) : S.map (mk_val (ads ++ more)) = S.map (mk_val ads) := List.map_congr_left (fun v hv => mk_val_app (List.all_eq_true.mp h v hv))
theorem mk_vok_le {n n' : Nat} (h : n ≤ n') {v : mk_V} (hv : mk_vok n v = true) : mk_vok n' v = true := by
  rcases v with (_ | i) | x | x
  · rfl
  · exact decide_eq_true (Nat.lt_of_lt_of_le (of_decide_eq_true hv) h)
  · rfl
  · rfl
theorem mk_all_le {n n' : Nat} (h : n ≤ n') {L : List mk_V} (hL : L.all (mk_vok n) = true) : L.all (mk_vok n') = true := List.all_eq_true.mpr (fun v hv => mk_vok_le h (List.all_eq_true.mp hL v hv))
def mk_Wd (g : mx_G) (ads : List Nat) (cs : List mk_C) (U : State) : Prop := va_K (g.1, g.2.1) vwCl (mx_tys g.2.2.1) U ∧ va_P (g.1, g.2.1) vwCl (mk_W g.2.2.1 ads cs) U.heap ∧ va_D (mx_A g.2.2.2.2) (mk_W g.2.2.1 ads cs) ∧ mx_St2 U ∧ va_AO RX9 U ∧ g.2.2.2.2 ≤ U.heap.size
def mk_Pre (g : mx_G) (as : List mk_V) (ads : List Nat) (cs : List mk_C) : Array Value → State → Prop := va_Pc (as.map (mk_val ads)) (mk_Wd g ads cs)
def mk_Post (g : mx_G) (ads : List Nat) (cs : List mk_C) : Array Value → State → Outcome → State → Prop := fun _ st oc t => (oc = .returned none ∧ ∃ more : List Nat, (ads ++ more).length = cs.length ∧ mk_Wd g (ads ++ more) cs t) ∧ va_F (mx_A g.2.2.2.2) st t
abbrev mk_rm (r : Nat) (cs cs' : List mk_C) : Room := { frames := r, cells := cs'.length - cs.length, slots := mk_sz cs' - mk_sz cs, locals := 64 * r }
def mk_Met (l : Launch) (g : mx_G) (y : mx_M) (as : List mk_V) (ads : List Nat) (cs cs' : List mk_C) : Prop := Met l y.2.2.2.1 (mx_ws y) (mk_rm y.1 cs cs') (mk_Pre g as ads cs) (mk_Post g ads cs') (cs'.length - cs.length) (mk_sz cs' - mk_sz cs) (mx_A g.2.2.2.2)
theorem mk_blind (g : mx_G) (as : List mk_V) (ads : List Nat) (cs : List mk_C) : FrameBlind (mk_Pre g as ads cs) := by
  intro a U f mk q
  obtain ⟨q0, q1, q2, q3, q5, q6, q7⟩ := q
  exact ⟨q0, va_K.moved (u := U) (U := U.calling f mk a) (Vm.Alike.refl U.vm) q1, q2, q3, mx_St2.same (u := U) (U := U.calling f mk a) rfl q5, va_AO.moved (u := U) (U := U.calling f mk a) (Vm.Alike.refl U.vm) q6, q7⟩
def mk_Fx (p : Program) (s : State) (m : MethodId) (args : Array Value) (meth : Method) (c : Code) (g : mx_G) (y : mx_M) : Prop :=
  p.tables.exec = Jvm.exec ∧ c.code = y.2.2.2.2.1 ∧ c.maxLocals = y.2.2.2.2.2.1 ∧ meth.sig.returnType = none ∧ s.vm.findClass (mx_cn y.2.2.1) = some m.cls ∧ (∀ w ∈ mx_gw, w.before args s = true) ∧ meth.locks = false ∧ meth.name = "<init>" ∧ va_K (g.1, g.2.1) vwCl (mx_tys g.2.2.1) s ∧ mx_St2 s ∧ va_AO RX9 s ∧ g.2.2.2.2 ≤ s.heap.size
/-- a frame of a constructor: cs0, ads0 are the cells at its entry, cs' those at its end -/
def mk_Ok (p : Program) (l : Launch) (e : Env) (s : State) (m : MethodId) (args : Array Value) (below : List Frame) (meth : Method) (c : Code) (g : mx_G) (y : mx_M) (ads0 : List Nat) (cs0 cs' : List mk_C) (pc : Nat) (L S : List mk_V) (cs : List mk_C) : Prop :=
  ∀ (more : List Nat) (H : Heap) (locs : List Loc) (ls : Array Slot), (ads0 ++ more).length = cs.length → cs0.length ≤ cs.length → mk_sz cs0 ≤ mk_sz cs → cs.all (mk_cok cs.length) = true → va_P (g.1, g.2.1) vwCl (mk_W g.2.2.1 (ads0 ++ more) cs) H → va_D (mx_A g.2.2.2.2) (mk_W g.2.2.1 (ads0 ++ more) cs) → va_S (mx_A g.2.2.2.2) s.heap H locs → lv_has ls y.2.2.2.2.2.1 (mk_lvl (ads0 ++ more) L) → L.all (mk_vok cs.length) = true → S.all (mk_vok cs.length) = true → W p l e (mk_rm y.1 cs0 cs') s m args below meth c H locs (cs.length - cs0.length) (mk_sz cs - mk_sz cs0) (MQ below (mk_Post g ads0 cs') args s (cs'.length - cs0.length) (mk_sz cs' - mk_sz cs0) (mx_A g.2.2.2.2)) (F0 m pc ls (S.map (mk_val (ads0 ++ more))))
theorem mk_def_ok {ci : Nat} {C : String} {T : u_T} {N : Nat} (hv : vwCl[ci]? = some (C, T, N)) : ∃ ty : Nat → FieldType, (∀ k, k < N → parseFieldDescriptor (T k).2.2.1 = some (ty k)) ∧ (∀ (ads : List Nat) (j : Nat), j < N → defaultValue (ty j) = vp_V ((mk_def ci).map (mk_val ads)) j) ∧ ∀ n, (mk_def ci).all (mk_vok n) = true :=
  match ci, hv with
  | 0, hv => by cases hv; exact ⟨tyX1, tyX1_ok, fun ads => (by decide +kernel : ∀ j, j < 7 → defaultValue (tyX1 j) = vp_V ((mk_def 0).map (mk_val [])) j), fun _ => rfl⟩
  | 1, hv => by cases hv; exact ⟨tyX2, tyX2_ok, fun ads => (by decide +kernel : ∀ j, j < 5 → defaultValue (tyX2 j) = vp_V ((mk_def 1).map (mk_val [])) j), fun _ => rfl⟩
  | 2, hv => by cases hv; exact ⟨tyX3, tyX3_ok, fun ads => (by decide +kernel : ∀ j, j < 6 → defaultValue (tyX3 j) = vp_V ((mk_def 2).map (mk_val [])) j), fun _ => rfl⟩
  | 3, hv => by cases hv; exact ⟨tyX4, tyX4_ok, fun ads => (by decide +kernel : ∀ j, j < 12 → defaultValue (tyX4 j) = vp_V ((mk_def 3).map (mk_val [])) j), fun _ => rfl⟩
  | 4, hv => by cases hv; exact ⟨tyX5, tyX5_ok, fun ads => (by decide +kernel : ∀ j, j < 10 → defaultValue (tyX5 j) = vp_V ((mk_def 4).map (mk_val [])) j), fun _ => rfl⟩
  | 5, hv => by cases hv; exact ⟨tyX6, tyX6_ok, fun ads => (by decide +kernel : ∀ j, j < 14 → defaultValue (tyX6 j) = vp_V ((mk_def 5).map (mk_val [])) j), fun _ => rfl⟩
  | 6, hv => by cases hv; exact ⟨tyX7, tyX7_ok, fun ads => (by decide +kernel : ∀ j, j < 5 → defaultValue (tyX7 j) = vp_V ((mk_def 6).map (mk_val [])) j), fun _ => rfl⟩
  | 7, hv => by cases hv; exact ⟨tyX8, tyX8_ok, fun ads => (by decide +kernel : ∀ j, j < 6 → defaultValue (tyX8 j) = vp_V ((mk_def 7).map (mk_val [])) j), fun _ => rfl⟩
  | 8, hv => by cases hv; exact ⟨tyX10, tyX10_ok, fun ads => (by decide +kernel : ∀ j, j < 11 → defaultValue (tyX10 j) = vp_V ((mk_def 8).map (mk_val [])) j), fun _ => rfl⟩
  | 9, hv => by cases hv; exact ⟨tyX11, tyX11_ok, fun ads => (by decide +kernel : ∀ j, j < 41 → defaultValue (tyX11 j) = vp_V ((mk_def 9).map (mk_val [])) j), fun _ => rfl⟩
  | n + 10, hv => by simp at hv
section MKS
variable {p : Program} {l : Launch} {e : Env} {s : State} {m : MethodId} {args : Array Value} {below : List Frame} {meth : Method} {c : Code} {g : mx_G} {y : mx_M} {ads0 : List Nat} {cs0 cs' : List mk_C} {pc : Nat} {L S : List mk_V} {cs : List mk_C}
/-- behind an instruction that makes the cell d, at the address q -/
theorem mk_grow {d : mk_C} {more : List Nat} {H : Heap} {locs : List Loc} {ls : Array Slot} {q pc' n' : Nat} (hpc : pc' = pc + n') (h1 : (ads0 ++ more).length = cs.length) (hc0 : cs0.length ≤ cs.length) (hs0 : mk_sz cs0 ≤ mk_sz cs) (hcs : cs.all (mk_cok cs.length) = true) (hd : mk_cok (cs.length + 1) d = true) (hL : L.all (mk_vok cs.length) = true) (hS : S.all (mk_vok cs.length) = true)
    (kk : mk_Ok p l e s m args below meth c g y ads0 cs0 cs' pc' L (.inl (some cs.length) :: S) (cs ++ [d])) (hl : lv_has ls y.2.2.2.2.2.1 (mk_lvl (ads0 ++ more) L)) (hcok : (cs ++ [d]).all (mk_cok (cs ++ [d]).length) = true)
    (hP : va_P (g.1, g.2.1) vwCl (mk_W g.2.2.1 (ads0 ++ more) cs ++ [(q, mk_cell g.2.2.1 (ads0 ++ more ++ [q]) d)]) H) (hD : va_D (mx_A g.2.2.2.2) (mk_W g.2.2.1 (ads0 ++ more) cs ++ [(q, mk_cell g.2.2.1 (ads0 ++ more ++ [q]) d)])) (hS1 : va_S (mx_A g.2.2.2.2) s.heap H locs) : W p l e (mk_rm y.1 cs0 cs') s m args below meth c H locs (cs.length - cs0.length + 1) (mk_sz cs - mk_sz cs0 + mk_sz [d]) (MQ below (mk_Post g ads0 cs') args s (cs'.length - cs0.length) (mk_sz cs' - mk_sz cs0) (mx_A g.2.2.2.2)) (F0 m pc' ls (.ref q :: S.map (mk_val (ads0 ++ more)))) := by
  have e1 : ads0 ++ (more ++ [q]) = ads0 ++ more ++ [q] := by simp
  have hpush := mk_W_push (cA := g.2.2.1) (c := d) q h1 hcs
  have hlen : (cs ++ [d]).length = cs.length + 1 := by simp
  have hszd : mk_sz (cs ++ [d]) = mk_sz cs + mk_sz [d] := mk_sz_app _ _
  have k1 := kk (more ++ [q]) H locs ls (by rw [e1, List.length_append, h1, hlen]; rfl) (by omega) (by omega) hcok (by rw [e1, hpush]; exact hP) (by rw [e1, hpush]; exact hD) hS1 (by rw [e1, mk_lvl_app (by rw [h1]; exact hL)]; exact hl) (mk_all_le (by omega) hL) (by
    simp only [List.all_cons, Bool.and_eq_true]
    exact ⟨decide_eq_true (by omega), mk_all_le (by omega) hS⟩)
  rw [e1] at k1
  have e2 : (Sum.inl (some cs.length) :: S : List mk_V).map (mk_val (ads0 ++ more ++ [q])) = .ref q :: S.map (mk_val (ads0 ++ more)) := by
    simp only [List.map_cons]
    rw [mk_map_app (by rw [h1]; exact hS)]
    congr 1
    simp only [mk_val]
    rw [List.getD_eq_getElem?_getD, ← h1]
    simp
  rw [e2] at k1
  rw [show cs.length - cs0.length + 1 = (cs ++ [d]).length - cs0.length by omega, show mk_sz cs - mk_sz cs0 + mk_sz [d] = mk_sz (cs ++ [d]) - mk_sz cs0 by omega]
  exact k1
end MKS
