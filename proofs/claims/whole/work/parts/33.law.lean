/-! the law: a call of a method of the world, and its loop, over one pure statement -/
section LW
variable {p : Program} {l : Launch} {e : Env} {s : State} {m : MethodId} {below : List Frame} {meth : Method} {c : Code} {g : mx_G} {b : Nat}
theorem lw_call (hx : p.tables.exec = Jvm.exec) (hb : c.code = code) (hml : c.maxLocals = 4) (hown : s.vm.findClass RL = some m.cls) (hts : ∀ w ∈ mx_gw, w.before #[Value.ref b] s = true) (hK : va_K (g.1, g.2.1) vwCl (mx_tys g.2.2.1) s) (hSt : mx_St1 g.2.2.2.1 (mx_A g.2.2.2.2) s s.heap) (hN : mx_St2 s) (hI : mx_Inj g.2.2.2.1) (hbs : g.2.2.2.2 ≤ s.heap.size) {pc : Nat} {ls : Array Slot} {H : Heap} {locs : List Loc} {cells slots : Nat} {Q : State → Prop} {z : mx_M} {np a ix : Nat} {as rest : List Value} {r : Int32} {h h1 : mx_H} {fk : List (Nat ⊕ Bool)} (gm : mx_gm z false) (hlk : Cond.methodLink RL ix z.2.2.2.1 ∈ lw_tbl) (hnp : (parseMethodDescriptor z.2.2.2.1.desc).map (fun d => d.parameters.length) = some np) (hlen : as.length = np) (hr4 : mx_ws8 rest ≤ 8) (hrk : mx_rank z (.ref a :: as) ≤ 60) (hsh : mx_shp a = some (.inl (mx_ci z.2.2.1, fk))) (hci : mx_ci z.2.2.1 < 10) (hlay : (mx_lay (.ref a :: as)).length ≤ z.2.2.2.2.2.1) (hC : mx_C z (.ref a :: as) h = some (some (.int r), h1)) (hP : va_P (g.1, g.2.1) vwCl (mx_W g.2.2.1 g.2.2.2.1 h) H) (hD : va_D (mx_A g.2.2.2.2) (mx_W g.2.2.1 g.2.2.2.1 h)) (hS : va_S (mx_A g.2.2.2.2) s.heap H locs) (hls : ls.size = 4) (hd : decode code pc = .ok (.invokevirtual ix, 3)) (hcs : cells ≤ 600000 ∧ slots ≤ 7302250)
    (kk : ∀ (H1 : Heap) (locs1 : List Loc), va_P (g.1, g.2.1) vwCl (mx_W g.2.2.1 g.2.2.2.1 h1) H1 → va_D (mx_A g.2.2.2.2) (mx_W g.2.2.1 g.2.2.2.1 h1) → va_S (mx_A g.2.2.2.2) s.heap H1 locs1 → W p l e room_1 s m #[Value.ref b] below meth c H1 locs1 cells slots Q (F0 m (pc + 3) ls (.int r :: rest.map (mx_v g.2.2.2.1)))) : W p l e room_1 s m #[Value.ref b] below meth c H locs cells slots Q (F0 m pc ls ((as.map (mx_v g.2.2.2.1)).reverse ++ .ref (g.2.2.2.1 a) :: rest.map (mx_v g.2.2.2.1))) := by
  have hM : mx_Met l g z (.ref a :: as) h (some (.int r), h1) := mx_met (mx_biok l g) gm hlay hC
  have hwd : ∀ U : State, U.heap = H → s.WarmedH U.vm → mx_Wd g h U := by
    intro t ht hW
    refine ⟨va_K.moved hW.alike hK, by rw [ht]; exact hP, hD, ?_, hN.warm hW, hI, ?_⟩
    · rw [ht]
      exact (hSt.kept hS.2.1).moved hW.alike
    · rw [ht]
      exact Nat.le_trans hbs hS.1
  have hW8 : 2 * (F0 m pc ls ((as.map (mx_v g.2.2.2.1)).reverse ++ .ref (g.2.2.2.1 a) :: rest.map (mx_v g.2.2.2.1))).monitorRoom + ((rest.map (mx_v g.2.2.2.1)).map fun v => v.category).sum ≤ 8 := by
    have := mx_cat_le g.2.2.2.1 rest
    show 2 * 0 + _ ≤ 8
    omega
  have hcell : ∃ cellB : Cell, H[g.2.2.2.1 a]? = some cellB ∧ cellB.vm.isStatics = false ∧ s.vm.findClass z.2.2.2.1.cls = some cellB.cls := by
    rw [gm.1.2.2.2.2]
    obtain ⟨T, N, hv⟩ := mx_ci_cn hci
    exact va_recv hK hP hv (mx_W_get hsh)
  have hpre : PreV s H z.2.2.2.1.cls (g.2.2.2.1 a) (mx_Pre g (.ref a :: as) h) (as.map (mx_v g.2.2.2.1)) := ⟨mx_blind g _ h, hcell, fun U hU hW => ⟨rfl, hwd U hU hW⟩⟩
  have hini : (Cond.initialized z.2.2.2.1.cls).before #[Value.ref b] s = true := mx_gw_use hts gm.2.2.1 rfl
  have hin : (Cond.instanceMethod z.2.2.2.1).before #[Value.ref b] s = true := mx_gw_use hts gm.2.2.2.1 rfl
  have hse : (Cond.selects z.2.2.2.1.cls z.2.2.2.1 z.2.2.2.1).before #[Value.ref b] s = true := mx_gw_use hts gm.2.2.2.2 rfl
  have hroom : (mx_rm (mx_rank z (.ref a :: as))).frames + 1 ≤ room_1.frames ∧ 8 + (z.2.2.2.2.2.1 + 11) + (mx_rm (mx_rank z (.ref a :: as))).locals ≤ room_1.locals := by
    have := gm.1.2.2.2.1
    refine ⟨?_, ?_⟩
    · show mx_rank z (.ref a :: as) + 1 ≤ 2048
      omega
    · show 8 + (z.2.2.2.2.2.1 + 11) + 64 * mx_rank z (.ref a :: as) ≤ 84000
      omega
  have hrun := va_runV (C := z.2.2.2.1.cls) (As := as.map (mx_v g.2.2.2.1)) (g := F0 m pc ls ((as.map (mx_v g.2.2.2.1)).reverse ++ .ref (g.2.2.2.1 a) :: rest.map (mx_v g.2.2.2.1))) (rest := rest.map (mx_v g.2.2.2.1)) (e := e) (below := below) (meth := meth) (locs := locs) (cells := cells) (slots := slots) ⟨hx, hb, hml, hown, hts⟩ hM ⟨callB_of np hts (mx_goodws gm) rfl rfl rfl hini (mx_gw_use hts hlk rfl) ⟨gm.1.2.1, gm.1.2.2.1, hnp⟩ hroom, hin, hse⟩ hpre rfl (by simpa using hlen) hls rfl hW8 hd ⟨hcs.1, hcs.2⟩
  intro T hT X
  obtain ⟨v, st₀, t, T', L9, h0, X', hL, e1, e2, ⟨⟨hv, hWd⟩, hz, hk⟩, st⟩ := hrun T hT X
  have hv' : v = some (.int r) := by cases hv; rfl
  subst hv'
  rw [h0] at hz hk
  obtain ⟨-, hP1, hD1, -⟩ := hWd
  rw [← e1] at hP1 hz hk
  have hS1 : va_S (mx_A g.2.2.2.2) s.heap T'.heap (locs ++ L9) := ⟨Nat.le_trans hS.1 hz, fun q h1 h2 => by rw [hk q (Nat.lt_of_lt_of_le h1 hS.1) h2]; exact hS.2.1 q h1 h2, fun q hq => by
    rcases List.mem_append.mp hq with z | z
    · exact hS.2.2 q z
    · exact hL q z⟩
  obtain ⟨t2, a1, b1⟩ := kk T'.heap (locs ++ L9) hP1 hD1 hS1 T' rfl X'
  exact ⟨t2, st t2 a1, b1⟩
end LW
/-- the one pure statement: for every call class and reference answer alike, and the invariant holds again -/
def mx_Pure (Inv : mx_H → Prop) : Prop := (∀ h, Inv h → ∀ (a1 a2 : Int32), ∃ (r : Int32) (h1 h2 : mx_H), mx_C mm_X10_type [.ref 0, .int a1, .int a2] h = some (some (.int r), h1) ∧ mx_C mm_X11_type [.ref 47, .int a1, .int a2] h1 = some (some (.int r), h2) ∧ Inv h2) ∧
  (∀ h, Inv h → ∃ (r : Int32) (h1 h2 : mx_H), mx_C mm_X10_command [.ref 0] h = some (some (.int r), h1) ∧ mx_C mm_X11_command [.ref 47] h1 = some (some (.int r), h2) ∧ Inv h2) ∧
  (∀ h, Inv h → ∃ (r : Int32) (h1 h2 : mx_H), mx_C mm_X10_check [.ref 0] h = some (some (.int r), h1) ∧ mx_C mm_X11_check [.ref 47] h1 = some (some (.int r), h2) ∧ Inv h2) ∧
  (∀ h, Inv h → ∀ (a1 : Int32), ∃ (r : Int32) (h1 h2 : mx_H), mx_C mm_X10_value [.ref 0, .int a1] h = some (some (.int r), h1) ∧ mx_C mm_X11_value [.ref 47, .int a1] h1 = some (some (.int r), h2) ∧ Inv h2) ∧
  (∀ h, Inv h → ∀ (a1 : Int32), ∃ (r : Int32) (h1 h2 : mx_H), mx_C mm_X10_core [.ref 0, .int a1] h = some (some (.int r), h1) ∧ mx_C mm_X11_core [.ref 47, .int a1] h1 = some (some (.int r), h2) ∧ Inv h2) ∧
  (∀ h, Inv h → ∀ (a1 a2 : Int32), ∃ (r : Int32) (h1 h2 : mx_H), mx_C mm_X10_holds [.ref 0, .int a1, .int a2] h = some (some (.int r), h1) ∧ mx_C mm_X11_holds [.ref 47, .int a1, .int a2] h1 = some (some (.int r), h2) ∧ Inv h2) ∧
  (∀ h, Inv h → ∃ (r : Int32) (h1 h2 : mx_H), mx_C mm_X10_terms [.ref 0] h = some (some (.int r), h1) ∧ mx_C mm_X11_terms [.ref 47] h1 = some (some (.int r), h2) ∧ Inv h2) ∧
  (∀ h, Inv h → ∀ (a1 : Int32), ∃ (r : Int32) (h1 h2 : mx_H), mx_C mm_X10_count [.ref 0, .int a1] h = some (some (.int r), h1) ∧ mx_C mm_X11_count [.ref 47, .int a1] h1 = some (some (.int r), h2) ∧ Inv h2)
theorem lk_law_13 : Cond.methodLink RL 13 yX10_type ∈ lw_tbl := List.mem_of_getElem? (i := 431) (by decide +kernel)
theorem lk_law_17 : Cond.methodLink RL 17 yX11_type ∈ lw_tbl := List.mem_of_getElem? (i := 1192) (by decide +kernel)
theorem lk_law_18 : Cond.methodLink RL 18 yX10_command ∈ lw_tbl := List.mem_of_getElem? (i := 442) (by decide +kernel)
theorem lk_law_22 : Cond.methodLink RL 22 yX11_command ∈ lw_tbl := List.mem_of_getElem? (i := 1199) (by decide +kernel)
theorem lk_law_23 : Cond.methodLink RL 23 yX10_check ∈ lw_tbl := List.mem_of_getElem? (i := 901) (by decide +kernel)
theorem lk_law_26 : Cond.methodLink RL 26 yX11_check ∈ lw_tbl := List.mem_of_getElem? (i := 1390) (by decide +kernel)
theorem lk_law_27 : Cond.methodLink RL 27 yX10_value ∈ lw_tbl := List.mem_of_getElem? (i := 1021) (by decide +kernel)
theorem lk_law_31 : Cond.methodLink RL 31 yX11_value ∈ lw_tbl := List.mem_of_getElem? (i := 1402) (by decide +kernel)
theorem lk_law_32 : Cond.methodLink RL 32 yX10_core ∈ lw_tbl := List.mem_of_getElem? (i := 1029) (by decide +kernel)
theorem lk_law_36 : Cond.methodLink RL 36 yX11_core ∈ lw_tbl := List.mem_of_getElem? (i := 1406) (by decide +kernel)
theorem lk_law_37 : Cond.methodLink RL 37 yX10_holds ∈ lw_tbl := List.mem_of_getElem? (i := 1037) (by decide +kernel)
theorem lk_law_41 : Cond.methodLink RL 41 yX11_holds ∈ lw_tbl := List.mem_of_getElem? (i := 1369) (by decide +kernel)
theorem lk_law_42 : Cond.methodLink RL 42 yX10_terms ∈ lw_tbl := List.mem_of_getElem? (i := 1053) (by decide +kernel)
theorem lk_law_45 : Cond.methodLink RL 45 yX11_terms ∈ lw_tbl := List.mem_of_getElem? (i := 1410) (by decide +kernel)
theorem lk_law_46 : Cond.methodLink RL 46 yX10_count ∈ lw_tbl := List.mem_of_getElem? (i := 1057) (by decide +kernel)
theorem lk_law_49 : Cond.methodLink RL 49 yX11_count ∈ lw_tbl := List.mem_of_getElem? (i := 1414) (by decide +kernel)
set_option maxHeartbeats 4000000 in
set_option maxRecDepth 100000 in
theorem law_loop {p : Program} {l : Launch} {e : Env} {s : State} {m : MethodId} {below : List Frame} {meth : Method} {c : Code} {g : mx_G} {b L : Nat} {xs : Nat → Int32} {Inv : mx_H → Prop} (hPu : mx_Pure Inv) (hL : L ≤ 1536) (C0 : lw_At p s m meth c b L xs) (hK : va_K (g.1, g.2.1) vwCl (mx_tys g.2.2.1) s) (hSt : mx_St1 g.2.2.2.1 (mx_A g.2.2.2.2) s s.heap) (hN : mx_St2 s) (hI : mx_Inj g.2.2.2.1) (hbs : g.2.2.2.2 = s.heap.size) {cells slots : Nat} (hcs : cells ≤ 600000 ∧ slots ≤ 7302250) :
    ∀ (n i : Nat) (x3 : Int32) (h : mx_H), L + 4 ≤ i + n → i ≤ L + 3 → x3 = nI i → Inv h → ∀ (H : Heap) (locs : List Loc), va_P (g.1, g.2.1) vwCl (mx_W g.2.2.1 g.2.2.2.1 h) H → va_D (mx_A g.2.2.2.2) (mx_W g.2.2.1 g.2.2.2.1 h) → va_S (mx_A g.2.2.2.2) s.heap H locs → ∀ (ls : Array Slot), lv_has ls 4 [(0, .ref b), (1, .ref (g.2.2.2.1 0)), (2, .ref (g.2.2.2.1 47)), (3, .int x3)] → W p l e room_1 s m #[Value.ref b] below meth c H locs cells slots (lw_Z below #[Value.ref b] s) (F0 m 18 ls []) := by
  obtain ⟨hx, hb, hr, hml, hown, htt, hX, hbl, hlocks, hgv⟩ := C0
  have hts : ∀ w ∈ mx_gw, w.before #[Value.ref b] s = true := fun w hw => htt w (List.mem_filter.mp hw).1
  have hbA : ¬ mx_A g.2.2.2.2 b := by rw [hbs]; exact Nat.not_le.mpr hbl
  have hbs' : g.2.2.2.2 ≤ s.heap.size := by rw [hbs]; exact Nat.le_refl _
  intro n
  induction n with
  | zero => intro i x3 h h1 h2; omega
  | succ n ih =>
    intro i x3 h hin hi ex3 hInv H locs hP hD hS ls hl
    have hxi : (nI L - 3 < nI i) ↔ (L : Int) - 3 < i := by
      have e1 : (nI L - 3 : Int32).toInt = (L : Int) - 3 := by
        have := pk_sub_toInt (a := L) (b := 3) (by omega) (by omega)
        exact this
      rw [Int32.lt_iff_toInt_lt, e1, nI_toInt (by omega)]
    refine lv_iload_n hx hb dL_law_18 rfl (lv_at hl 3 rfl) ?_
    refine lv_aload_n hx hb dL_law_19 rfl (lv_at hl 0 rfl) ?_
    refine va_slen hx hb hX hbl hbA hS dL_law_20 ?_
    refine lv_iconst (v := 3) hx hb dL_law_21 (by decide) ?_
    refine lv_isub hx hb dL_law_22 ?_
    refine lv_icmp_gt (tgt := 260) hx hb dL_law_23 (by decide) (fun c1 => ?_) (fun c1 => ?_)
    · refine lv_iconst (v := 1) hx hb dL_law_260 (by decide) ?_
      refine va_forget (fun q hq => by have := hS.2.2 q hq; rw [← hbs]; exact this) ?_
      refine W.widen (k := 600000) (n := 7302250) hcs.1 hcs.2 ?_
      exact lw_ret hx hb hr hlocks dL_law_261
    · have hiL : i + 2 < L := by
        rw [ex3] at c1
        have := mt hxi.mpr c1
        omega
      have v0 : vp_in x3 L := by rw [ex3]; exact vp_in_nI (by omega) (by omega)
      have v1 : vp_in (x3 + 1) L := by rw [ex3, nI_1]; exact vp_in_nI (by omega) (by omega)
      have v2 : vp_in (x3 + 2) L := by rw [ex3]; show vp_in (nI i + nI 2) L; rw [nI_add]; exact vp_in_nI (by omega) (by omega)
      refine lv_aload_n hx hb dL_law_26 rfl (lv_at hl 0 rfl) ?_
      refine lv_iload_n hx hb dL_law_27 rfl (lv_at hl 3 rfl) ?_
      refine va_sld hx hb hX hbl hbA hS v0 dL_law_28 ?_
      refine lv_bipush (v := 7) hx hb dL_law_29 (by decide) ?_
      refine lv_iand hx hb dL_law_31 ?_
      obtain ⟨j, hj, ej⟩ := pk_andE (xs x3.toNatClampNeg) (m := 7) 3 (by decide)
      rw [ej]
      have next : ∀ (h2 : mx_H), Inv h2 → ∀ (H : Heap) (locs : List Loc), va_P (g.1, g.2.1) vwCl (mx_W g.2.2.1 g.2.2.2.1 h2) H → va_D (mx_A g.2.2.2.2) (mx_W g.2.2.1 g.2.2.2.1 h2) → va_S (mx_A g.2.2.2.2) s.heap H locs → W p l e room_1 s m #[Value.ref b] below meth c H locs cells slots (lw_Z below #[Value.ref b] s) (F0 m 254 ls []) := by
        intro h2 hInv2 H locs hP hD hS
        refine lv_iinc (v := x3 + 3) (lv' := [(3, .int (x3 + 3)), (0, .ref b), (1, .ref (g.2.2.2.1 0)), (2, .ref (g.2.2.2.1 47))]) hx hb dL_law_254 hl (k := 3) rfl rfl (by decide) rfl (fun ls hl => ?_)
        refine lv_goto (tgt := 18) hx hb dL_law_257 (by decide) ?_
        exact ih (i + 3) (x3 + 3) h2 (by omega) (by omega) (by rw [ex3]; show nI i + nI 3 = nI (i + 3); rw [nI_add]) hInv2 H locs hP hD hS ls (lv_sub hl [1, 2, 3, 0] rfl)
      match j, hj with
      | 0, _ =>
        refine lv_tableIn (off := 48) (tgt := 80) hx hb dL_law_32 (by decide) (by decide) rfl (by decide) ?_
        obtain ⟨r, h1, h2, hC1, hC2, hInv2⟩ := hPu.1 h hInv (xs (x3 + 1).toNatClampNeg) (xs (x3 + 2).toNatClampNeg)
        refine lv_aload_n hx hb dL_law_80 rfl (lv_at hl 1 rfl) ?_
        refine lv_aload_n hx hb dL_law_81 rfl (lv_at hl 0 rfl) ?_
        refine lv_iload_n hx hb dL_law_82 rfl (lv_at hl 3 rfl) ?_
        refine lv_iconst (v := 1) hx hb dL_law_83 (by decide) ?_
        refine lv_iadd hx hb dL_law_84 ?_
        refine va_sld hx hb hX hbl hbA hS v1 dL_law_85 ?_
        refine lv_aload_n hx hb dL_law_86 rfl (lv_at hl 0 rfl) ?_
        refine lv_iload_n hx hb dL_law_87 rfl (lv_at hl 3 rfl) ?_
        refine lv_iconst (v := 2) hx hb dL_law_88 (by decide) ?_
        refine lv_iadd hx hb dL_law_89 ?_
        refine va_sld hx hb hX hbl hbA hS v2 dL_law_90 ?_
        refine W.eq (g2 := F0 m 91 ls ((([.int (xs (x3 + 1).toNatClampNeg), .int (xs (x3 + 2).toNatClampNeg)] : List Value).map (mx_v g.2.2.2.1)).reverse ++ .ref (g.2.2.2.1 0) :: ([] : List Value).map (mx_v g.2.2.2.1))) rfl ?_
        refine lw_call (z := mm_X10_type) (np := 2) (a := 0) (as := [.int (xs (x3 + 1).toNatClampNeg), .int (xs (x3 + 2).toNatClampNeg)]) (rest := []) hx hb hml hown hts hK hSt hN hI hbs' gm_X10_type lk_law_13 (by decide +kernel) rfl (Nat.le_of_ble_eq_true rfl) (Nat.le_of_ble_eq_true rfl) rfl (by decide) (Nat.le_of_ble_eq_true rfl) hC1 hP hD hS hl.1 dL_law_91 hcs (fun H locs hP hD hS => ?_)
        refine lv_aload_n hx hb dL_law_94 rfl (lv_at hl 2 rfl) ?_
        refine lv_aload_n hx hb dL_law_95 rfl (lv_at hl 0 rfl) ?_
        refine lv_iload_n hx hb dL_law_96 rfl (lv_at hl 3 rfl) ?_
        refine lv_iconst (v := 1) hx hb dL_law_97 (by decide) ?_
        refine lv_iadd hx hb dL_law_98 ?_
        refine va_sld hx hb hX hbl hbA hS v1 dL_law_99 ?_
        refine lv_aload_n hx hb dL_law_100 rfl (lv_at hl 0 rfl) ?_
        refine lv_iload_n hx hb dL_law_101 rfl (lv_at hl 3 rfl) ?_
        refine lv_iconst (v := 2) hx hb dL_law_102 (by decide) ?_
        refine lv_iadd hx hb dL_law_103 ?_
        refine va_sld hx hb hX hbl hbA hS v2 dL_law_104 ?_
        refine W.eq (g2 := F0 m 105 ls ((([.int (xs (x3 + 1).toNatClampNeg), .int (xs (x3 + 2).toNatClampNeg)] : List Value).map (mx_v g.2.2.2.1)).reverse ++ .ref (g.2.2.2.1 47) :: ([.int r] : List Value).map (mx_v g.2.2.2.1))) rfl ?_
        refine lw_call (z := mm_X11_type) (np := 2) (a := 47) (as := [.int (xs (x3 + 1).toNatClampNeg), .int (xs (x3 + 2).toNatClampNeg)]) (rest := [.int r]) hx hb hml hown hts hK hSt hN hI hbs' gm_X11_type lk_law_17 (by decide +kernel) rfl (Nat.le_of_ble_eq_true rfl) (Nat.le_of_ble_eq_true rfl) rfl (by decide) (Nat.le_of_ble_eq_true rfl) hC2 hP hD hS hl.1 dL_law_105 hcs (fun H locs hP hD hS => ?_)
        refine lv_icmp_eq (tgt := 254) hx hb dL_law_108 (by decide) (fun c2 => ?_) (fun c2 => absurd rfl c2)
        exact next h2 hInv2 H locs hP hD hS
      | 1, _ =>
        refine lv_tableIn (off := 81) (tgt := 113) hx hb dL_law_32 (by decide) (by decide) rfl (by decide) ?_
        obtain ⟨r, h1, h2, hC1, hC2, hInv2⟩ := hPu.2.1 h hInv 
        refine lv_aload_n hx hb dL_law_113 rfl (lv_at hl 1 rfl) ?_
        refine W.eq (g2 := F0 m 114 ls ((([] : List Value).map (mx_v g.2.2.2.1)).reverse ++ .ref (g.2.2.2.1 0) :: ([] : List Value).map (mx_v g.2.2.2.1))) rfl ?_
        refine lw_call (z := mm_X10_command) (np := 0) (a := 0) (as := []) (rest := []) hx hb hml hown hts hK hSt hN hI hbs' gm_X10_command lk_law_18 (by decide +kernel) rfl (Nat.le_of_ble_eq_true rfl) (Nat.le_of_ble_eq_true rfl) rfl (by decide) (Nat.le_of_ble_eq_true rfl) hC1 hP hD hS hl.1 dL_law_114 hcs (fun H locs hP hD hS => ?_)
        refine lv_aload_n hx hb dL_law_117 rfl (lv_at hl 2 rfl) ?_
        refine W.eq (g2 := F0 m 118 ls ((([] : List Value).map (mx_v g.2.2.2.1)).reverse ++ .ref (g.2.2.2.1 47) :: ([.int r] : List Value).map (mx_v g.2.2.2.1))) rfl ?_
        refine lw_call (z := mm_X11_command) (np := 0) (a := 47) (as := []) (rest := [.int r]) hx hb hml hown hts hK hSt hN hI hbs' gm_X11_command lk_law_22 (by decide +kernel) rfl (Nat.le_of_ble_eq_true rfl) (Nat.le_of_ble_eq_true rfl) rfl (by decide) (Nat.le_of_ble_eq_true rfl) hC2 hP hD hS hl.1 dL_law_118 hcs (fun H locs hP hD hS => ?_)
        refine lv_icmp_eq (tgt := 254) hx hb dL_law_121 (by decide) (fun c2 => ?_) (fun c2 => absurd rfl c2)
        exact next h2 hInv2 H locs hP hD hS
      | 2, _ =>
        refine lv_tableIn (off := 94) (tgt := 126) hx hb dL_law_32 (by decide) (by decide) rfl (by decide) ?_
        obtain ⟨r, h1, h2, hC1, hC2, hInv2⟩ := hPu.2.2.1 h hInv 
        refine lv_aload_n hx hb dL_law_126 rfl (lv_at hl 1 rfl) ?_
        refine W.eq (g2 := F0 m 127 ls ((([] : List Value).map (mx_v g.2.2.2.1)).reverse ++ .ref (g.2.2.2.1 0) :: ([] : List Value).map (mx_v g.2.2.2.1))) rfl ?_
        refine lw_call (z := mm_X10_check) (np := 0) (a := 0) (as := []) (rest := []) hx hb hml hown hts hK hSt hN hI hbs' gm_X10_check lk_law_23 (by decide +kernel) rfl (Nat.le_of_ble_eq_true rfl) (Nat.le_of_ble_eq_true rfl) rfl (by decide) (Nat.le_of_ble_eq_true rfl) hC1 hP hD hS hl.1 dL_law_127 hcs (fun H locs hP hD hS => ?_)
        refine lv_aload_n hx hb dL_law_130 rfl (lv_at hl 2 rfl) ?_
        refine W.eq (g2 := F0 m 131 ls ((([] : List Value).map (mx_v g.2.2.2.1)).reverse ++ .ref (g.2.2.2.1 47) :: ([.int r] : List Value).map (mx_v g.2.2.2.1))) rfl ?_
        refine lw_call (z := mm_X11_check) (np := 0) (a := 47) (as := []) (rest := [.int r]) hx hb hml hown hts hK hSt hN hI hbs' gm_X11_check lk_law_26 (by decide +kernel) rfl (Nat.le_of_ble_eq_true rfl) (Nat.le_of_ble_eq_true rfl) rfl (by decide) (Nat.le_of_ble_eq_true rfl) hC2 hP hD hS hl.1 dL_law_131 hcs (fun H locs hP hD hS => ?_)
        refine lv_icmp_eq (tgt := 254) hx hb dL_law_134 (by decide) (fun c2 => ?_) (fun c2 => absurd rfl c2)
        exact next h2 hInv2 H locs hP hD hS
      | 3, _ =>
        refine lv_tableIn (off := 107) (tgt := 139) hx hb dL_law_32 (by decide) (by decide) rfl (by decide) ?_
        obtain ⟨r, h1, h2, hC1, hC2, hInv2⟩ := hPu.2.2.2.1 h hInv (xs (x3 + 1).toNatClampNeg)
        refine lv_aload_n hx hb dL_law_139 rfl (lv_at hl 1 rfl) ?_
        refine lv_aload_n hx hb dL_law_140 rfl (lv_at hl 0 rfl) ?_
        refine lv_iload_n hx hb dL_law_141 rfl (lv_at hl 3 rfl) ?_
        refine lv_iconst (v := 1) hx hb dL_law_142 (by decide) ?_
        refine lv_iadd hx hb dL_law_143 ?_
        refine va_sld hx hb hX hbl hbA hS v1 dL_law_144 ?_
        refine W.eq (g2 := F0 m 145 ls ((([.int (xs (x3 + 1).toNatClampNeg)] : List Value).map (mx_v g.2.2.2.1)).reverse ++ .ref (g.2.2.2.1 0) :: ([] : List Value).map (mx_v g.2.2.2.1))) rfl ?_
        refine lw_call (z := mm_X10_value) (np := 1) (a := 0) (as := [.int (xs (x3 + 1).toNatClampNeg)]) (rest := []) hx hb hml hown hts hK hSt hN hI hbs' gm_X10_value lk_law_27 (by decide +kernel) rfl (Nat.le_of_ble_eq_true rfl) (Nat.le_of_ble_eq_true rfl) rfl (by decide) (Nat.le_of_ble_eq_true rfl) hC1 hP hD hS hl.1 dL_law_145 hcs (fun H locs hP hD hS => ?_)
        refine lv_aload_n hx hb dL_law_148 rfl (lv_at hl 2 rfl) ?_
        refine lv_aload_n hx hb dL_law_149 rfl (lv_at hl 0 rfl) ?_
        refine lv_iload_n hx hb dL_law_150 rfl (lv_at hl 3 rfl) ?_
        refine lv_iconst (v := 1) hx hb dL_law_151 (by decide) ?_
        refine lv_iadd hx hb dL_law_152 ?_
        refine va_sld hx hb hX hbl hbA hS v1 dL_law_153 ?_
        refine W.eq (g2 := F0 m 154 ls ((([.int (xs (x3 + 1).toNatClampNeg)] : List Value).map (mx_v g.2.2.2.1)).reverse ++ .ref (g.2.2.2.1 47) :: ([.int r] : List Value).map (mx_v g.2.2.2.1))) rfl ?_
        refine lw_call (z := mm_X11_value) (np := 1) (a := 47) (as := [.int (xs (x3 + 1).toNatClampNeg)]) (rest := [.int r]) hx hb hml hown hts hK hSt hN hI hbs' gm_X11_value lk_law_31 (by decide +kernel) rfl (Nat.le_of_ble_eq_true rfl) (Nat.le_of_ble_eq_true rfl) rfl (by decide) (Nat.le_of_ble_eq_true rfl) hC2 hP hD hS hl.1 dL_law_154 hcs (fun H locs hP hD hS => ?_)
        refine lv_icmp_eq (tgt := 254) hx hb dL_law_157 (by decide) (fun c2 => ?_) (fun c2 => absurd rfl c2)
        exact next h2 hInv2 H locs hP hD hS
      | 4, _ =>
        refine lv_tableIn (off := 130) (tgt := 162) hx hb dL_law_32 (by decide) (by decide) rfl (by decide) ?_
        obtain ⟨r, h1, h2, hC1, hC2, hInv2⟩ := hPu.2.2.2.2.1 h hInv (xs (x3 + 1).toNatClampNeg)
        refine lv_aload_n hx hb dL_law_162 rfl (lv_at hl 1 rfl) ?_
        refine lv_aload_n hx hb dL_law_163 rfl (lv_at hl 0 rfl) ?_
        refine lv_iload_n hx hb dL_law_164 rfl (lv_at hl 3 rfl) ?_
        refine lv_iconst (v := 1) hx hb dL_law_165 (by decide) ?_
        refine lv_iadd hx hb dL_law_166 ?_
        refine va_sld hx hb hX hbl hbA hS v1 dL_law_167 ?_
        refine W.eq (g2 := F0 m 168 ls ((([.int (xs (x3 + 1).toNatClampNeg)] : List Value).map (mx_v g.2.2.2.1)).reverse ++ .ref (g.2.2.2.1 0) :: ([] : List Value).map (mx_v g.2.2.2.1))) rfl ?_
        refine lw_call (z := mm_X10_core) (np := 1) (a := 0) (as := [.int (xs (x3 + 1).toNatClampNeg)]) (rest := []) hx hb hml hown hts hK hSt hN hI hbs' gm_X10_core lk_law_32 (by decide +kernel) rfl (Nat.le_of_ble_eq_true rfl) (Nat.le_of_ble_eq_true rfl) rfl (by decide) (Nat.le_of_ble_eq_true rfl) hC1 hP hD hS hl.1 dL_law_168 hcs (fun H locs hP hD hS => ?_)
        refine lv_aload_n hx hb dL_law_171 rfl (lv_at hl 2 rfl) ?_
        refine lv_aload_n hx hb dL_law_172 rfl (lv_at hl 0 rfl) ?_
        refine lv_iload_n hx hb dL_law_173 rfl (lv_at hl 3 rfl) ?_
        refine lv_iconst (v := 1) hx hb dL_law_174 (by decide) ?_
        refine lv_iadd hx hb dL_law_175 ?_
        refine va_sld hx hb hX hbl hbA hS v1 dL_law_176 ?_
        refine W.eq (g2 := F0 m 177 ls ((([.int (xs (x3 + 1).toNatClampNeg)] : List Value).map (mx_v g.2.2.2.1)).reverse ++ .ref (g.2.2.2.1 47) :: ([.int r] : List Value).map (mx_v g.2.2.2.1))) rfl ?_
        refine lw_call (z := mm_X11_core) (np := 1) (a := 47) (as := [.int (xs (x3 + 1).toNatClampNeg)]) (rest := [.int r]) hx hb hml hown hts hK hSt hN hI hbs' gm_X11_core lk_law_36 (by decide +kernel) rfl (Nat.le_of_ble_eq_true rfl) (Nat.le_of_ble_eq_true rfl) rfl (by decide) (Nat.le_of_ble_eq_true rfl) hC2 hP hD hS hl.1 dL_law_177 hcs (fun H locs hP hD hS => ?_)
        refine lv_icmp_eq (tgt := 254) hx hb dL_law_180 (by decide) (fun c2 => ?_) (fun c2 => absurd rfl c2)
        exact next h2 hInv2 H locs hP hD hS
      | 5, _ =>
        refine lv_tableIn (off := 153) (tgt := 185) hx hb dL_law_32 (by decide) (by decide) rfl (by decide) ?_
        obtain ⟨r, h1, h2, hC1, hC2, hInv2⟩ := hPu.2.2.2.2.2.1 h hInv (xs (x3 + 1).toNatClampNeg) (xs (x3 + 2).toNatClampNeg)
        refine lv_aload_n hx hb dL_law_185 rfl (lv_at hl 1 rfl) ?_
        refine lv_aload_n hx hb dL_law_186 rfl (lv_at hl 0 rfl) ?_
        refine lv_iload_n hx hb dL_law_187 rfl (lv_at hl 3 rfl) ?_
        refine lv_iconst (v := 1) hx hb dL_law_188 (by decide) ?_
        refine lv_iadd hx hb dL_law_189 ?_
        refine va_sld hx hb hX hbl hbA hS v1 dL_law_190 ?_
        refine lv_aload_n hx hb dL_law_191 rfl (lv_at hl 0 rfl) ?_
        refine lv_iload_n hx hb dL_law_192 rfl (lv_at hl 3 rfl) ?_
        refine lv_iconst (v := 2) hx hb dL_law_193 (by decide) ?_
        refine lv_iadd hx hb dL_law_194 ?_
        refine va_sld hx hb hX hbl hbA hS v2 dL_law_195 ?_
        refine W.eq (g2 := F0 m 196 ls ((([.int (xs (x3 + 1).toNatClampNeg), .int (xs (x3 + 2).toNatClampNeg)] : List Value).map (mx_v g.2.2.2.1)).reverse ++ .ref (g.2.2.2.1 0) :: ([] : List Value).map (mx_v g.2.2.2.1))) rfl ?_
        refine lw_call (z := mm_X10_holds) (np := 2) (a := 0) (as := [.int (xs (x3 + 1).toNatClampNeg), .int (xs (x3 + 2).toNatClampNeg)]) (rest := []) hx hb hml hown hts hK hSt hN hI hbs' gm_X10_holds lk_law_37 (by decide +kernel) rfl (Nat.le_of_ble_eq_true rfl) (Nat.le_of_ble_eq_true rfl) rfl (by decide) (Nat.le_of_ble_eq_true rfl) hC1 hP hD hS hl.1 dL_law_196 hcs (fun H locs hP hD hS => ?_)
        refine lv_aload_n hx hb dL_law_199 rfl (lv_at hl 2 rfl) ?_
        refine lv_aload_n hx hb dL_law_200 rfl (lv_at hl 0 rfl) ?_
        refine lv_iload_n hx hb dL_law_201 rfl (lv_at hl 3 rfl) ?_
        refine lv_iconst (v := 1) hx hb dL_law_202 (by decide) ?_
        refine lv_iadd hx hb dL_law_203 ?_
        refine va_sld hx hb hX hbl hbA hS v1 dL_law_204 ?_
        refine lv_aload_n hx hb dL_law_205 rfl (lv_at hl 0 rfl) ?_
        refine lv_iload_n hx hb dL_law_206 rfl (lv_at hl 3 rfl) ?_
        refine lv_iconst (v := 2) hx hb dL_law_207 (by decide) ?_
        refine lv_iadd hx hb dL_law_208 ?_
        refine va_sld hx hb hX hbl hbA hS v2 dL_law_209 ?_
        refine W.eq (g2 := F0 m 210 ls ((([.int (xs (x3 + 1).toNatClampNeg), .int (xs (x3 + 2).toNatClampNeg)] : List Value).map (mx_v g.2.2.2.1)).reverse ++ .ref (g.2.2.2.1 47) :: ([.int r] : List Value).map (mx_v g.2.2.2.1))) rfl ?_
        refine lw_call (z := mm_X11_holds) (np := 2) (a := 47) (as := [.int (xs (x3 + 1).toNatClampNeg), .int (xs (x3 + 2).toNatClampNeg)]) (rest := [.int r]) hx hb hml hown hts hK hSt hN hI hbs' gm_X11_holds lk_law_41 (by decide +kernel) rfl (Nat.le_of_ble_eq_true rfl) (Nat.le_of_ble_eq_true rfl) rfl (by decide) (Nat.le_of_ble_eq_true rfl) hC2 hP hD hS hl.1 dL_law_210 hcs (fun H locs hP hD hS => ?_)
        refine lv_icmp_eq (tgt := 254) hx hb dL_law_213 (by decide) (fun c2 => ?_) (fun c2 => absurd rfl c2)
        exact next h2 hInv2 H locs hP hD hS
      | 6, _ =>
        refine lv_tableIn (off := 186) (tgt := 218) hx hb dL_law_32 (by decide) (by decide) rfl (by decide) ?_
        obtain ⟨r, h1, h2, hC1, hC2, hInv2⟩ := hPu.2.2.2.2.2.2.1 h hInv 
        refine lv_aload_n hx hb dL_law_218 rfl (lv_at hl 1 rfl) ?_
        refine W.eq (g2 := F0 m 219 ls ((([] : List Value).map (mx_v g.2.2.2.1)).reverse ++ .ref (g.2.2.2.1 0) :: ([] : List Value).map (mx_v g.2.2.2.1))) rfl ?_
        refine lw_call (z := mm_X10_terms) (np := 0) (a := 0) (as := []) (rest := []) hx hb hml hown hts hK hSt hN hI hbs' gm_X10_terms lk_law_42 (by decide +kernel) rfl (Nat.le_of_ble_eq_true rfl) (Nat.le_of_ble_eq_true rfl) rfl (by decide) (Nat.le_of_ble_eq_true rfl) hC1 hP hD hS hl.1 dL_law_219 hcs (fun H locs hP hD hS => ?_)
        refine lv_aload_n hx hb dL_law_222 rfl (lv_at hl 2 rfl) ?_
        refine W.eq (g2 := F0 m 223 ls ((([] : List Value).map (mx_v g.2.2.2.1)).reverse ++ .ref (g.2.2.2.1 47) :: ([.int r] : List Value).map (mx_v g.2.2.2.1))) rfl ?_
        refine lw_call (z := mm_X11_terms) (np := 0) (a := 47) (as := []) (rest := [.int r]) hx hb hml hown hts hK hSt hN hI hbs' gm_X11_terms lk_law_45 (by decide +kernel) rfl (Nat.le_of_ble_eq_true rfl) (Nat.le_of_ble_eq_true rfl) rfl (by decide) (Nat.le_of_ble_eq_true rfl) hC2 hP hD hS hl.1 dL_law_223 hcs (fun H locs hP hD hS => ?_)
        refine lv_icmp_eq (tgt := 254) hx hb dL_law_226 (by decide) (fun c2 => ?_) (fun c2 => absurd rfl c2)
        exact next h2 hInv2 H locs hP hD hS
      | 7, _ =>
        refine lv_tableIn (off := 199) (tgt := 231) hx hb dL_law_32 (by decide) (by decide) rfl (by decide) ?_
        obtain ⟨r, h1, h2, hC1, hC2, hInv2⟩ := hPu.2.2.2.2.2.2.2 h hInv (xs (x3 + 1).toNatClampNeg)
        refine lv_aload_n hx hb dL_law_231 rfl (lv_at hl 1 rfl) ?_
        refine lv_aload_n hx hb dL_law_232 rfl (lv_at hl 0 rfl) ?_
        refine lv_iload_n hx hb dL_law_233 rfl (lv_at hl 3 rfl) ?_
        refine lv_iconst (v := 1) hx hb dL_law_234 (by decide) ?_
        refine lv_iadd hx hb dL_law_235 ?_
        refine va_sld hx hb hX hbl hbA hS v1 dL_law_236 ?_
        refine W.eq (g2 := F0 m 237 ls ((([.int (xs (x3 + 1).toNatClampNeg)] : List Value).map (mx_v g.2.2.2.1)).reverse ++ .ref (g.2.2.2.1 0) :: ([] : List Value).map (mx_v g.2.2.2.1))) rfl ?_
        refine lw_call (z := mm_X10_count) (np := 1) (a := 0) (as := [.int (xs (x3 + 1).toNatClampNeg)]) (rest := []) hx hb hml hown hts hK hSt hN hI hbs' gm_X10_count lk_law_46 (by decide +kernel) rfl (Nat.le_of_ble_eq_true rfl) (Nat.le_of_ble_eq_true rfl) rfl (by decide) (Nat.le_of_ble_eq_true rfl) hC1 hP hD hS hl.1 dL_law_237 hcs (fun H locs hP hD hS => ?_)
        refine lv_aload_n hx hb dL_law_240 rfl (lv_at hl 2 rfl) ?_
        refine lv_aload_n hx hb dL_law_241 rfl (lv_at hl 0 rfl) ?_
        refine lv_iload_n hx hb dL_law_242 rfl (lv_at hl 3 rfl) ?_
        refine lv_iconst (v := 1) hx hb dL_law_243 (by decide) ?_
        refine lv_iadd hx hb dL_law_244 ?_
        refine va_sld hx hb hX hbl hbA hS v1 dL_law_245 ?_
        refine W.eq (g2 := F0 m 246 ls ((([.int (xs (x3 + 1).toNatClampNeg)] : List Value).map (mx_v g.2.2.2.1)).reverse ++ .ref (g.2.2.2.1 47) :: ([.int r] : List Value).map (mx_v g.2.2.2.1))) rfl ?_
        refine lw_call (z := mm_X11_count) (np := 1) (a := 47) (as := [.int (xs (x3 + 1).toNatClampNeg)]) (rest := [.int r]) hx hb hml hown hts hK hSt hN hI hbs' gm_X11_count lk_law_49 (by decide +kernel) rfl (Nat.le_of_ble_eq_true rfl) (Nat.le_of_ble_eq_true rfl) rfl (by decide) (Nat.le_of_ble_eq_true rfl) hC2 hP hD hS hl.1 dL_law_246 hcs (fun H locs hP hD hS => ?_)
        refine lv_icmp_eq (tgt := 254) hx hb dL_law_249 (by decide) (fun c2 => ?_) (fun c2 => absurd rfl c2)
        exact next h2 hInv2 H locs hP hD hS
      | j + 8, hj => exact absurd hj (by omega)
