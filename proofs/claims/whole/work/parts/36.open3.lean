set_option maxHeartbeats 400000 in
set_option maxRecDepth 100000 in
theorem lw_from12 {Inv : mx_H → Prop} (hPu : mx_Pure Inv) (hI0 : Inv mx_h0) {p : Program} {e : Env} {s : State} {m : MethodId} {below : List Frame} {meth : Method} {c : Code} {l : Launch} {b L : Nat} {xs : Nat → Int32} (hL : L ≤ 1536) (C0 : lw_At p s m meth c b L xs) {dC : Nat → ClassId} {dI : Nat → Nat → Nat} {cA : Nat → ClassId} (hK : va_K (dC, dI) vwCl (mx_tys cA) s) {F F2 : List mk_C} (f4 : F2.length = 72) (f6 : mk_sz F2 ≤ 100000) (hM2 : ∀ (g : mx_G) (ads : List Nat), ads.length = 48 → mk_Met l g mi_X11 [.inl (some 47)] ads F F2) (hF2 : ∀ (cA : Nat → ClassId) (ads : List Nat) (ad : Nat → Nat), (∀ i, i < 72 → ad i = ads.getD i 0) → mk_W cA ads F2 = mx_W cA ad mx_h0) {ads : List Nat} (hlen : ads.length = 48) {q0 q1 : Nat} (hq0 : ads.getD 0 0 = q0) (hq1 : ads.getD 47 0 = q1) {cells slots : Nat} (hcs : cells ≤ 1000 ∧ slots ≤ 200000) {H : Heap} {locs : List Loc} (hP : va_P (dC, dI) vwCl (mk_W cA ads F) H) (hD : va_D (mx_A s.heap.size) (mk_W cA ads F)) (hS : va_S (mx_A s.heap.size) s.heap H locs) {ls : Array Slot} (hl : lv_has ls 4 [(1, .ref q0), (0, .ref b)]) : W p l e room_1 s m #[Value.ref b] below meth c H locs cells slots (lw_Z below #[Value.ref b] s) (F0 m 12 ls [.ref q1, .ref q1]) := by
  obtain ⟨hx, hb, hr, hml, hown, htt, hX, hbl, hlocks, hgv⟩ := id C0
  have hts : ∀ w ∈ mx_gw, w.before #[Value.ref b] s = true := fun w hw => htt w (List.mem_filter.mp hw).1
  have hN : mx_St2 s := fun w hw => va_Nw.of (mx_isN_tab (List.mem_filter.mp hw).2) (htt w (List.mem_filter.mp hw).1)
  have hAO : va_AO RX9 s := va_AO.of (htt _ mk_ao)
  have hst2 : (F0 m 12 ls [.ref q1, .ref q1]) = F0 m 12 ls (.ref (ads.getD 47 0) :: [.ref q1]) := by rw [hq1]
  refine W.eq hst2 ?_
  refine lw_init (g := (dC, dI, cA, fun _ => 0, s.heap.size)) (z := mi_X11) (j := 47) (rest := [.ref q1]) (ads := ads) (cs := F) (cs1 := F2) hx hb hml hown hts hK hN hAO (Nat.le_refl _) mk_gm_X11 rfl rfl (by decide +kernel) lk_ini_12 (by show 1 ≤ 8; decide) (by decide) (by decide) (hM2 _ ads hlen) hP hD hS hl.1 dL_law_12 ⟨by omega, by omega⟩ (fun more2 H locs hlen3 hP hD hS => ?_)
  refine lv_astore_n (lv' := [(2, .ref q1), (1, .ref q0), (0, .ref b)]) hx hb dL_law_15 rfl hl (by decide) rfl (fun ls hl => ?_)
  have g0 : (ads ++ more2).getD 0 0 = q0 := by
    rw [List.getD_eq_getElem?_getD, List.getElem?_append_left (by omega), ← List.getD_eq_getElem?_getD]
    exact hq0
  have g1 : (ads ++ more2).getD 47 0 = q1 := by
    rw [List.getD_eq_getElem?_getD, List.getElem?_append_left (by omega), ← List.getD_eq_getElem?_getD]
    exact hq1
  exact lw_from16 hPu hI0 hL C0 hK hF2 g0 g1 ⟨by omega, by omega⟩ hP hD hS hl
set_option maxHeartbeats 400000 in
set_option maxRecDepth 100000 in
theorem lw_from7 {Inv : mx_H → Prop} (hPu : mx_Pure Inv) (hI0 : Inv mx_h0) {p : Program} {e : Env} {s : State} {m : MethodId} {below : List Frame} {meth : Method} {c : Code} {l : Launch} {b L : Nat} {xs : Nat → Int32} (hL : L ≤ 1536) (C0 : lw_At p s m meth c b L xs) {dC : Nat → ClassId} {dI : Nat → Nat → Nat} {cA : Nat → ClassId} (hK : va_K (dC, dI) vwCl (mx_tys cA) s) {F1 F2 : List mk_C} (f1 : F1.length = 47) (f2 : F1.all (mk_cok 47) = true) (f4 : F2.length = 72) (f6 : mk_sz F2 ≤ 100000) (hM2 : ∀ (g : mx_G) (ads : List Nat), ads.length = 48 → mk_Met l g mi_X11 [.inl (some 47)] ads (F1 ++ [.inl (9, mk_def 9)]) F2) (hF2 : ∀ (cA : Nat → ClassId) (ads : List Nat) (ad : Nat → Nat), (∀ i, i < 72 → ad i = ads.getD i 0) → mk_W cA ads F2 = mx_W cA ad mx_h0) {ads : List Nat} (hlen : ads.length = 47) {q0 : Nat} (hq0 : ads.getD 0 0 = q0) {cells slots : Nat} (hcs : cells ≤ 900 ∧ slots ≤ 110000) {H : Heap} {locs : List Loc} (hP : va_P (dC, dI) vwCl (mk_W cA ads F1) H) (hD : va_D (mx_A s.heap.size) (mk_W cA ads F1)) (hS : va_S (mx_A s.heap.size) s.heap H locs) {ls : Array Slot} (hl : lv_has ls 4 [(0, .ref b)]) : W p l e room_1 s m #[Value.ref b] below meth c H locs cells slots (lw_Z below #[Value.ref b] s) (F0 m 7 ls [.ref q0]) := by
  obtain ⟨hx, hb, hr, hml, hown, htt, hX, hbl, hlocks, hgv⟩ := id C0
  have hts : ∀ w ∈ mx_gw, w.before #[Value.ref b] s = true := fun w hw => htt w (List.mem_filter.mp hw).1
  have hA : ∀ q : Nat, s.heap.size ≤ q → mx_A s.heap.size q := fun _ h => h
  have hown2 : s.vm.findClass (mx_cn 12) = some m.cls := hown
  have hv9 : vwCl[9]? = some (RX11, TX11, 41) := rfl
  obtain ⟨ty9, t91, t92, t93⟩ := mk_def_ok hv9
  refine lv_astore_n (lv' := [(1, .ref q0), (0, .ref b)]) hx hb dL_law_7 rfl hl (by decide) rfl (fun ls hl => ?_)
  have c1 : cells + 1 ≤ room_1.cells := by show cells + 1 ≤ 600000; omega
  have c2 : slots + 41 ≤ room_1.slots := by show slots + 41 ≤ 7302250; omega
  refine va_new (ci := 9) (fs := (mk_def 9).map (mk_val ads)) (C := RX11) (T := TX11) (N := 41) hx hb hts (mx_uw hv9).1 ty9 t91 hown2 (mx_gw_use hts mkn_12_10 rfl) (mx_gw_use hts mkc_9.1 rfl) (mx_gw_use hts mkc_9.2 rfl) hK hP hD hS hA hv9 (t92 _) c1 c2 dL_law_8 (fun q1 H hP hD hS => ?_)
  refine lv_dup hx hb dL_law_11 rfl ?_
  have e9 : mk_cell cA (ads ++ [q1]) (.inl (9, mk_def 9)) = .inr (9, (mk_def 9).map (mk_val ads)) := by
    show Sum.inr (9, (mk_def 9).map (mk_val (ads ++ [q1]))) = _
    rw [mk_map_app (t93 _)]
  have hW2 := mk_W_push (cA := cA) (c := .inl (9, mk_def 9)) q1 (hlen.trans f1.symm) (by rw [f1]; exact f2)
  rw [e9] at hW2
  have hlen2 : (ads ++ [q1]).length = 48 := by rw [List.length_append, hlen]; rfl
  have hq1 : (ads ++ [q1]).getD 47 0 = q1 := by
    rw [List.getD_eq_getElem?_getD, List.getElem?_append_right (by omega), hlen]
    rfl
  have hq0' : (ads ++ [q1]).getD 0 0 = q0 := by
    rw [List.getD_eq_getElem?_getD, List.getElem?_append_left (by omega), ← List.getD_eq_getElem?_getD]
    exact hq0
  have hP2 : va_P (dC, dI) vwCl (mk_W cA (ads ++ [q1]) (F1 ++ [.inl (9, mk_def 9)])) H := by rw [hW2]; exact hP
  have hD2 : va_D (mx_A s.heap.size) (mk_W cA (ads ++ [q1]) (F1 ++ [.inl (9, mk_def 9)])) := by rw [hW2]; exact hD
  exact lw_from12 hPu hI0 hL C0 hK f4 f6 hM2 hF2 hlen2 hq0' hq1 ⟨by omega, by omega⟩ hP2 hD2 hS hl
set_option maxHeartbeats 1000000 in
set_option maxRecDepth 100000 in
/-- the law from its entry, if the pure statement holds -/
theorem whole_start_open {Inv : mx_H → Prop} (hPu : mx_Pure Inv) (hI0 : Inv mx_h0) {p : Program} {e : Env} {s : State} {m : MethodId} {below : List Frame} {meth : Method} {c : Code} (l : Launch) {b L : Nat} {xs : Nat → Int32} (hL : L ≤ 1536) (C0 : lw_At p s m meth c b L xs) : W p l e room_1 s m #[Value.ref b] below meth c s.heap [] 0 0 (lw_Z below #[Value.ref b] s) (entryFrame m ([Value.ref b] : List Value).toArray 4) := by
  obtain ⟨hx, hb, hr, hml, hown, htt, hX, hbl, hlocks, hgv⟩ := id C0
  have hts : ∀ w ∈ mx_gw, w.before #[Value.ref b] s = true := fun w hw => htt w (List.mem_filter.mp hw).1
  obtain ⟨dC, dI, cA, hK⟩ := lw_K htt
  obtain ⟨F1, F2, f1, f2, f4, f5, f6, hM1, hM2, hF2⟩ := mk_facts l
  have hN : mx_St2 s := fun w hw => va_Nw.of (mx_isN_tab (List.mem_filter.mp hw).2) (htt w (List.mem_filter.mp hw).1)
  have hAO : va_AO RX9 s := va_AO.of (htt _ mk_ao)
  have hA : ∀ q : Nat, s.heap.size ≤ q → mx_A s.heap.size q := fun _ h => h
  have hS : va_S (mx_A s.heap.size) s.heap s.heap [] := va_S.rf
  have hP : va_P (dC, dI) vwCl [] s.heap := fun k q h => by simp at h
  have hD : va_D (mx_A s.heap.size) [] := ⟨fun i j p q h => by simp at h, fun k q h => by simp at h⟩
  have hown2 : s.vm.findClass (mx_cn 12) = some m.cls := hown
  have hl := lv_entry ([.ref b]) (n := 4) (Nat.le_of_ble_eq_true rfl)
  rw [lg_entry_eq]
  generalize (lg_sl ([.ref b]) ++ List.replicate (4 - (lg_sl ([.ref b])).length) Slot.unset).toArray = ls at hl ⊢
  have hl : lv_has ls 4 [(0, .ref b)] := hl
  have hv8 : vwCl[8]? = some (RX10, TX10, 11) := rfl
  obtain ⟨ty8, t81, t82, t83⟩ := mk_def_ok hv8
  refine va_new (ci := 8) (fs := (mk_def 8).map (mk_val [])) (C := RX10) (T := TX10) (N := 11) hx hb hts (mx_uw hv8).1 ty8 t81 hown2 (mx_gw_use hts mkn_12_7 rfl) (mx_gw_use hts mkc_8.1 rfl) (mx_gw_use hts mkc_8.2 rfl) hK hP hD hS hA hv8 (t82 _) (Nat.le_of_ble_eq_true rfl) (Nat.le_of_ble_eq_true rfl) dL_law_0 (fun q0 H hP hD hS => ?_)
  refine lv_dup hx hb dL_law_3 rfl ?_
  have hW1 : mk_W cA [q0] mk_c8 = [(q0, .inr (8, (mk_def 8).map (mk_val [])))] := rfl
  have hP1 : va_P (dC, dI) vwCl (mk_W cA [q0] mk_c8) H := by rw [hW1]; exact hP
  have hD1 : va_D (mx_A s.heap.size) (mk_W cA [q0] mk_c8) := by rw [hW1]; exact hD
  have es1 : mk_sz mk_c8 = 11 := rfl
  have el1 : mk_c8.length = 1 := rfl
  refine lw_init (g := (dC, dI, cA, fun _ => 0, s.heap.size)) (z := mi_X10) (j := 0) (rest := [.ref q0]) (ads := [q0]) (cs := mk_c8) (cs1 := F1) hx hb hml hown hts hK hN hAO (Nat.le_refl _) mk_gm_X10 rfl rfl (by decide +kernel) lk_ini_9 (by show 1 ≤ 8; decide) (by decide) (by decide) (hM1 _ q0) hP1 hD1 hS hl.1 dL_law_4 ⟨by rw [el1, f1]; omega, by rw [es1]; omega⟩ (fun more H locs hlen hP hD hS => ?_)
  exact lw_from7 hPu hI0 hL C0 hK f1 f2 f4 f6 hM2 hF2 (hlen.trans f1) rfl ⟨by rw [el1, f1]; decide, by rw [es1]; omega⟩ hP hD hS hl
