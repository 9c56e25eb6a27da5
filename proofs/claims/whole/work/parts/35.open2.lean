theorem lk_ini_9 : Cond.methodLink RL 9 yX10_init ∈ lw_tbl := List.mem_of_getElem? (i := 113) (by decide +kernel)
theorem lk_ini_12 : Cond.methodLink RL 12 yX11_init ∈ lw_tbl := List.mem_of_getElem? (i := 1063) (by decide +kernel)
theorem mk_fin1_ok : mk_fin1.length = 47 ∧ mk_fin1.all (mk_cok 47) = true ∧ (mk_fin1 ++ [.inl (9, mk_def 9)] : List mk_C).all (mk_cok 48) = true ∧ mk_fin2.length = 72 ∧ mk_sz mk_fin1 ≤ 100000 ∧ mk_sz mk_fin2 ≤ 100000 := by decide +kernel
theorem mk_gm_X10 : mk_gm mi_X10 := mkm_X10
theorem mk_gm_X11 : mk_gm mi_X11 := mkm_X11
abbrev mk_c8 : List mk_C := [.inl (8, mk_def 8)]
/-- what the constructors come to, their lists unseen -/
theorem mk_facts (l : Launch) : ∃ F1 F2 : List mk_C, F1.length = 47 ∧ F1.all (mk_cok 47) = true ∧ F2.length = 72 ∧ mk_sz F1 ≤ 100000 ∧ mk_sz F2 ≤ 100000 ∧ (∀ (g : mx_G) (q0 : Nat), mk_Met l g mi_X10 [.inl (some 0)] [q0] mk_c8 F1) ∧ (∀ (g : mx_G) (ads : List Nat), ads.length = 48 → mk_Met l g mi_X11 [.inl (some 47)] ads (F1 ++ [.inl (9, mk_def 9)]) F2) ∧ ∀ (cA : Nat → ClassId) (ads : List Nat) (ad : Nat → Nat), (∀ i, i < 72 → ad i = ads.getD i 0) → mk_W cA ads F2 = mx_W cA ad mx_h0 := by
  obtain ⟨f1, f2, f3, f4, f5, f6⟩ := mk_fin1_ok
  have hl47 : (mk_fin1 ++ [.inl (9, mk_def 9)] : List mk_C).length = 48 := by rw [List.length_append, f1]; rfl
  have hcok2 : (mk_fin1 ++ [.inl (9, mk_def 9)] : List mk_C).all (mk_cok (mk_fin1 ++ [(.inl (9, mk_def 9) : mk_C)]).length) = true := by rw [hl47]; exact f3
  refine ⟨mk_fin1, mk_fin2, f1, f2, f4, f5, f6, fun g q0 => ?_, fun g ads hads => ?_, fun cA ads ad had => mk_to_mx had⟩
  · exact mk_met_of mk_gm_X10 rfl rfl rfl (Nat.le_of_ble_eq_true rfl) rfl (by decide +kernel) rfl (fun p e s m args below meth c X => mk_sound 300 mi_X10 0 _ _ _ _ mk_run1 rfl (by decide) (by decide +kernel) _ _ p e s m args below meth c X)
  · exact mk_met_of mk_gm_X11 rfl rfl rfl (Nat.le_of_ble_eq_true rfl) (by rw [hl47]; exact hads) hcok2 (by rw [hl47]; rfl) (fun p e s m args below meth c X => mk_sound 300 mi_X11 0 _ _ _ _ mk_run2 rfl (by decide) hcok2 _ _ p e s m args below meth c X)
set_option maxHeartbeats 1000000 in
set_option maxRecDepth 100000 in
theorem lw_from16 {Inv : mx_H → Prop} (hPu : mx_Pure Inv) (hI0 : Inv mx_h0) {p : Program} {e : Env} {s : State} {m : MethodId} {below : List Frame} {meth : Method} {c : Code} {l : Launch} {b L : Nat} {xs : Nat → Int32} (hL : L ≤ 1536) (C0 : lw_At p s m meth c b L xs) {dC : Nat → ClassId} {dI : Nat → Nat → Nat} {cA : Nat → ClassId} (hK : va_K (dC, dI) vwCl (mx_tys cA) s) {F2 : List mk_C} (hF2 : ∀ (cA : Nat → ClassId) (ads : List Nat) (ad : Nat → Nat), (∀ i, i < 72 → ad i = ads.getD i 0) → mk_W cA ads F2 = mx_W cA ad mx_h0) {ads : List Nat} {q0 q1 : Nat} (hq0 : ads.getD 0 0 = q0) (hq1 : ads.getD 47 0 = q1) {cells slots : Nat} (hcs : cells ≤ 600000 ∧ slots ≤ 7302250) {H : Heap} {locs : List Loc} (hP : va_P (dC, dI) vwCl (mk_W cA ads F2) H) (hD : va_D (mx_A s.heap.size) (mk_W cA ads F2)) (hS : va_S (mx_A s.heap.size) s.heap H locs) {ls : Array Slot} (hl : lv_has ls 4 [(2, .ref q1), (1, .ref q0), (0, .ref b)]) : W p l e room_1 s m #[Value.ref b] below meth c H locs cells slots (lw_Z below #[Value.ref b] s) (F0 m 16 ls []) := by
  obtain ⟨hx, hb, hr, hml, hown, htt, hX, hbl, hlocks, hgv⟩ := id C0
  obtain ⟨tE, tK, tV, tA, tS, tF, hstat⟩ := mx_stat htt hgv
  have hN : mx_St2 s := fun w hw => va_Nw.of (mx_isN_tab (List.mem_filter.mp hw).2) (htt w (List.mem_filter.mp hw).1)
  refine lv_iconst (v := 0) hx hb dL_law_16 (by decide) ?_
  refine lv_istore_n (lv' := [(3, .int 0), (2, .ref q1), (1, .ref q0), (0, .ref b)]) hx hb dL_law_17 rfl hl (by decide) rfl (fun ls hl => ?_)
  obtain ⟨ad, had⟩ : ∃ ad : Nat → Nat, ad = fun i => if i < 72 then ads.getD i 0 else if i < 1042 then tE (i - 1000) else if i = 2000 then tA else if i = 2001 then tS else if i < 3042 then tK (i - 3000) else if i < 4042 then tV (i - 4000) else tF := ⟨_, rfl⟩
  have ae : ∀ i, ad i = if i < 72 then ads.getD i 0 else if i < 1042 then tE (i - 1000) else if i = 2000 then tA else if i = 2001 then tS else if i < 3042 then tK (i - 3000) else if i < 4042 then tV (i - 4000) else tF := fun i => by rw [had]
  clear had
  have a1 : ∀ i, i < 72 → ad i = ads.getD i 0 := fun i hi => by rw [ae, if_pos hi]
  have a2 : ∀ i, i < 42 → ad (1000 + i) = tE i := fun i hi => by rw [ae, if_neg (by omega), if_pos (by omega), Nat.add_sub_cancel_left]
  have a3 : ad 2000 = tA := by rw [ae, if_neg (by omega), if_neg (by omega), if_pos rfl]
  have a4 : ad 2001 = tS := by rw [ae, if_neg (by omega), if_neg (by omega), if_neg (by omega), if_pos rfl]
  have a5 : ∀ i, i < 42 → ad (3000 + i) = tK i := fun i hi => by rw [ae, if_neg (by omega), if_neg (by omega), if_neg (by omega), if_neg (by omega), if_pos (by omega), Nat.add_sub_cancel_left]
  have a6 : ∀ i, i < 42 → ad (4000 + i) = tV i := fun i hi => by rw [ae, if_neg (by omega), if_neg (by omega), if_neg (by omega), if_neg (by omega), if_neg (by omega), if_pos (by omega), Nat.add_sub_cancel_left]
  have a7 : ad 5000 = tF := by rw [ae, if_neg (by omega), if_neg (by omega), if_neg (by omega), if_neg (by omega), if_neg (by omega), if_neg (by omega)]
  obtain ⟨hSt, hInj⟩ := hstat ad a2 a3 a4 a5 a6 a7
  rw [hF2 cA ads ad a1] at hP hD
  have b0 : ad 0 = q0 := by rw [a1 0 (by decide)]; exact hq0
  have b1 : ad 47 = q1 := by rw [a1 47 (by decide)]; exact hq1
  have hl2 : lv_has ls 4 [(0, .ref b), (1, .ref (ad 0)), (2, .ref (ad 47)), (3, .int 0)] := by
    rw [b0, b1]
    exact lv_sub hl [3, 2, 1, 0] rfl
  exact law_loop (g := (dC, dI, cA, ad, s.heap.size)) hPu hL C0 hK hSt hN hInj rfl hcs (L + 4) 0 0 mx_h0 (by omega) (by omega) nI_0.symm hI0 H locs hP hD hS ls hl2
