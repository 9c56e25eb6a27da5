/-! the JDK's own methods that MINI takes as they are: contracts, and mx_BiOk -/
section BI
variable {p : Program} {l : Launch} {e : Env} {s : State} {m : MethodId} {args : Array Value} {below : List Frame} {meth : Method} {c : Code} {g : mx_G} {o : mx_O} {rk : Nat} {y : mx_M} {pc : Nat} {L S : List Value} {h : mx_H}
theorem mx_ok_gof (X : mx_Fx p s m args meth c g y) {ix a : Nat} {on n d : String} {v : Value} (hz : va_OF on n d (mx_v g.2.2.2.1 v) (g.2.2.2.1 a) (mx_A g.2.2.2.2) s s.heap) (hlk : Cond.fieldLink (mx_cn y.2.2.1) ix on n d ∈ lw_tbl) (hd : decode y.2.2.2.2.1 pc = .ok (.getfield ix, 3)) (kk : mx_Ok p l e s m args below meth c g o rk y (pc + 3) L (v :: S) h) : mx_Ok p l e s m args below meth c g o rk y pc L (.ref a :: S) h := by
  intro H locs ls hP hD hS hl hn
  have k1 := kk H locs ls hP hD hS hl hn
  obtain ⟨cf, kc, fi, f, cell, q1, q2, q3, q4, q5, q6⟩ := hz.kept hS.2.1
  exact W.getf X.1 X.2.1 X.2.2.2.2.1 (mx_gw_use X.2.2.2.2.2.1 hlk rfl) q1 q2 q3 q4 q5 rfl rfl hd k1
theorem mx_ok_gst (X : mx_Fx p s m args meth c g y) {ix : Nat} {on n d : String} {v : Value} (hz : va_Z on n d (mx_v g.2.2.2.1 v) (mx_A g.2.2.2.2) s s.heap) (hlk : Cond.fieldLink (mx_cn y.2.2.1) ix on n d ∈ lw_tbl) (hd : decode y.2.2.2.2.1 pc = .ok (.getstatic ix, 3)) (kk : mx_Ok p l e s m args below meth c g o rk y (pc + 3) L (v :: S) h) : mx_Ok p l e s m args below meth c g o rk y pc L S h :=
  fun H locs ls hP hD hS hl hn => va_gets X.1 X.2.1 hz hS X.2.2.2.2.1 (mx_gw_use X.2.2.2.2.2.1 hlk rfl) (fun _ h9 => h9) hd (kk H locs ls hP hD hS hl hn)
/-- a call on any cell whose class is known -/
theorem mx_ok_callC (X : mx_Fx p s m args meth c g y) {ix np a : Nat} {z : mx_M} {as rest : List Value} {o1 : mx_O} (hlk : Cond.methodLink (mx_cn y.2.2.1) ix z.2.2.2.1 ∈ lw_tbl) (gm : mx_gm z false) (hnp : (parseMethodDescriptor z.2.2.2.1.desc).map (fun d => d.parameters.length) = some np) (hlen : as.length = np) (hr4 : mx_ws8 rest ≤ 8) (hrk : mx_rank z (.ref a :: as) < rk) (hcell0 : ∀ (H : Heap) (locs : List Loc), va_S (mx_A g.2.2.2.2) s.heap H locs → ∃ cellB : Cell, H[g.2.2.2.1 a]? = some cellB ∧ cellB.vm.isStatics = false ∧ s.vm.findClass z.2.2.2.1.cls = some cellB.cls) (hM : mx_Met l g z (.ref a :: as) h o1) (hd : decode y.2.2.2.2.1 pc = .ok (.invokevirtual ix, 3)) (kk : mx_Ok p l e s m args below meth c g o rk y (pc + 3) L (o1.1.toList ++ rest) o1.2) : mx_Ok p l e s m args below meth c g o rk y pc L ((.ref a :: as).reverse ++ rest) h := by
  intro H locs ls hP hD hS hl hn
  have hwd := mx_wd_ok X hP hD hS
  obtain ⟨hx, hb, hml, -, hown, hts, -, hK, hSt, hN, -, -⟩ := X
  have hW8 : 2 * (F0 m pc ls (((.ref a :: as).reverse ++ rest).map (mx_v g.2.2.2.1))).monitorRoom + ((rest.map (mx_v g.2.2.2.1)).map fun v => v.category).sum ≤ 8 := by
    have := mx_cat_le g.2.2.2.1 rest
    show 2 * 0 + _ ≤ 8
    omega
  have hst : (F0 m pc ls (((.ref a :: as).reverse ++ rest).map (mx_v g.2.2.2.1))).stack = (as.map (mx_v g.2.2.2.1)).reverse ++ .ref (g.2.2.2.1 a) :: rest.map (mx_v g.2.2.2.1) := by simp [mx_v]
  have hpre : PreV s H z.2.2.2.1.cls (g.2.2.2.1 a) (mx_Pre g (.ref a :: as) h) (as.map (mx_v g.2.2.2.1)) := ⟨mx_blind g _ h, hcell0 H locs hS, fun U hU hW => ⟨rfl, hwd U hU hW⟩⟩
  have hini : (Cond.initialized z.2.2.2.1.cls).before args s = true := mx_gw_use hts gm.2.2.1 rfl
  have hin : (Cond.instanceMethod z.2.2.2.1).before args s = true := mx_gw_use hts gm.2.2.2.1 rfl
  have hse : (Cond.selects z.2.2.2.1.cls z.2.2.2.1 z.2.2.2.1).before args s = true := mx_gw_use hts gm.2.2.2.2 rfl
  exact mx_after (a9 := (Value.ref (g.2.2.2.1 a) :: as.map (mx_v g.2.2.2.1)).toArray) (rest := rest) (va_runV (C := z.2.2.2.1.cls) (As := as.map (mx_v g.2.2.2.1)) ⟨hx, hb, hml, hown, hts⟩ hM ⟨callB_of np hts (mx_goodws gm) rfl rfl rfl hini (mx_gw_use hts hlk rfl) ⟨gm.1.2.1, gm.1.2.2.1, hnp⟩ (mx_room hrk gm.1.2.2.2.1), hin, hse⟩ hpre rfl (by simpa using hlen) hl.1 hst hW8 hd ⟨Nat.zero_le _, Nat.zero_le _⟩) hS hl hn kk
/-- the cell of a text -/
theorem mx_txt_cell (X : mx_Fx p s m args meth c g y) {i : Nat} (hi : i < 42) : ∀ (H : Heap) (locs : List Loc), va_S (mx_A g.2.2.2.2) s.heap H locs → ∃ cellB : Cell, H[g.2.2.2.1 (3000 + i)]? = some cellB ∧ cellB.vm.isStatics = false ∧ s.vm.findClass "java/lang/String" = some cellB.cls := by
  intro H locs hS
  obtain ⟨cell, c1, c2, c3, -⟩ := ((X.2.2.2.2.2.2.2.2.1.2.2.2.2.2.1).1 i hi).1.kept hS.2.1
  exact ⟨cell, c1, c2, c3⟩
theorem mx_met_coder {i : Nat} (hi : i < 42) : mx_Met l g mj_coder [.ref (3000 + i)] h (some (.int 0), h) := by
  refine mx_met_of gm_mj_coder (Nat.le_of_ble_eq_true rfl) (fun p e s m args below meth c X => ?_)
  have hK := (X.2.2.2.2.2.2.2.2.1.2.2.2.2.2.1).1 i hi
  refine mx_ok_gst (v := .int 1) X X.2.2.2.2.2.2.2.2.1.2.2.2.2.2.2.1 jw_comp dJ0_coder_7d493_0 ?_
  refine mx_ok_if (t := 13) X rfl dJ0_coder_7d493_3 ?_
  refine mx_ok_load_a (v := .ref (3000 + i)) X rfl rfl (Or.inl ⟨0, rfl, rfl, dJ0_coder_7d493_6⟩) ?_
  refine mx_ok_gof (v := .int 0) X hK.2.1 jw_coder dJ0_coder_7d493_7 ?_
  refine mx_ok_goto (t := 14) X rfl dJ0_coder_7d493_10 ?_
  exact mx_ok_ireturn X rfl rfl dJ0_coder_7d493_14
theorem mx_met_isL {i : Nat} (hi : i < 42) : mx_Met l g mj_isL [.ref (3000 + i)] h (some (.int 1), h) := by
  refine mx_met_of gm_mj_isL (Nat.le_of_ble_eq_true rfl) (fun p e s m args below meth c X => ?_)
  have hK := (X.2.2.2.2.2.2.2.2.1.2.2.2.2.2.1).1 i hi
  refine mx_ok_gst (v := .int 1) X X.2.2.2.2.2.2.2.2.1.2.2.2.2.2.2.1 jw_comp dJ0_isLatin1_aae02_0 ?_
  refine mx_ok_if (t := 17) X rfl dJ0_isLatin1_aae02_3 ?_
  refine mx_ok_load_a (v := .ref (3000 + i)) X rfl rfl (Or.inl ⟨0, rfl, rfl, dJ0_isLatin1_aae02_6⟩) ?_
  refine mx_ok_gof (v := .int 0) X hK.2.1 jw_coder dJ0_isLatin1_aae02_7 ?_
  refine mx_ok_if (t := 17) X rfl dJ0_isLatin1_aae02_10 ?_
  refine fun H locs ls hP hD hS hl hn => lv_iconst (v := 1) X.1 X.2.1 dJ0_isLatin1_aae02_13 rfl ?_
  refine mx_ok_goto (S := [.int 1]) (t := 18) X rfl dJ0_isLatin1_aae02_14 ?_ H locs ls hP hD hS hl hn
  exact mx_ok_ireturn X rfl rfl dJ0_isLatin1_aae02_18
theorem mx_met_len {i : Nat} (hi : i < 42) : mx_Met l g mj_len [.ref (3000 + i)] h (some (.int (Int32.ofNat (mx_txt i).length)), h) := by
  refine mx_met_of gm_mj_len (Nat.le_of_ble_eq_true rfl) (fun p e s m args below meth c X => ?_)
  have hK := (X.2.2.2.2.2.2.2.2.1.2.2.2.2.2.1).1 i hi
  refine mx_ok_load_a (v := .ref (3000 + i)) X rfl rfl (Or.inl ⟨0, rfl, rfl, dJ0_length_8abf5_0⟩) ?_
  refine mx_ok_gof (v := .ref (4000 + i)) X hK.2.2.1 jw_value dJ0_length_8abf5_1 ?_
  have hlen : (mx_txtL.map List.length).getD i 0 = (mx_txt i).length := by
    unfold mx_txt
    rw [List.getD_eq_getElem?_getD, List.getD_eq_getElem?_getD, List.getElem?_map]
    cases mx_txtL[i]? <;> rfl
  refine fun H locs ls hP hD hS hl hn => va_tlen (v := Int32.ofNat (mx_txt i).length) X.1 X.2.1 hK.2.2.2 hS (by rw [hlen]) dJ0_length_8abf5_4 ?_
  refine mx_ok_load_a (S := [.int (Int32.ofNat (mx_txt i).length)]) (v := .ref (3000 + i)) X rfl rfl (Or.inl ⟨0, rfl, rfl, dJ0_length_8abf5_5⟩) ?_ H locs ls hP hD hS hl hn
  refine mx_ok_callC (z := mj_coder) (np := 0) (as := []) (rest := [.int (Int32.ofNat (mx_txt i).length)]) X jw_mcoder gm_mj_coder (by decide +kernel) rfl (Nat.le_of_ble_eq_true rfl) (Nat.le_of_ble_eq_true rfl) (mx_txt_cell X hi) (mx_met_coder hi) dJ0_length_8abf5_6 ?_
  refine fun H locs ls hP hD hS hl hn => lv_ishr X.1 X.2.1 dJ0_length_8abf5_9 ?_
  have e0 : Int32.ofNat (mx_txt i).length >>> ((0 : Int32) &&& 31) = Int32.ofNat (mx_txt i).length := sb_shr0 _
  rw [e0]
  exact mx_ok_ireturn (x := Int32.ofNat (mx_txt i).length) X rfl (vp_nar_int _) dJ0_length_8abf5_10 H locs ls hP hD hS hl hn
theorem mx_met_chk3 {x n : Int32} {v : Value} (hv : mx_ar v = true) (h0 : ¬ x < 0) (h1 : x < n) : mx_Met l g mj_chk3 [.int x, .int n, v] h (some (.int x), h) := by
  have hpad : mx_pad 3 (mx_lay [.int x, .int n, v]) = [.int x, .int n, v] := by cases v <;> first | rfl | cases hv
  refine mx_met_of gm_mj_chk3 (by cases v <;> first | exact Nat.le_of_ble_eq_true rfl | cases hv) (fun p e s m args below meth c X => ?_)
  rw [show mj_chk3.2.2.2.2.2.1 = 3 from rfl, hpad]
  refine mx_ok_load_i X rfl (Or.inl ⟨0, rfl, rfl, dJ3_checkIndex_8e157_0⟩) ?_
  refine mx_ok_if (t := 9) X rfl dJ3_checkIndex_8e157_1 ?_
  rw [if_neg (by simpa [mx_cmp] using h0)]
  refine mx_ok_load_i X rfl (Or.inl ⟨0, rfl, rfl, dJ3_checkIndex_8e157_4⟩) ?_
  refine mx_ok_load_i X rfl (Or.inl ⟨1, rfl, rfl, dJ3_checkIndex_8e157_5⟩) ?_
  refine mx_ok_icmp (t := 16) X rfl dJ3_checkIndex_8e157_6 ?_
  rw [if_pos (by simpa [mx_cmp] using h1)]
  refine mx_ok_load_i X rfl (Or.inl ⟨0, rfl, rfl, dJ3_checkIndex_8e157_16⟩) ?_
  exact mx_ok_ireturn X rfl (vp_nar_int _) dJ3_checkIndex_8e157_17
theorem mx_met_chk {x n : Int32} (h0 : ¬ x < 0) (h1 : x < n) : mx_Met l g mj_chk [.int x, .int n] h (none, h) := by
  refine mx_met_of gm_mj_chk (Nat.le_of_ble_eq_true rfl) (fun p e s m args below meth c X => ?_)
  refine mx_ok_load_i X rfl (Or.inl ⟨0, rfl, rfl, dJ0_checkIndex_df160_0⟩) ?_
  refine mx_ok_load_i X rfl (Or.inl ⟨1, rfl, rfl, dJ0_checkIndex_df160_1⟩) ?_
  have key : ∀ v : Value, mx_ar v = true → mx_cat1 v = true → va_Z "jdk/internal/util/Preconditions" "SIOOBE_FORMATTER" "Ljava/util/function/BiFunction;" (mx_v g.2.2.2.1 v) (mx_A g.2.2.2.2) s s.heap → mx_Ok p l e s m args below meth c g (none, h) (mx_rank mj_chk [.int x, .int n]) mj_chk 2 [.int x, .int n] [.int n, .int x] h := by
    intro v hv hv1 hz
    refine mx_ok_gst (v := v) X hz jw_sio dJ0_checkIndex_df160_2 ?_
    refine mx_ok_callS (z := mj_chk3) (np := 3) (as := [.int x, .int n, v]) (rest := []) X (Or.inl jw_mchk3) gm_mj_chk3 (by decide +kernel) rfl (Nat.le_of_ble_eq_true rfl) (by show (0 : Nat) < 1; decide) (mx_met_chk3 hv h0 h1) dJ0_checkIndex_df160_5 ?_
    refine fun H locs ls hP hD hS hl hn => lv_pop X.1 X.2.1 dJ0_checkIndex_df160_8 rfl ?_
    exact mx_ok_return X rfl dJ0_checkIndex_df160_9 H locs ls hP hD hS hl hn
  rcases X.2.2.2.2.2.2.2.2.1.2.2.2.2.2.2.2 with hz | hz
  · exact key .null rfl rfl hz
  · exact key (.ref 5000) rfl rfl hz
theorem mx_chr_val : ∀ i, i < 42 → ∀ j, j < (mx_txt i).length → ((((mx_bytL.getD i []).getD j 0) &&& 255).toUInt32 % 65536).toInt32 = Int32.ofNat ((mx_txt i).getD j 0) ∧ narrow .char (.int (Int32.ofNat ((mx_txt i).getD j 0))) = .int (Int32.ofNat ((mx_txt i).getD j 0)) := by decide +kernel
theorem mx_met_chr1 {i : Nat} {x : Int32} (hi : i < 42) (hx : vp_in x (mx_txt i).length) : mx_Met l g mj_chr1 [.ref (4000 + i), .int x] h (some (.int (Int32.ofNat ((mx_txt i).getD x.toNatClampNeg 0))), h) := by
  refine mx_met_of gm_mj_chr1 (Nat.le_of_ble_eq_true rfl) (fun p e s m args below meth c X => ?_)
  have hK := (X.2.2.2.2.2.2.2.2.1.2.2.2.2.2.1).1 i hi
  have hlen : (mx_txtL.map List.length).getD i 0 = (mx_txt i).length := by
    unfold mx_txt
    rw [List.getD_eq_getElem?_getD, List.getD_eq_getElem?_getD, List.getElem?_map]
    cases mx_txtL[i]? <;> rfl
  have hT := hK.2.2.2
  rw [hlen] at hT
  have hsm : (mx_txt i).length < 2 ^ 31 := by
    have : ∀ i, i < 42 → (mx_txt i).length < 2 ^ 31 := by decide +kernel
    exact this i hi
  obtain ⟨j, hj, hxj⟩ := vp_in_of hx hsm
  have hcl : x.toNatClampNeg = j := by rw [hxj]; exact nI_clamp (by omega)
  refine mx_ok_load_i X rfl (Or.inl ⟨1, rfl, rfl, dJ1_charAt_3b067_0⟩) ?_
  refine mx_ok_load_a (v := .ref (4000 + i)) X rfl rfl (Or.inl ⟨0, rfl, rfl, dJ1_charAt_3b067_1⟩) ?_
  refine fun H locs ls hP hD hS hl hn => va_tlen (v := Int32.ofNat (mx_txt i).length) X.1 X.2.1 hT hS rfl dJ1_charAt_3b067_2 ?_
  have h0 : ¬ x < 0 := fun z => hx (Or.inl z)
  have h1 : x < Int32.ofNat (mx_txt i).length := by rw [hxj]; exact nI_lt hj hsm
  refine mx_ok_callS (z := mj_chk) (np := 2) (as := [.int x, .int (Int32.ofNat (mx_txt i).length)]) (rest := []) X (Or.inl jw_mchk) gm_mj_chk (by decide +kernel) rfl (Nat.le_of_ble_eq_true rfl) (by show (1 : Nat) < 2; decide) (mx_met_chk h0 h1) dJ1_charAt_3b067_3 ?_ H locs ls hP hD hS hl hn
  refine mx_ok_load_a (v := .ref (4000 + i)) X rfl rfl (Or.inl ⟨0, rfl, rfl, dJ1_charAt_3b067_6⟩) ?_
  refine mx_ok_load_i X rfl (Or.inl ⟨1, rfl, rfl, dJ1_charAt_3b067_7⟩) ?_
  refine fun H locs ls hP hD hS hl hn => va_tb X.1 X.2.1 hT hS hx rfl dJ1_charAt_3b067_8 ?_
  refine lv_sipush (v := 255) X.1 X.2.1 dJ1_charAt_3b067_9 rfl ?_
  refine lv_iand X.1 X.2.1 dJ1_charAt_3b067_12 ?_
  obtain ⟨q1, q2⟩ := mx_chr_val i hi j hj
  refine lv_i2c (v := Int32.ofNat ((mx_txt i).getD x.toNatClampNeg 0)) X.1 X.2.1 dJ1_charAt_3b067_13 (by rw [hcl]; exact q1) ?_
  exact mx_ok_ireturn (x := Int32.ofNat ((mx_txt i).getD x.toNatClampNeg 0)) X rfl (by rw [hcl]; exact q2) dJ1_charAt_3b067_14 H locs ls hP hD hS hl hn
theorem mx_met_chr {i : Nat} {x : Int32} (hi : i < 42) (hx : vp_in x (mx_txt i).length) : mx_Met l g mj_chr [.ref (3000 + i), .int x] h (some (.int (Int32.ofNat ((mx_txt i).getD x.toNatClampNeg 0))), h) := by
  refine mx_met_of gm_mj_chr (Nat.le_of_ble_eq_true rfl) (fun p e s m args below meth c X => ?_)
  have hK := (X.2.2.2.2.2.2.2.2.1.2.2.2.2.2.1).1 i hi
  have hsm : (mx_txt i).length < 2 ^ 31 := by
    have : ∀ i, i < 42 → (mx_txt i).length < 2 ^ 31 := by decide +kernel
    exact this i hi
  obtain ⟨j, hj, hxj⟩ := vp_in_of hx hsm
  have hcl : x.toNatClampNeg = j := by rw [hxj]; exact nI_clamp (by omega)
  obtain ⟨q1, q2⟩ := mx_chr_val i hi j hj
  refine mx_ok_load_a (v := .ref (3000 + i)) X rfl rfl (Or.inl ⟨0, rfl, rfl, dJ0_charAt_5068e_0⟩) ?_
  refine mx_ok_callC (z := mj_isL) (as := []) (rest := []) X jw_misL gm_mj_isL (by decide +kernel) rfl (Nat.le_of_ble_eq_true rfl) (by show (0 : Nat) < 3; decide) (mx_txt_cell X hi) (mx_met_isL hi) dJ0_charAt_5068e_1 ?_
  refine mx_ok_if (S := []) (t := 16) X rfl dJ0_charAt_5068e_4 ?_
  refine mx_ok_load_a (v := .ref (3000 + i)) X rfl rfl (Or.inl ⟨0, rfl, rfl, dJ0_charAt_5068e_7⟩) ?_
  refine mx_ok_gof (v := .ref (4000 + i)) X hK.2.2.1 jw_value dJ0_charAt_5068e_8 ?_
  refine mx_ok_load_i X rfl (Or.inl ⟨1, rfl, rfl, dJ0_charAt_5068e_11⟩) ?_
  refine mx_ok_callS (z := mj_chr1) (np := 2) (as := [.ref (4000 + i), .int x]) (rest := []) X (Or.inl jw_mchr1) gm_mj_chr1 (by decide +kernel) rfl (Nat.le_of_ble_eq_true rfl) (by show (2 : Nat) < 3; decide) (mx_met_chr1 hi hx) dJ0_charAt_5068e_12 ?_
  exact mx_ok_ireturn (x := Int32.ofNat ((mx_txt i).getD x.toNatClampNeg 0)) X rfl (by rw [hcl]; exact q2) dJ0_charAt_5068e_15
end BI
