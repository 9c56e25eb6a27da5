theorem mx_gw_in {ws : List Cond} (ps : List Nat) (hp : ws = ps.filterMap (fun i => lw_tbl[i]?)) (h : ws.all goodWord = true) : ∀ w ∈ ws, w ∈ mx_gw := by
  intro w hw
  refine List.mem_filter.mpr ⟨?_, List.all_eq_true.mp h w hw⟩
  rw [hp] at hw
  obtain ⟨i, -, hi⟩ := List.mem_filterMap.mp hw
  exact List.mem_of_getElem? hi
theorem uw_X1 : ∀ w ∈ u_ws RX1 TX1 7, w ∈ mx_gw := mx_gw_in [306, 308, 310, 312, 314, 316, 318] (by decide +kernel) (by decide +kernel)
theorem uw_X2 : ∀ w ∈ u_ws RX2 TX2 5, w ∈ mx_gw := mx_gw_in [342, 344, 346, 348, 350] (by decide +kernel) (by decide +kernel)
theorem uw_X3 : ∀ w ∈ u_ws RX3 TX3 6, w ∈ mx_gw := mx_gw_in [280, 282, 284, 286, 288, 290] (by decide +kernel) (by decide +kernel)
theorem uw_X4 : ∀ w ∈ u_ws RX4 TX4 12, w ∈ mx_gw := mx_gw_in [238, 240, 242, 244, 246, 248, 250, 252, 254, 256, 258, 260] (by decide +kernel) (by decide +kernel)
theorem uw_X5 : ∀ w ∈ u_ws RX5 TX5 10, w ∈ mx_gw := mx_gw_in [195, 197, 199, 201, 203, 205, 207, 209, 211, 213] (by decide +kernel) (by decide +kernel)
theorem uw_X6 : ∀ w ∈ u_ws RX6 TX6 14, w ∈ mx_gw := mx_gw_in [367, 369, 371, 373, 375, 377, 379, 381, 383, 385, 387, 389, 391, 393] (by decide +kernel) (by decide +kernel)
theorem uw_X7 : ∀ w ∈ u_ws RX7 TX7 5, w ∈ mx_gw := mx_gw_in [162, 164, 166, 168, 170] (by decide +kernel) (by decide +kernel)
theorem uw_X8 : ∀ w ∈ u_ws RX8 TX8 6, w ∈ mx_gw := mx_gw_in [133, 135, 137, 139, 141, 143] (by decide +kernel) (by decide +kernel)
theorem uw_X10 : ∀ w ∈ u_ws RX10 TX10 11, w ∈ mx_gw := mx_gw_in [408, 410, 412, 414, 416, 418, 420, 422, 424, 426, 428] (by decide +kernel) (by decide +kernel)
theorem uw_X11 : ∀ w ∈ u_ws RX11 TX11 41, w ∈ mx_gw := mx_gw_in [1108, 1110, 1112, 1114, 1116, 1118, 1120, 1122, 1124, 1126, 1128, 1130, 1132, 1134, 1136, 1138, 1140, 1142, 1144, 1146, 1148, 1150, 1152, 1154, 1156, 1158, 1160, 1162, 1164, 1166, 1168, 1170, 1172, 1174, 1176, 1178, 1180, 1182, 1184, 1186, 1188] (by decide +kernel) (by decide +kernel)
theorem mx_uw {ci : Nat} {C : String} {T : u_T} {N : Nat} (hv : vwCl[ci]? = some (C, T, N)) : (∀ w ∈ u_ws C T N, w ∈ mx_gw) ∧ ∃ ty0 : Nat → FieldType, (∀ k, k < N → parseFieldDescriptor (T k).2.2.1 = some (ty0 k)) ∧ ∀ a, a < N → ∀ b, b < N → a ≠ b → (T a).2.1 ≠ (T b).2.1 :=
  match ci, hv with
  | 0, hv => by cases hv; exact ⟨uw_X1, tyX1, tyX1_ok, nmX1⟩
  | 1, hv => by cases hv; exact ⟨uw_X2, tyX2, tyX2_ok, nmX2⟩
  | 2, hv => by cases hv; exact ⟨uw_X3, tyX3, tyX3_ok, nmX3⟩
  | 3, hv => by cases hv; exact ⟨uw_X4, tyX4, tyX4_ok, nmX4⟩
  | 4, hv => by cases hv; exact ⟨uw_X5, tyX5, tyX5_ok, nmX5⟩
  | 5, hv => by cases hv; exact ⟨uw_X6, tyX6, tyX6_ok, nmX6⟩
  | 6, hv => by cases hv; exact ⟨uw_X7, tyX7, tyX7_ok, nmX7⟩
  | 7, hv => by cases hv; exact ⟨uw_X8, tyX8, tyX8_ok, nmX8⟩
  | 8, hv => by cases hv; exact ⟨uw_X10, tyX10, tyX10_ok, nmX10⟩
  | 9, hv => by cases hv; exact ⟨uw_X11, tyX11, tyX11_ok, nmX11⟩
  | n + 10, hv => by simp at hv
