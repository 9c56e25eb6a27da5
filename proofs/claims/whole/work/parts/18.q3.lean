section Q3
variable {rk : Nat} {m : mx_M} {pc : Nat} {L S : List Value} {h : mx_H}
theorem q_call0 {ix np a : Nat} {y : mx_M} {as rest : List Value} {fk : List (Nat ⊕ Bool)} (hd : decode m.2.2.2.2.1 pc = .ok (.invokevirtual ix, 3)) (hi : mx_inv m.2.2.1 ix = some (0, np, y)) (hS : S = as.reverse ++ .ref a :: rest) (hn : as.length = np) (hsh : mx_shp a = some (.inl (mx_ci y.2.2.1, fk))) (hr : mx_ws8 rest ≤ 8 ∧ (mx_lay (.ref a :: as)).length ≤ y.2.2.2.2.2.1 ∧ mx_rank y (.ref a :: as) < rk) : mx_D (rk, m, pc, L, S) h = (mx_C y (.ref a :: as) h).bind (fun o => mx_D (rk, m, pc + 3, L, o.1.toList ++ rest) o.2) := by
  refine q_callV hd hi (Or.inl rfl) ?_
  subst hS
  have e1 : (as.reverse ++ .ref a :: rest).take (np + 1) = as.reverse ++ [.ref a] := by
    rw [show as.reverse ++ .ref a :: rest = (as.reverse ++ [.ref a]) ++ rest by simp, List.take_append_of_le_length (by simp [hn]), List.take_of_length_le (by simp [hn])]
  have e2 : (as.reverse ++ .ref a :: rest).drop (np + 1) = rest := by
    rw [show as.reverse ++ .ref a :: rest = (as.reverse ++ [.ref a]) ++ rest by simp, List.drop_append_of_le_length (by simp [hn]), List.drop_of_length_le (by simp [hn])]
    rfl
  unfold mx_call
  dsimp only
  rw [if_neg (by decide : ¬ (0 : Nat) = 1), e1, e2]
  have e3 : (as.reverse ++ [Value.ref a]).reverse = .ref a :: as := by simp
  rw [e3, if_pos ⟨by simp; omega, hr⟩]
  simp only [hsh]
  exact if_pos trivial
theorem q_call1 {ix np : Nat} {y : mx_M} {as rest : List Value} (hd : decode m.2.2.2.2.1 pc = .ok (.invokestatic ix, 3)) (hi : mx_inv m.2.2.1 ix = some (1, np, y)) (hS : S = as.reverse ++ rest) (hn : as.length = np) (hr : mx_ws8 rest ≤ 8 ∧ (mx_lay as).length ≤ y.2.2.2.2.2.1 ∧ mx_rank y as < rk) : mx_D (rk, m, pc, L, S) h = (mx_C y as h).bind (fun o => mx_D (rk, m, pc + 3, L, o.1.toList ++ rest) o.2) := by
  refine q_callS hd hi ?_
  subst hS
  have e1 : (as.reverse ++ rest).take np = as.reverse := by
    rw [List.take_append_of_le_length (by simp [hn]), List.take_of_length_le (by simp [hn])]
  have e2 : (as.reverse ++ rest).drop np = rest := by
    rw [List.drop_append_of_le_length (by simp [hn]), List.drop_of_length_le (by simp [hn])]
    rfl
  unfold mx_call
  dsimp only
  rw [if_pos rfl, e1, e2, List.reverse_reverse, if_pos ⟨by simp; omega, hr⟩]
  rfl
end Q3
theorem gf_0_0 (h : mx_H) : mx_getf h 0 8 0 = some (.ref 1) := rfl
theorem gf_0_1 (h : mx_H) : mx_getf h 0 8 1 = some (.ref 6) := rfl
theorem gf_0_2 (h : mx_H) : mx_getf h 0 8 2 = some (.ref 11) := rfl
theorem gf_0_3 (h : mx_H) : mx_getf h 0 8 3 = some (.ref 18) := rfl
theorem gf_0_4 (h : mx_H) : mx_getf h 0 8 4 = some (.ref 22) := rfl
theorem gf_0_5 (h : mx_H) : mx_getf h 0 8 5 = some (.ref 28) := rfl
theorem gf_0_6 (h : mx_H) : mx_getf h 0 8 6 = some (.ref 33) := rfl
theorem gf_0_7 (h : mx_H) : mx_getf h 0 8 7 = some (.ref 46) := rfl
theorem gf_0_8 (h : mx_H) : mx_getf h 0 8 8 = some (.int (h.1 0 8)) := rfl
theorem gf_0_9 (h : mx_H) : mx_getf h 0 8 9 = some (.int (h.1 0 9)) := rfl
theorem gf_0_10 (h : mx_H) : mx_getf h 0 8 10 = some (.int (h.1 0 10)) := rfl
theorem gf_1_0 (h : mx_H) : mx_getf h 1 7 0 = some (.ref 2) := rfl
theorem gf_1_1 (h : mx_H) : mx_getf h 1 7 1 = some (.int (h.1 1 1)) := rfl
theorem gf_1_2 (h : mx_H) : mx_getf h 1 7 2 = some (.ref 3) := rfl
theorem gf_1_3 (h : mx_H) : mx_getf h 1 7 3 = some (.ref 4) := rfl
theorem gf_1_4 (h : mx_H) : mx_getf h 1 7 4 = some (.ref 5) := rfl
theorem gf_1_5 (h : mx_H) : mx_getf h 1 7 5 = some (.int (h.1 1 5)) := rfl
theorem gf_6_0 (h : mx_H) : mx_getf h 6 6 0 = some (.ref 7) := rfl
theorem gf_6_1 (h : mx_H) : mx_getf h 6 6 1 = some (.ref 8) := rfl
theorem gf_6_2 (h : mx_H) : mx_getf h 6 6 2 = some (.ref 9) := rfl
theorem gf_6_3 (h : mx_H) : mx_getf h 6 6 3 = some (.ref 10) := rfl
theorem gf_6_4 (h : mx_H) : mx_getf h 6 6 4 = some (.int (h.1 6 4)) := rfl
theorem gf_11_0 (h : mx_H) : mx_getf h 11 4 0 = some (.ref 12) := rfl
theorem gf_11_1 (h : mx_H) : mx_getf h 11 4 1 = some (.ref 13) := rfl
theorem gf_11_2 (h : mx_H) : mx_getf h 11 4 2 = some (.int (h.1 11 2)) := rfl
theorem gf_11_3 (h : mx_H) : mx_getf h 11 4 3 = some (.int (h.1 11 3)) := rfl
theorem gf_11_4 (h : mx_H) : mx_getf h 11 4 4 = some (.ref 14) := rfl
theorem gf_11_5 (h : mx_H) : mx_getf h 11 4 5 = some (.int (h.1 11 5)) := rfl
theorem gf_11_6 (h : mx_H) : mx_getf h 11 4 6 = some (.ref 15) := rfl
theorem gf_11_7 (h : mx_H) : mx_getf h 11 4 7 = some (.ref 16) := rfl
theorem gf_11_8 (h : mx_H) : mx_getf h 11 4 8 = some (.ref 17) := rfl
theorem gf_11_9 (h : mx_H) : mx_getf h 11 4 9 = some (.int (h.1 11 9)) := rfl
theorem gf_18_0 (h : mx_H) : mx_getf h 18 3 0 = some (.ref 1) := rfl
theorem gf_18_1 (h : mx_H) : mx_getf h 18 3 1 = some (.ref 6) := rfl
theorem gf_18_2 (h : mx_H) : mx_getf h 18 3 2 = some (.ref 11) := rfl
theorem gf_18_3 (h : mx_H) : mx_getf h 18 3 3 = some (.int (h.1 18 3)) := rfl
theorem gf_18_4 (h : mx_H) : mx_getf h 18 3 4 = some (.int (h.1 18 4)) := rfl
theorem gf_18_5 (h : mx_H) : mx_getf h 18 3 5 = some (.int (h.1 18 5)) := rfl
theorem gf_18_6 (h : mx_H) : mx_getf h 18 3 6 = some (.int (h.1 18 6)) := rfl
theorem gf_18_7 (h : mx_H) : mx_getf h 18 3 7 = some (.int (h.1 18 7)) := rfl
theorem gf_18_8 (h : mx_H) : mx_getf h 18 3 8 = some (.ref 19) := rfl
theorem gf_18_9 (h : mx_H) : mx_getf h 18 3 9 = some (.ref 20) := rfl
theorem gf_18_10 (h : mx_H) : mx_getf h 18 3 10 = some (.ref 21) := rfl
theorem gf_18_11 (h : mx_H) : mx_getf h 18 3 11 = some (.int (h.1 18 11)) := rfl
theorem gf_22_0 (h : mx_H) : mx_getf h 22 2 0 = some (.ref 23) := rfl
theorem gf_22_1 (h : mx_H) : mx_getf h 22 2 1 = some (.ref 24) := rfl
theorem gf_22_2 (h : mx_H) : mx_getf h 22 2 2 = some (.ref 25) := rfl
theorem gf_22_3 (h : mx_H) : mx_getf h 22 2 3 = some (.ref 26) := rfl
theorem gf_22_4 (h : mx_H) : mx_getf h 22 2 4 = some (.ref 27) := rfl
theorem gf_22_5 (h : mx_H) : mx_getf h 22 2 5 = some (.int (h.1 22 5)) := rfl
theorem gf_28_0 (h : mx_H) : mx_getf h 28 0 0 = some (.ref 6) := rfl
theorem gf_28_1 (h : mx_H) : mx_getf h 28 0 1 = some (.ref 22) := rfl
theorem gf_28_2 (h : mx_H) : mx_getf h 28 0 2 = some (.ref 29) := rfl
theorem gf_28_3 (h : mx_H) : mx_getf h 28 0 3 = some (.int (h.1 28 3)) := rfl
theorem gf_28_4 (h : mx_H) : mx_getf h 28 0 4 = some (.ref 30) := rfl
theorem gf_28_5 (h : mx_H) : mx_getf h 28 0 5 = some (.ref 31) := rfl
theorem gf_28_6 (h : mx_H) : mx_getf h 28 0 6 = some (.ref 32) := rfl
theorem gf_33_0 (h : mx_H) : mx_getf h 33 5 0 = some (.ref 22) := rfl
theorem gf_33_1 (h : mx_H) : mx_getf h 33 5 1 = some (.ref 34) := rfl
theorem gf_33_2 (h : mx_H) : mx_getf h 33 5 2 = some (.ref 39) := rfl
theorem gf_33_3 (h : mx_H) : mx_getf h 33 5 3 = some (.int (h.1 33 3)) := rfl
theorem gf_33_4 (h : mx_H) : mx_getf h 33 5 4 = some (.ref 40) := rfl
theorem gf_33_5 (h : mx_H) : mx_getf h 33 5 5 = some (.ref 41) := rfl
theorem gf_33_6 (h : mx_H) : mx_getf h 33 5 6 = some (.ref 42) := rfl
theorem gf_33_7 (h : mx_H) : mx_getf h 33 5 7 = some (.ref 43) := rfl
theorem gf_33_8 (h : mx_H) : mx_getf h 33 5 8 = some (.ref 44) := rfl
theorem gf_33_9 (h : mx_H) : mx_getf h 33 5 9 = some (.int (h.1 33 9)) := rfl
theorem gf_33_10 (h : mx_H) : mx_getf h 33 5 10 = some (.int (h.1 33 10)) := rfl
theorem gf_33_11 (h : mx_H) : mx_getf h 33 5 11 = some (.int (h.1 33 11)) := rfl
theorem gf_33_12 (h : mx_H) : mx_getf h 33 5 12 = some (.ref 45) := rfl
theorem gf_33_13 (h : mx_H) : mx_getf h 33 5 13 = some (.int (h.1 33 13)) := rfl
theorem gf_34_0 (h : mx_H) : mx_getf h 34 1 0 = some (.ref 35) := rfl
theorem gf_34_1 (h : mx_H) : mx_getf h 34 1 1 = some (.ref 36) := rfl
theorem gf_34_2 (h : mx_H) : mx_getf h 34 1 2 = some (.int (h.1 34 2)) := rfl
theorem gf_34_3 (h : mx_H) : mx_getf h 34 1 3 = some (.ref 37) := rfl
theorem gf_34_4 (h : mx_H) : mx_getf h 34 1 4 = some (.ref 38) := rfl
theorem gf_47_0 (h : mx_H) : mx_getf h 47 9 0 = some (.ref 48) := rfl
theorem gf_47_1 (h : mx_H) : mx_getf h 47 9 1 = some (.int (h.1 47 1)) := rfl
theorem gf_47_2 (h : mx_H) : mx_getf h 47 9 2 = some (.int (h.1 47 2)) := rfl
theorem gf_47_3 (h : mx_H) : mx_getf h 47 9 3 = some (.int (h.1 47 3)) := rfl
theorem gf_47_4 (h : mx_H) : mx_getf h 47 9 4 = some (.int (h.1 47 4)) := rfl
theorem gf_47_5 (h : mx_H) : mx_getf h 47 9 5 = some (.long (h.2.1 47 5)) := rfl
theorem gf_47_6 (h : mx_H) : mx_getf h 47 9 6 = some (.long (h.2.1 47 6)) := rfl
theorem gf_47_7 (h : mx_H) : mx_getf h 47 9 7 = some (.int (h.1 47 7)) := rfl
theorem gf_47_8 (h : mx_H) : mx_getf h 47 9 8 = some (.int (h.1 47 8)) := rfl
theorem gf_47_9 (h : mx_H) : mx_getf h 47 9 9 = some (.int (h.1 47 9)) := rfl
theorem gf_47_10 (h : mx_H) : mx_getf h 47 9 10 = some (.ref 49) := rfl
theorem gf_47_11 (h : mx_H) : mx_getf h 47 9 11 = some (.ref 50) := rfl
theorem gf_47_12 (h : mx_H) : mx_getf h 47 9 12 = some (.ref 51) := rfl
theorem gf_47_13 (h : mx_H) : mx_getf h 47 9 13 = some (.ref 52) := rfl
theorem gf_47_14 (h : mx_H) : mx_getf h 47 9 14 = some (.ref 53) := rfl
theorem gf_47_15 (h : mx_H) : mx_getf h 47 9 15 = some (.ref 54) := rfl
theorem gf_47_16 (h : mx_H) : mx_getf h 47 9 16 = some (.ref 55) := rfl
theorem gf_47_17 (h : mx_H) : mx_getf h 47 9 17 = some (.int (h.1 47 17)) := rfl
theorem gf_47_18 (h : mx_H) : mx_getf h 47 9 18 = some (.int (h.1 47 18)) := rfl
theorem gf_47_19 (h : mx_H) : mx_getf h 47 9 19 = some (.ref 56) := rfl
theorem gf_47_20 (h : mx_H) : mx_getf h 47 9 20 = some (.ref 57) := rfl
theorem gf_47_21 (h : mx_H) : mx_getf h 47 9 21 = some (.ref 58) := rfl
theorem gf_47_22 (h : mx_H) : mx_getf h 47 9 22 = some (.ref 59) := rfl
theorem gf_47_23 (h : mx_H) : mx_getf h 47 9 23 = some (.ref 60) := rfl
theorem gf_47_24 (h : mx_H) : mx_getf h 47 9 24 = some (.ref 61) := rfl
theorem gf_47_25 (h : mx_H) : mx_getf h 47 9 25 = some (.ref 62) := rfl
theorem gf_47_26 (h : mx_H) : mx_getf h 47 9 26 = some (.int (h.1 47 26)) := rfl
theorem gf_47_27 (h : mx_H) : mx_getf h 47 9 27 = some (.int (h.1 47 27)) := rfl
theorem gf_47_28 (h : mx_H) : mx_getf h 47 9 28 = some (.int (h.1 47 28)) := rfl
theorem gf_47_29 (h : mx_H) : mx_getf h 47 9 29 = some (.ref 63) := rfl
theorem gf_47_30 (h : mx_H) : mx_getf h 47 9 30 = some (.ref 64) := rfl
theorem gf_47_31 (h : mx_H) : mx_getf h 47 9 31 = some (.int (h.1 47 31)) := rfl
theorem gf_47_32 (h : mx_H) : mx_getf h 47 9 32 = some (.ref 65) := rfl
theorem gf_47_33 (h : mx_H) : mx_getf h 47 9 33 = some (.int (h.1 47 33)) := rfl
theorem gf_47_34 (h : mx_H) : mx_getf h 47 9 34 = some (.ref 66) := rfl
theorem gf_47_35 (h : mx_H) : mx_getf h 47 9 35 = some (.ref 67) := rfl
theorem gf_47_36 (h : mx_H) : mx_getf h 47 9 36 = some (.ref 68) := rfl
theorem gf_47_37 (h : mx_H) : mx_getf h 47 9 37 = some (.ref 69) := rfl
theorem gf_47_38 (h : mx_H) : mx_getf h 47 9 38 = some (.int (h.1 47 38)) := rfl
theorem gf_47_39 (h : mx_H) : mx_getf h 47 9 39 = some (.ref 70) := rfl
theorem gf_47_40 (h : mx_H) : mx_getf h 47 9 40 = some (.ref 71) := rfl
theorem pf_0_8 (h : mx_H) (x : Int32) : mx_putf h 0 8 8 (.int x) = some (mx_u h.1 0 8 x, h.2.1, h.2.2) := rfl
theorem pf_0_9 (h : mx_H) (x : Int32) : mx_putf h 0 8 9 (.int x) = some (mx_u h.1 0 9 x, h.2.1, h.2.2) := rfl
theorem pf_0_10 (h : mx_H) (x : Int32) : mx_putf h 0 8 10 (.int x) = some (mx_u h.1 0 10 x, h.2.1, h.2.2) := rfl
theorem pf_1_1 (h : mx_H) (x : Int32) : mx_putf h 1 7 1 (.int x) = some (mx_u h.1 1 1 x, h.2.1, h.2.2) := rfl
theorem pf_1_5 (h : mx_H) (x : Int32) : mx_putf h 1 7 5 (.int x) = some (mx_u h.1 1 5 x, h.2.1, h.2.2) := rfl
theorem pf_6_4 (h : mx_H) (x : Int32) : mx_putf h 6 6 4 (.int x) = some (mx_u h.1 6 4 x, h.2.1, h.2.2) := rfl
theorem pf_11_2 (h : mx_H) (x : Int32) : mx_putf h 11 4 2 (.int x) = some (mx_u h.1 11 2 x, h.2.1, h.2.2) := rfl
theorem pf_11_3 (h : mx_H) (x : Int32) : mx_putf h 11 4 3 (.int x) = some (mx_u h.1 11 3 x, h.2.1, h.2.2) := rfl
theorem pf_11_5 (h : mx_H) (x : Int32) : mx_putf h 11 4 5 (.int x) = some (mx_u h.1 11 5 x, h.2.1, h.2.2) := rfl
theorem pf_11_9 (h : mx_H) (x : Int32) : mx_putf h 11 4 9 (.int x) = some (mx_u h.1 11 9 x, h.2.1, h.2.2) := rfl
theorem pf_18_3 (h : mx_H) (x : Int32) : mx_putf h 18 3 3 (.int x) = some (mx_u h.1 18 3 x, h.2.1, h.2.2) := rfl
theorem pf_18_4 (h : mx_H) (x : Int32) : mx_putf h 18 3 4 (.int x) = some (mx_u h.1 18 4 x, h.2.1, h.2.2) := rfl
theorem pf_18_5 (h : mx_H) (x : Int32) : mx_putf h 18 3 5 (.int x) = some (mx_u h.1 18 5 x, h.2.1, h.2.2) := rfl
theorem pf_18_6 (h : mx_H) (x : Int32) : mx_putf h 18 3 6 (.int x) = some (mx_u h.1 18 6 x, h.2.1, h.2.2) := rfl
theorem pf_18_7 (h : mx_H) (x : Int32) : mx_putf h 18 3 7 (.int x) = some (mx_u h.1 18 7 x, h.2.1, h.2.2) := rfl
theorem pf_18_11 (h : mx_H) (x : Int32) : mx_putf h 18 3 11 (.int x) = some (mx_u h.1 18 11 x, h.2.1, h.2.2) := rfl
theorem pf_22_5 (h : mx_H) (x : Int32) : mx_putf h 22 2 5 (.int x) = some (mx_u h.1 22 5 x, h.2.1, h.2.2) := rfl
theorem pf_28_3 (h : mx_H) (x : Int32) : mx_putf h 28 0 3 (.int x) = some (mx_u h.1 28 3 x, h.2.1, h.2.2) := rfl
theorem pf_33_3 (h : mx_H) (x : Int32) : mx_putf h 33 5 3 (.int x) = some (mx_u h.1 33 3 x, h.2.1, h.2.2) := rfl
theorem pf_33_9 (h : mx_H) (x : Int32) : mx_putf h 33 5 9 (.int x) = some (mx_u h.1 33 9 x, h.2.1, h.2.2) := rfl
theorem pf_33_10 (h : mx_H) (x : Int32) : mx_putf h 33 5 10 (.int x) = some (mx_u h.1 33 10 x, h.2.1, h.2.2) := rfl
theorem pf_33_11 (h : mx_H) (x : Int32) : mx_putf h 33 5 11 (.int x) = some (mx_u h.1 33 11 x, h.2.1, h.2.2) := rfl
theorem pf_33_13 (h : mx_H) (x : Int32) : mx_putf h 33 5 13 (.int x) = some (mx_u h.1 33 13 x, h.2.1, h.2.2) := rfl
theorem pf_34_2 (h : mx_H) (x : Int32) : mx_putf h 34 1 2 (.int x) = some (mx_u h.1 34 2 x, h.2.1, h.2.2) := rfl
theorem pf_47_1 (h : mx_H) (x : Int32) : mx_putf h 47 9 1 (.int x) = some (mx_u h.1 47 1 x, h.2.1, h.2.2) := rfl
theorem pf_47_2 (h : mx_H) (x : Int32) : mx_putf h 47 9 2 (.int x) = some (mx_u h.1 47 2 x, h.2.1, h.2.2) := rfl
theorem pf_47_3 (h : mx_H) (x : Int32) : mx_putf h 47 9 3 (.int x) = some (mx_u h.1 47 3 x, h.2.1, h.2.2) := rfl
theorem pf_47_4 (h : mx_H) (x : Int32) : mx_putf h 47 9 4 (.int x) = some (mx_u h.1 47 4 x, h.2.1, h.2.2) := rfl
theorem pf_47_5 (h : mx_H) (x : Int64) : mx_putf h 47 9 5 (.long x) = some (h.1, mx_u h.2.1 47 5 x, h.2.2) := rfl
theorem pf_47_6 (h : mx_H) (x : Int64) : mx_putf h 47 9 6 (.long x) = some (h.1, mx_u h.2.1 47 6 x, h.2.2) := rfl
theorem pf_47_7 (h : mx_H) (x : Int32) : mx_putf h 47 9 7 (.int x) = some (mx_u h.1 47 7 x, h.2.1, h.2.2) := rfl
theorem pf_47_8 (h : mx_H) (x : Int32) : mx_putf h 47 9 8 (.int x) = some (mx_u h.1 47 8 x, h.2.1, h.2.2) := rfl
theorem pf_47_9 (h : mx_H) (x : Int32) : mx_putf h 47 9 9 (.int x) = some (mx_u h.1 47 9 x, h.2.1, h.2.2) := rfl
theorem pf_47_17 (h : mx_H) (x : Int32) : mx_putf h 47 9 17 (.int x) = some (mx_u h.1 47 17 x, h.2.1, h.2.2) := rfl
theorem pf_47_18 (h : mx_H) (x : Int32) : mx_putf h 47 9 18 (.int x) = some (mx_u h.1 47 18 x, h.2.1, h.2.2) := rfl
theorem pf_47_26 (h : mx_H) (x : Int32) : mx_putf h 47 9 26 (.int x) = some (mx_u h.1 47 26 x, h.2.1, h.2.2) := rfl
theorem pf_47_27 (h : mx_H) (x : Int32) : mx_putf h 47 9 27 (.int x) = some (mx_u h.1 47 27 x, h.2.1, h.2.2) := rfl
theorem pf_47_28 (h : mx_H) (x : Int32) : mx_putf h 47 9 28 (.int x) = some (mx_u h.1 47 28 x, h.2.1, h.2.2) := rfl
theorem pf_47_31 (h : mx_H) (x : Int32) : mx_putf h 47 9 31 (.int x) = some (mx_u h.1 47 31 x, h.2.1, h.2.2) := rfl
theorem pf_47_33 (h : mx_H) (x : Int32) : mx_putf h 47 9 33 (.int x) = some (mx_u h.1 47 33 x, h.2.1, h.2.2) := rfl
theorem pf_47_38 (h : mx_H) (x : Int32) : mx_putf h 47 9 38 (.int x) = some (mx_u h.1 47 38 x, h.2.1, h.2.2) := rfl
theorem al_2 (h : mx_H) (x : Int32) : mx_ld 1 h 2 x = if mx_in x 120 = true then some (.int (h.1 2 x.toNatClampNeg)) else none := mx_ld_of (by decide) (by decide) rfl
theorem al_3 (h : mx_H) (x : Int32) : mx_ld 0 h 3 x = if mx_in x 121 = true then some (.int (h.1 3 x.toNatClampNeg)) else none := mx_ld_of (by decide) (by decide) rfl
theorem al_4 (h : mx_H) (x : Int32) : mx_ld 0 h 4 x = if mx_in x 121 = true then some (.int (h.1 4 x.toNatClampNeg)) else none := mx_ld_of (by decide) (by decide) rfl
theorem al_5 (h : mx_H) (x : Int32) : mx_ld 4 h 5 x = if mx_in x 121 = true then some (mx_rf (h.2.2 5 x.toNatClampNeg)) else none := mx_ld_of (by decide) (by decide) rfl
theorem al_7 (h : mx_H) (x : Int32) : mx_ld 4 h 7 x = if mx_in x 180 = true then some (mx_rf (h.2.2 7 x.toNatClampNeg)) else none := mx_ld_of (by decide) (by decide) rfl
theorem al_8 (h : mx_H) (x : Int32) : mx_ld 0 h 8 x = if mx_in x 540 = true then some (.int (h.1 8 x.toNatClampNeg)) else none := mx_ld_of (by decide) (by decide) rfl
theorem al_9 (h : mx_H) (x : Int32) : mx_ld 0 h 9 x = if mx_in x 360 = true then some (.int (h.1 9 x.toNatClampNeg)) else none := mx_ld_of (by decide) (by decide) rfl
theorem al_10 (h : mx_H) (x : Int32) : mx_ld 0 h 10 x = if mx_in x 180 = true then some (.int (h.1 10 x.toNatClampNeg)) else none := mx_ld_of (by decide) (by decide) rfl
theorem al_12 (h : mx_H) (x : Int32) : mx_ld 0 h 12 x = if mx_in x 8 = true then some (.int (h.1 12 x.toNatClampNeg)) else none := mx_ld_of (by decide) (by decide) rfl
theorem al_13 (h : mx_H) (x : Int32) : mx_ld 0 h 13 x = if mx_in x 8 = true then some (.int (h.1 13 x.toNatClampNeg)) else none := mx_ld_of (by decide) (by decide) rfl
theorem al_14 (h : mx_H) (x : Int32) : mx_ld 0 h 14 x = if mx_in x 12 = true then some (.int (h.1 14 x.toNatClampNeg)) else none := mx_ld_of (by decide) (by decide) rfl
theorem al_15 (h : mx_H) (x : Int32) : mx_ld 0 h 15 x = if mx_in x 4 = true then some (.int (h.1 15 x.toNatClampNeg)) else none := mx_ld_of (by decide) (by decide) rfl
theorem al_16 (h : mx_H) (x : Int32) : mx_ld 0 h 16 x = if mx_in x 4 = true then some (.int (h.1 16 x.toNatClampNeg)) else none := mx_ld_of (by decide) (by decide) rfl
theorem al_17 (h : mx_H) (x : Int32) : mx_ld 0 h 17 x = if mx_in x 4 = true then some (.int (h.1 17 x.toNatClampNeg)) else none := mx_ld_of (by decide) (by decide) rfl
theorem al_19 (h : mx_H) (x : Int32) : mx_ld 0 h 19 x = if mx_in x 27 = true then some (.int (h.1 19 x.toNatClampNeg)) else none := mx_ld_of (by decide) (by decide) rfl
theorem al_20 (h : mx_H) (x : Int32) : mx_ld 0 h 20 x = if mx_in x 8 = true then some (.int (h.1 20 x.toNatClampNeg)) else none := mx_ld_of (by decide) (by decide) rfl
theorem al_21 (h : mx_H) (x : Int32) : mx_ld 0 h 21 x = if mx_in x 8 = true then some (.int (h.1 21 x.toNatClampNeg)) else none := mx_ld_of (by decide) (by decide) rfl
theorem al_23 (h : mx_H) (x : Int32) : mx_ld 0 h 23 x = if mx_in x 1065 = true then some (.int (h.1 23 x.toNatClampNeg)) else none := mx_ld_of (by decide) (by decide) rfl
theorem al_24 (h : mx_H) (x : Int32) : mx_ld 0 h 24 x = if mx_in x 1065 = true then some (.int (h.1 24 x.toNatClampNeg)) else none := mx_ld_of (by decide) (by decide) rfl
theorem al_25 (h : mx_H) (x : Int32) : mx_ld 0 h 25 x = if mx_in x 1065 = true then some (.int (h.1 25 x.toNatClampNeg)) else none := mx_ld_of (by decide) (by decide) rfl
theorem al_26 (h : mx_H) (x : Int32) : mx_ld 0 h 26 x = if mx_in x 1065 = true then some (.int (h.1 26 x.toNatClampNeg)) else none := mx_ld_of (by decide) (by decide) rfl
theorem al_27 (h : mx_H) (x : Int32) : mx_ld 0 h 27 x = if mx_in x 1065 = true then some (.int (h.1 27 x.toNatClampNeg)) else none := mx_ld_of (by decide) (by decide) rfl
theorem al_29 (h : mx_H) (x : Int32) : mx_ld 0 h 29 x = if mx_in x 480 = true then some (.int (h.1 29 x.toNatClampNeg)) else none := mx_ld_of (by decide) (by decide) rfl
theorem al_30 (h : mx_H) (x : Int32) : mx_ld 0 h 30 x = if mx_in x 4 = true then some (.int (h.1 30 x.toNatClampNeg)) else none := mx_ld_of (by decide) (by decide) rfl
theorem al_31 (h : mx_H) (x : Int32) : mx_ld 0 h 31 x = if mx_in x 4 = true then some (.int (h.1 31 x.toNatClampNeg)) else none := mx_ld_of (by decide) (by decide) rfl
theorem al_32 (h : mx_H) (x : Int32) : mx_ld 0 h 32 x = if mx_in x 4 = true then some (.int (h.1 32 x.toNatClampNeg)) else none := mx_ld_of (by decide) (by decide) rfl
theorem al_35 (h : mx_H) (x : Int32) : mx_ld 0 h 35 x = if mx_in x 14828 = true then some (.int (h.1 35 x.toNatClampNeg)) else none := mx_ld_of (by decide) (by decide) rfl
theorem al_36 (h : mx_H) (x : Int32) : mx_ld 0 h 36 x = if mx_in x 4517 = true then some (.int (h.1 36 x.toNatClampNeg)) else none := mx_ld_of (by decide) (by decide) rfl
theorem al_37 (h : mx_H) (x : Int32) : mx_ld 0 h 37 x = if mx_in x 2130 = true then some (.int (h.1 37 x.toNatClampNeg)) else none := mx_ld_of (by decide) (by decide) rfl
theorem al_38 (h : mx_H) (x : Int32) : mx_ld 0 h 38 x = if mx_in x 9032 = true then some (.int (h.1 38 x.toNatClampNeg)) else none := mx_ld_of (by decide) (by decide) rfl
theorem al_39 (h : mx_H) (x : Int32) : mx_ld 0 h 39 x = if mx_in x 8 = true then some (.int (h.1 39 x.toNatClampNeg)) else none := mx_ld_of (by decide) (by decide) rfl
theorem al_40 (h : mx_H) (x : Int32) : mx_ld 2 h 40 x = if mx_in x 1065 = true then some (.int (h.1 40 x.toNatClampNeg)) else none := mx_ld_of (by decide) (by decide) rfl
theorem al_41 (h : mx_H) (x : Int32) : mx_ld 0 h 41 x = if mx_in x 1065 = true then some (.int (h.1 41 x.toNatClampNeg)) else none := mx_ld_of (by decide) (by decide) rfl
theorem al_42 (h : mx_H) (x : Int32) : mx_ld 0 h 42 x = if mx_in x 1065 = true then some (.int (h.1 42 x.toNatClampNeg)) else none := mx_ld_of (by decide) (by decide) rfl
theorem al_43 (h : mx_H) (x : Int32) : mx_ld 0 h 43 x = if mx_in x 1065 = true then some (.int (h.1 43 x.toNatClampNeg)) else none := mx_ld_of (by decide) (by decide) rfl
theorem al_44 (h : mx_H) (x : Int32) : mx_ld 0 h 44 x = if mx_in x 1065 = true then some (.int (h.1 44 x.toNatClampNeg)) else none := mx_ld_of (by decide) (by decide) rfl
theorem al_45 (h : mx_H) (x : Int32) : mx_ld 0 h 45 x = if mx_in x 8 = true then some (.int (h.1 45 x.toNatClampNeg)) else none := mx_ld_of (by decide) (by decide) rfl
theorem al_46 (h : mx_H) (x : Int32) : mx_ld 0 h 46 x = if mx_in x 12 = true then some (.int (h.1 46 x.toNatClampNeg)) else none := mx_ld_of (by decide) (by decide) rfl
theorem al_48 (h : mx_H) (x : Int32) : mx_ld 0 h 48 x = if mx_in x 120 = true then some (.int (h.1 48 x.toNatClampNeg)) else none := mx_ld_of (by decide) (by decide) rfl
theorem al_49 (h : mx_H) (x : Int32) : mx_ld 0 h 49 x = if mx_in x 130 = true then some (.int (h.1 49 x.toNatClampNeg)) else none := mx_ld_of (by decide) (by decide) rfl
theorem al_50 (h : mx_H) (x : Int32) : mx_ld 0 h 50 x = if mx_in x 130 = true then some (.int (h.1 50 x.toNatClampNeg)) else none := mx_ld_of (by decide) (by decide) rfl
theorem al_51 (h : mx_H) (x : Int32) : mx_ld 0 h 51 x = if mx_in x 130 = true then some (.int (h.1 51 x.toNatClampNeg)) else none := mx_ld_of (by decide) (by decide) rfl
theorem al_52 (h : mx_H) (x : Int32) : mx_ld 0 h 52 x = if mx_in x 130 = true then some (.int (h.1 52 x.toNatClampNeg)) else none := mx_ld_of (by decide) (by decide) rfl
theorem al_53 (h : mx_H) (x : Int32) : mx_ld 0 h 53 x = if mx_in x 130 = true then some (.int (h.1 53 x.toNatClampNeg)) else none := mx_ld_of (by decide) (by decide) rfl
theorem al_54 (h : mx_H) (x : Int32) : mx_ld 0 h 54 x = if mx_in x 130 = true then some (.int (h.1 54 x.toNatClampNeg)) else none := mx_ld_of (by decide) (by decide) rfl
theorem al_55 (h : mx_H) (x : Int32) : mx_ld 0 h 55 x = if mx_in x 130 = true then some (.int (h.1 55 x.toNatClampNeg)) else none := mx_ld_of (by decide) (by decide) rfl
theorem al_56 (h : mx_H) (x : Int32) : mx_ld 0 h 56 x = if mx_in x 12 = true then some (.int (h.1 56 x.toNatClampNeg)) else none := mx_ld_of (by decide) (by decide) rfl
theorem al_57 (h : mx_H) (x : Int32) : mx_ld 0 h 57 x = if mx_in x 12 = true then some (.int (h.1 57 x.toNatClampNeg)) else none := mx_ld_of (by decide) (by decide) rfl
theorem al_58 (h : mx_H) (x : Int32) : mx_ld 0 h 58 x = if mx_in x 12 = true then some (.int (h.1 58 x.toNatClampNeg)) else none := mx_ld_of (by decide) (by decide) rfl
theorem al_59 (h : mx_H) (x : Int32) : mx_ld 0 h 59 x = if mx_in x 36 = true then some (.int (h.1 59 x.toNatClampNeg)) else none := mx_ld_of (by decide) (by decide) rfl
theorem al_60 (h : mx_H) (x : Int32) : mx_ld 0 h 60 x = if mx_in x 12 = true then some (.int (h.1 60 x.toNatClampNeg)) else none := mx_ld_of (by decide) (by decide) rfl
theorem al_61 (h : mx_H) (x : Int32) : mx_ld 0 h 61 x = if mx_in x 12 = true then some (.int (h.1 61 x.toNatClampNeg)) else none := mx_ld_of (by decide) (by decide) rfl
theorem al_62 (h : mx_H) (x : Int32) : mx_ld 3 h 62 x = if mx_in x 12 = true then some (.long (h.2.1 62 x.toNatClampNeg)) else none := mx_ld_of (by decide) (by decide) rfl
theorem al_63 (h : mx_H) (x : Int32) : mx_ld 3 h 63 x = if mx_in x 12 = true then some (.long (h.2.1 63 x.toNatClampNeg)) else none := mx_ld_of (by decide) (by decide) rfl
theorem al_64 (h : mx_H) (x : Int32) : mx_ld 0 h 64 x = if mx_in x 12 = true then some (.int (h.1 64 x.toNatClampNeg)) else none := mx_ld_of (by decide) (by decide) rfl
theorem al_65 (h : mx_H) (x : Int32) : mx_ld 0 h 65 x = if mx_in x 12 = true then some (.int (h.1 65 x.toNatClampNeg)) else none := mx_ld_of (by decide) (by decide) rfl
theorem al_66 (h : mx_H) (x : Int32) : mx_ld 0 h 66 x = if mx_in x 4 = true then some (.int (h.1 66 x.toNatClampNeg)) else none := mx_ld_of (by decide) (by decide) rfl
theorem al_67 (h : mx_H) (x : Int32) : mx_ld 0 h 67 x = if mx_in x 4 = true then some (.int (h.1 67 x.toNatClampNeg)) else none := mx_ld_of (by decide) (by decide) rfl
theorem al_68 (h : mx_H) (x : Int32) : mx_ld 0 h 68 x = if mx_in x 130 = true then some (.int (h.1 68 x.toNatClampNeg)) else none := mx_ld_of (by decide) (by decide) rfl
theorem al_69 (h : mx_H) (x : Int32) : mx_ld 2 h 69 x = if mx_in x 3072 = true then some (.int (h.1 69 x.toNatClampNeg)) else none := mx_ld_of (by decide) (by decide) rfl
theorem al_70 (h : mx_H) (x : Int32) : mx_ld 0 h 70 x = if mx_in x 12 = true then some (.int (h.1 70 x.toNatClampNeg)) else none := mx_ld_of (by decide) (by decide) rfl
theorem al_71 (h : mx_H) (x : Int32) : mx_ld 2 h 71 x = if mx_in x 12 = true then some (.int (h.1 71 x.toNatClampNeg)) else none := mx_ld_of (by decide) (by decide) rfl
theorem as_2 (h : mx_H) (x y : Int32) : mx_sto 1 h 2 x (.int y) = if mx_in x 120 = true then some (mx_u h.1 2 x.toNatClampNeg (vp_nar .char y), h.2.1, h.2.2) else none := mx_sto_of rfl rfl
theorem as_3 (h : mx_H) (x y : Int32) : mx_sto 0 h 3 x (.int y) = if mx_in x 121 = true then some (mx_u h.1 3 x.toNatClampNeg y, h.2.1, h.2.2) else none := mx_sto_of rfl rfl
theorem as_4 (h : mx_H) (x y : Int32) : mx_sto 0 h 4 x (.int y) = if mx_in x 121 = true then some (mx_u h.1 4 x.toNatClampNeg y, h.2.1, h.2.2) else none := mx_sto_of rfl rfl
theorem as_5 (h : mx_H) (x : Int32) {q : Option Nat} (hq : mx_wr (mx_rf q) = true) : mx_sto 4 h 5 x (mx_rf q) = if mx_in x 121 = true then some (h.1, h.2.1, mx_u h.2.2 5 x.toNatClampNeg q) else none := mx_sto_of rfl (mx_put_w hq)
theorem as_7 (h : mx_H) (x : Int32) {q : Option Nat} (hq : mx_wr (mx_rf q) = true) : mx_sto 4 h 7 x (mx_rf q) = if mx_in x 180 = true then some (h.1, h.2.1, mx_u h.2.2 7 x.toNatClampNeg q) else none := mx_sto_of rfl (mx_put_w hq)
theorem as_8 (h : mx_H) (x y : Int32) : mx_sto 0 h 8 x (.int y) = if mx_in x 540 = true then some (mx_u h.1 8 x.toNatClampNeg y, h.2.1, h.2.2) else none := mx_sto_of rfl rfl
theorem as_9 (h : mx_H) (x y : Int32) : mx_sto 0 h 9 x (.int y) = if mx_in x 360 = true then some (mx_u h.1 9 x.toNatClampNeg y, h.2.1, h.2.2) else none := mx_sto_of rfl rfl
theorem as_10 (h : mx_H) (x y : Int32) : mx_sto 0 h 10 x (.int y) = if mx_in x 180 = true then some (mx_u h.1 10 x.toNatClampNeg y, h.2.1, h.2.2) else none := mx_sto_of rfl rfl
theorem as_12 (h : mx_H) (x y : Int32) : mx_sto 0 h 12 x (.int y) = if mx_in x 8 = true then some (mx_u h.1 12 x.toNatClampNeg y, h.2.1, h.2.2) else none := mx_sto_of rfl rfl
theorem as_13 (h : mx_H) (x y : Int32) : mx_sto 0 h 13 x (.int y) = if mx_in x 8 = true then some (mx_u h.1 13 x.toNatClampNeg y, h.2.1, h.2.2) else none := mx_sto_of rfl rfl
theorem as_14 (h : mx_H) (x y : Int32) : mx_sto 0 h 14 x (.int y) = if mx_in x 12 = true then some (mx_u h.1 14 x.toNatClampNeg y, h.2.1, h.2.2) else none := mx_sto_of rfl rfl
theorem as_15 (h : mx_H) (x y : Int32) : mx_sto 0 h 15 x (.int y) = if mx_in x 4 = true then some (mx_u h.1 15 x.toNatClampNeg y, h.2.1, h.2.2) else none := mx_sto_of rfl rfl
theorem as_16 (h : mx_H) (x y : Int32) : mx_sto 0 h 16 x (.int y) = if mx_in x 4 = true then some (mx_u h.1 16 x.toNatClampNeg y, h.2.1, h.2.2) else none := mx_sto_of rfl rfl
theorem as_17 (h : mx_H) (x y : Int32) : mx_sto 0 h 17 x (.int y) = if mx_in x 4 = true then some (mx_u h.1 17 x.toNatClampNeg y, h.2.1, h.2.2) else none := mx_sto_of rfl rfl
theorem as_19 (h : mx_H) (x y : Int32) : mx_sto 0 h 19 x (.int y) = if mx_in x 27 = true then some (mx_u h.1 19 x.toNatClampNeg y, h.2.1, h.2.2) else none := mx_sto_of rfl rfl
theorem as_20 (h : mx_H) (x y : Int32) : mx_sto 0 h 20 x (.int y) = if mx_in x 8 = true then some (mx_u h.1 20 x.toNatClampNeg y, h.2.1, h.2.2) else none := mx_sto_of rfl rfl
theorem as_21 (h : mx_H) (x y : Int32) : mx_sto 0 h 21 x (.int y) = if mx_in x 8 = true then some (mx_u h.1 21 x.toNatClampNeg y, h.2.1, h.2.2) else none := mx_sto_of rfl rfl
theorem as_23 (h : mx_H) (x y : Int32) : mx_sto 0 h 23 x (.int y) = if mx_in x 1065 = true then some (mx_u h.1 23 x.toNatClampNeg y, h.2.1, h.2.2) else none := mx_sto_of rfl rfl
theorem as_24 (h : mx_H) (x y : Int32) : mx_sto 0 h 24 x (.int y) = if mx_in x 1065 = true then some (mx_u h.1 24 x.toNatClampNeg y, h.2.1, h.2.2) else none := mx_sto_of rfl rfl
theorem as_25 (h : mx_H) (x y : Int32) : mx_sto 0 h 25 x (.int y) = if mx_in x 1065 = true then some (mx_u h.1 25 x.toNatClampNeg y, h.2.1, h.2.2) else none := mx_sto_of rfl rfl
theorem as_26 (h : mx_H) (x y : Int32) : mx_sto 0 h 26 x (.int y) = if mx_in x 1065 = true then some (mx_u h.1 26 x.toNatClampNeg y, h.2.1, h.2.2) else none := mx_sto_of rfl rfl
theorem as_27 (h : mx_H) (x y : Int32) : mx_sto 0 h 27 x (.int y) = if mx_in x 1065 = true then some (mx_u h.1 27 x.toNatClampNeg y, h.2.1, h.2.2) else none := mx_sto_of rfl rfl
theorem as_29 (h : mx_H) (x y : Int32) : mx_sto 0 h 29 x (.int y) = if mx_in x 480 = true then some (mx_u h.1 29 x.toNatClampNeg y, h.2.1, h.2.2) else none := mx_sto_of rfl rfl
theorem as_30 (h : mx_H) (x y : Int32) : mx_sto 0 h 30 x (.int y) = if mx_in x 4 = true then some (mx_u h.1 30 x.toNatClampNeg y, h.2.1, h.2.2) else none := mx_sto_of rfl rfl
theorem as_31 (h : mx_H) (x y : Int32) : mx_sto 0 h 31 x (.int y) = if mx_in x 4 = true then some (mx_u h.1 31 x.toNatClampNeg y, h.2.1, h.2.2) else none := mx_sto_of rfl rfl
theorem as_32 (h : mx_H) (x y : Int32) : mx_sto 0 h 32 x (.int y) = if mx_in x 4 = true then some (mx_u h.1 32 x.toNatClampNeg y, h.2.1, h.2.2) else none := mx_sto_of rfl rfl
theorem as_35 (h : mx_H) (x y : Int32) : mx_sto 0 h 35 x (.int y) = if mx_in x 14828 = true then some (mx_u h.1 35 x.toNatClampNeg y, h.2.1, h.2.2) else none := mx_sto_of rfl rfl
theorem as_36 (h : mx_H) (x y : Int32) : mx_sto 0 h 36 x (.int y) = if mx_in x 4517 = true then some (mx_u h.1 36 x.toNatClampNeg y, h.2.1, h.2.2) else none := mx_sto_of rfl rfl
theorem as_37 (h : mx_H) (x y : Int32) : mx_sto 0 h 37 x (.int y) = if mx_in x 2130 = true then some (mx_u h.1 37 x.toNatClampNeg y, h.2.1, h.2.2) else none := mx_sto_of rfl rfl
theorem as_38 (h : mx_H) (x y : Int32) : mx_sto 0 h 38 x (.int y) = if mx_in x 9032 = true then some (mx_u h.1 38 x.toNatClampNeg y, h.2.1, h.2.2) else none := mx_sto_of rfl rfl
theorem as_39 (h : mx_H) (x y : Int32) : mx_sto 0 h 39 x (.int y) = if mx_in x 8 = true then some (mx_u h.1 39 x.toNatClampNeg y, h.2.1, h.2.2) else none := mx_sto_of rfl rfl
theorem as_40 (h : mx_H) (x y : Int32) : mx_sto 2 h 40 x (.int y) = if mx_in x 1065 = true then some (mx_u h.1 40 x.toNatClampNeg (vp_nar .boolean y), h.2.1, h.2.2) else none := mx_sto_of rfl rfl
theorem as_41 (h : mx_H) (x y : Int32) : mx_sto 0 h 41 x (.int y) = if mx_in x 1065 = true then some (mx_u h.1 41 x.toNatClampNeg y, h.2.1, h.2.2) else none := mx_sto_of rfl rfl
theorem as_42 (h : mx_H) (x y : Int32) : mx_sto 0 h 42 x (.int y) = if mx_in x 1065 = true then some (mx_u h.1 42 x.toNatClampNeg y, h.2.1, h.2.2) else none := mx_sto_of rfl rfl
theorem as_43 (h : mx_H) (x y : Int32) : mx_sto 0 h 43 x (.int y) = if mx_in x 1065 = true then some (mx_u h.1 43 x.toNatClampNeg y, h.2.1, h.2.2) else none := mx_sto_of rfl rfl
theorem as_44 (h : mx_H) (x y : Int32) : mx_sto 0 h 44 x (.int y) = if mx_in x 1065 = true then some (mx_u h.1 44 x.toNatClampNeg y, h.2.1, h.2.2) else none := mx_sto_of rfl rfl
theorem as_45 (h : mx_H) (x y : Int32) : mx_sto 0 h 45 x (.int y) = if mx_in x 8 = true then some (mx_u h.1 45 x.toNatClampNeg y, h.2.1, h.2.2) else none := mx_sto_of rfl rfl
theorem as_46 (h : mx_H) (x y : Int32) : mx_sto 0 h 46 x (.int y) = if mx_in x 12 = true then some (mx_u h.1 46 x.toNatClampNeg y, h.2.1, h.2.2) else none := mx_sto_of rfl rfl
theorem as_48 (h : mx_H) (x y : Int32) : mx_sto 0 h 48 x (.int y) = if mx_in x 120 = true then some (mx_u h.1 48 x.toNatClampNeg y, h.2.1, h.2.2) else none := mx_sto_of rfl rfl
theorem as_49 (h : mx_H) (x y : Int32) : mx_sto 0 h 49 x (.int y) = if mx_in x 130 = true then some (mx_u h.1 49 x.toNatClampNeg y, h.2.1, h.2.2) else none := mx_sto_of rfl rfl
theorem as_50 (h : mx_H) (x y : Int32) : mx_sto 0 h 50 x (.int y) = if mx_in x 130 = true then some (mx_u h.1 50 x.toNatClampNeg y, h.2.1, h.2.2) else none := mx_sto_of rfl rfl
theorem as_51 (h : mx_H) (x y : Int32) : mx_sto 0 h 51 x (.int y) = if mx_in x 130 = true then some (mx_u h.1 51 x.toNatClampNeg y, h.2.1, h.2.2) else none := mx_sto_of rfl rfl
theorem as_52 (h : mx_H) (x y : Int32) : mx_sto 0 h 52 x (.int y) = if mx_in x 130 = true then some (mx_u h.1 52 x.toNatClampNeg y, h.2.1, h.2.2) else none := mx_sto_of rfl rfl
theorem as_53 (h : mx_H) (x y : Int32) : mx_sto 0 h 53 x (.int y) = if mx_in x 130 = true then some (mx_u h.1 53 x.toNatClampNeg y, h.2.1, h.2.2) else none := mx_sto_of rfl rfl
theorem as_54 (h : mx_H) (x y : Int32) : mx_sto 0 h 54 x (.int y) = if mx_in x 130 = true then some (mx_u h.1 54 x.toNatClampNeg y, h.2.1, h.2.2) else none := mx_sto_of rfl rfl
theorem as_55 (h : mx_H) (x y : Int32) : mx_sto 0 h 55 x (.int y) = if mx_in x 130 = true then some (mx_u h.1 55 x.toNatClampNeg y, h.2.1, h.2.2) else none := mx_sto_of rfl rfl
theorem as_56 (h : mx_H) (x y : Int32) : mx_sto 0 h 56 x (.int y) = if mx_in x 12 = true then some (mx_u h.1 56 x.toNatClampNeg y, h.2.1, h.2.2) else none := mx_sto_of rfl rfl
theorem as_57 (h : mx_H) (x y : Int32) : mx_sto 0 h 57 x (.int y) = if mx_in x 12 = true then some (mx_u h.1 57 x.toNatClampNeg y, h.2.1, h.2.2) else none := mx_sto_of rfl rfl
theorem as_58 (h : mx_H) (x y : Int32) : mx_sto 0 h 58 x (.int y) = if mx_in x 12 = true then some (mx_u h.1 58 x.toNatClampNeg y, h.2.1, h.2.2) else none := mx_sto_of rfl rfl
theorem as_59 (h : mx_H) (x y : Int32) : mx_sto 0 h 59 x (.int y) = if mx_in x 36 = true then some (mx_u h.1 59 x.toNatClampNeg y, h.2.1, h.2.2) else none := mx_sto_of rfl rfl
theorem as_60 (h : mx_H) (x y : Int32) : mx_sto 0 h 60 x (.int y) = if mx_in x 12 = true then some (mx_u h.1 60 x.toNatClampNeg y, h.2.1, h.2.2) else none := mx_sto_of rfl rfl
theorem as_61 (h : mx_H) (x y : Int32) : mx_sto 0 h 61 x (.int y) = if mx_in x 12 = true then some (mx_u h.1 61 x.toNatClampNeg y, h.2.1, h.2.2) else none := mx_sto_of rfl rfl
theorem as_62 (h : mx_H) (x : Int32) (y : Int64) : mx_sto 3 h 62 x (.long y) = if mx_in x 12 = true then some (h.1, mx_u h.2.1 62 x.toNatClampNeg y, h.2.2) else none := mx_sto_of rfl rfl
theorem as_63 (h : mx_H) (x : Int32) (y : Int64) : mx_sto 3 h 63 x (.long y) = if mx_in x 12 = true then some (h.1, mx_u h.2.1 63 x.toNatClampNeg y, h.2.2) else none := mx_sto_of rfl rfl
theorem as_64 (h : mx_H) (x y : Int32) : mx_sto 0 h 64 x (.int y) = if mx_in x 12 = true then some (mx_u h.1 64 x.toNatClampNeg y, h.2.1, h.2.2) else none := mx_sto_of rfl rfl
theorem as_65 (h : mx_H) (x y : Int32) : mx_sto 0 h 65 x (.int y) = if mx_in x 12 = true then some (mx_u h.1 65 x.toNatClampNeg y, h.2.1, h.2.2) else none := mx_sto_of rfl rfl
theorem as_66 (h : mx_H) (x y : Int32) : mx_sto 0 h 66 x (.int y) = if mx_in x 4 = true then some (mx_u h.1 66 x.toNatClampNeg y, h.2.1, h.2.2) else none := mx_sto_of rfl rfl
theorem as_67 (h : mx_H) (x y : Int32) : mx_sto 0 h 67 x (.int y) = if mx_in x 4 = true then some (mx_u h.1 67 x.toNatClampNeg y, h.2.1, h.2.2) else none := mx_sto_of rfl rfl
theorem as_68 (h : mx_H) (x y : Int32) : mx_sto 0 h 68 x (.int y) = if mx_in x 130 = true then some (mx_u h.1 68 x.toNatClampNeg y, h.2.1, h.2.2) else none := mx_sto_of rfl rfl
theorem as_69 (h : mx_H) (x y : Int32) : mx_sto 2 h 69 x (.int y) = if mx_in x 3072 = true then some (mx_u h.1 69 x.toNatClampNeg (vp_nar .boolean y), h.2.1, h.2.2) else none := mx_sto_of rfl rfl
theorem as_70 (h : mx_H) (x y : Int32) : mx_sto 0 h 70 x (.int y) = if mx_in x 12 = true then some (mx_u h.1 70 x.toNatClampNeg y, h.2.1, h.2.2) else none := mx_sto_of rfl rfl
theorem as_71 (h : mx_H) (x y : Int32) : mx_sto 2 h 71 x (.int y) = if mx_in x 12 = true then some (mx_u h.1 71 x.toNatClampNeg (vp_nar .boolean y), h.2.1, h.2.2) else none := mx_sto_of rfl rfl
