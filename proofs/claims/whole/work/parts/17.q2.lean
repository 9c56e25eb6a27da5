/-! rows for arrays, words and texts -/
theorem mx_ld_of {w a n : Nat} {h : mx_H} {x : Int32} (h1 : a ≠ 2000) (h2 : a ≠ 2001) (hs : mx_arr a = some (w, n)) : mx_ld w h a x = if mx_in x n = true then some (mx_val h w a x.toNatClampNeg) else none := by
  unfold mx_ld
  rw [if_neg h1, if_neg h2, hs]
  by_cases hc : mx_in x n = true
  · rw [if_pos hc]; exact if_pos ⟨rfl, hc⟩
  · rw [if_neg hc]; exact if_neg (fun z => hc z.2)
theorem mx_sto_of {w a n : Nat} {h : mx_H} {x : Int32} {v : Value} {h1 : mx_H} (hs : mx_arr a = some (w, n)) (hp : mx_put h w a x.toNatClampNeg v = some h1) : mx_sto w h a x v = if mx_in x n = true then some h1 else none := by
  unfold mx_sto
  rw [hs]
  by_cases hc : mx_in x n = true
  · rw [if_pos hc]; exact (if_pos ⟨rfl, hc⟩).trans hp
  · rw [if_neg hc]; exact if_neg (fun z => hc z.2)
theorem mx_put_w {h : mx_H} {a j : Nat} {q : Option Nat} (hq : mx_wr (mx_rf q) = true) : mx_put h 4 a j (mx_rf q) = some (h.1, h.2.1, mx_u h.2.2 a j q) := by
  cases q with
  | none => rfl
  | some b =>
    have h0 : 1000 ≤ b ∧ b < 1042 := of_decide_eq_true hq
    exact if_pos h0
theorem mx_ld_2000 {h : mx_H} {x : Int32} : mx_ld 4 h 2000 x = if mx_in x 42 = true then some (.ref (1000 + x.toNatClampNeg)) else none := by
  unfold mx_ld
  rw [if_pos rfl]
  by_cases hc : mx_in x 42 = true
  · rw [if_pos hc]; exact if_pos ⟨rfl, hc⟩
  · rw [if_neg hc]; exact if_neg (fun z => hc z.2)
theorem mx_ld_2001 {h : mx_H} {x : Int32} : mx_ld 0 h 2001 x = if mx_in x 42 = true then some (.int (mx_swm x.toNatClampNeg)) else none := by
  unfold mx_ld
  rw [if_neg (by decide), if_pos rfl]
  by_cases hc : mx_in x 42 = true
  · rw [if_pos hc]; exact if_pos ⟨rfl, hc⟩
  · rw [if_neg hc]; exact if_neg (fun z => hc z.2)
section Q2
variable {rk : Nat} {m : mx_M} {pc : Nat} {L S : List Value} {h : mx_H}
theorem q_getw {ix a k : Nat} {v : Value} (hd : decode m.2.2.2.2.1 pc = .ok (.getfield ix, 3)) (hf : mx_fld m.2.2.1 ix = some (99, k)) (hw : 1000 ≤ a ∧ a < 1042) (hv : mx_wf (a - 1000) k = some v) : mx_D (rk, m, pc, L, .ref a :: S) h = mx_D (rk, m, pc + 3, L, v :: S) h := q_getf hd hf (by unfold mx_getf; rw [if_pos rfl, if_pos hw]; exact hv)
theorem q_callW {ix np a : Nat} {y : mx_M} {as rest : List Value} (hd : decode m.2.2.2.2.1 pc = .ok (.invokevirtual ix, 3)) (hi : mx_inv m.2.2.1 ix = some (2, np, y)) (hw : 1000 ≤ a ∧ a < 1042) (hS : S = as.reverse ++ .ref a :: rest) (hn : as.length = np) (hr : mx_ws8 rest ≤ 8 ∧ (mx_lay (.ref a :: as)).length ≤ y.2.2.2.2.2.1 ∧ mx_rank y (.ref a :: as) < rk) : mx_D (rk, m, pc, L, S) h = (mx_C y (.ref a :: as) h).bind (fun o => mx_D (rk, m, pc + 3, L, o.1.toList ++ rest) o.2) := by
  refine q_callV hd hi (Or.inr rfl) ?_
  subst hS
  have e1 : (as.reverse ++ .ref a :: rest).take (np + 1) = as.reverse ++ [.ref a] := by
    rw [show as.reverse ++ .ref a :: rest = (as.reverse ++ [.ref a]) ++ rest by simp, List.take_append_of_le_length (by simp [hn]), List.take_of_length_le (by simp [hn])]
  have e2 : (as.reverse ++ .ref a :: rest).drop (np + 1) = rest := by
    rw [show as.reverse ++ .ref a :: rest = (as.reverse ++ [.ref a]) ++ rest by simp, List.drop_append_of_le_length (by simp [hn]), List.drop_of_length_le (by simp [hn])]
    rfl
  unfold mx_call
  dsimp only
  rw [if_neg (by decide : ¬ (2 : Nat) = 1), e1, e2]
  have e3 : (as.reverse ++ [Value.ref a]).reverse = .ref a :: as := by simp
  rw [e3, if_pos ⟨by simp; omega, hr⟩]
  exact if_pos hw
theorem q_ord {ix np a : Nat} {y : mx_M} (hd : decode m.2.2.2.2.1 pc = .ok (.invokevirtual ix, 3)) (hi : mx_inv m.2.2.1 ix = some (10, np, y)) (hw : 1000 ≤ a ∧ a < 1042) (hr : S.length ≤ 4 ∧ 12 ≤ rk) : mx_D (rk, m, pc, L, .ref a :: S) h = mx_D (rk, m, pc + 3, L, .int (Int32.ofNat (a - 1000)) :: S) h := by
  rw [q_bi (c := 1000 ≤ a ∧ a < 1042 ∧ S.length ≤ 4 ∧ 12 ≤ rk) hd hi (by decide) rfl, if_pos ⟨hw.1, hw.2, hr⟩]
theorem q_slen {ix np a : Nat} {y : mx_M} (hd : decode m.2.2.2.2.1 pc = .ok (.invokevirtual ix, 3)) (hi : mx_inv m.2.2.1 ix = some (11, np, y)) (hw : 3000 ≤ a ∧ a < 3042) (hr : S.length ≤ 4 ∧ 12 ≤ rk) : mx_D (rk, m, pc, L, .ref a :: S) h = mx_D (rk, m, pc + 3, L, .int (Int32.ofNat (mx_txt (a - 3000)).length) :: S) h := by
  rw [q_bi (c := 3000 ≤ a ∧ a < 3042 ∧ S.length ≤ 4 ∧ 12 ≤ rk) hd hi (by decide) rfl, if_pos ⟨hw.1, hw.2, hr⟩]
theorem q_schr {ix np a : Nat} {y : mx_M} {x : Int32} (hd : decode m.2.2.2.2.1 pc = .ok (.invokevirtual ix, 3)) (hi : mx_inv m.2.2.1 ix = some (12, np, y)) (hw : 3000 ≤ a ∧ a < 3042) (hr : S.length ≤ 4 ∧ 12 ≤ rk) : mx_D (rk, m, pc, L, .int x :: .ref a :: S) h = if mx_in x (mx_txt (a - 3000)).length = true then mx_D (rk, m, pc + 3, L, .int (Int32.ofNat ((mx_txt (a - 3000)).getD x.toNatClampNeg 0)) :: S) h else none := by
  rw [q_bi (c := 3000 ≤ a ∧ a < 3042 ∧ S.length ≤ 4 ∧ 12 ≤ rk ∧ mx_in x (mx_txt (a - 3000)).length = true) hd hi (by decide) rfl]
  by_cases hc : mx_in x (mx_txt (a - 3000)).length = true
  · rw [if_pos hc, if_pos ⟨hw.1, hw.2, hr.1, hr.2, hc⟩]
  · rw [if_neg hc, if_neg (fun z => hc z.2.2.2.2)]
end Q2
