/-! days: days for so many -/
section DE
variable {sc : zX} {σ : zS} {Q : Option Value → zS → Prop}
theorem n_divn {a b : Nat} (ha : a < 2 ^ 31) (hb : 0 < b ∧ b < 2 ^ 31) : nI a / nI b = nI (a / b) := by
  have h : a / b ≤ a := Nat.div_le_self a b
  have e : (nI a / nI b).toInt = (a / b : Nat) := by
    rw [Int32.toInt_div_of_ne_left (nI a) (nI b) (fun z => by
      have e1 := nI_toInt ha
      rw [z] at e1
      have e2 : (Int32.minValue).toInt = -2147483648 := rfl
      omega), nI_toInt ha, nI_toInt hb.2]
    exact rfl
  rw [← Int32.toInt_inj, e, nI_toInt (by omega)]
theorem sp_daysFor {a h : Nat} (ha : a ≤ 1000) (hh : 1 ≤ h ∧ h ≤ 1000) : PC sc 6 [.int (nI a), .int (nI h)] σ Q ↔ Q (some (.int (nI ((a + h - 1) / h)))) σ := by
  have e := n_divn (a := a + h - 1) (b := h) (by omega) (by omega)
  have e2 : nI (a + h) - nI 1 = nI (a + h - 1) := nI_sb (by omega)
  have ez : (nI h = nI 0) = False := by rw [nI_eq (by omega) (by omega)]; exact eq_false (by omega)
  rw [PC_6, zb_6_0]
  simp (disch := first | exact zl_i | exact zl_r | exact zl_n | omega | exact zlen0 | exact zlen1 | exact zlen2 | exact zlen3 | exact zlen4 | exact zl_l | (simp only [zS_uf1, zS_uf2, zS_ur1, zS_ur2, Nat.reduceEqDiff, reduceIte, and_false, false_and, and_true, true_and, ite_true, ite_false]; done) | exact zl_n) only [Int.reduceToNat, Nat.reduceAdd, Nat.reduceMul, List.length_nil, List.length_cons, Nat.reduceLeDiff, Nat.zero_le, Option.toList_some, Option.toList_none, List.cons_append, List.nil_append, PW_nil, PW_goto, zl_i, zl_r, zl_n, PW_iload_1, PW_k1, PW_ic_ge, PW_k0, PW_iload_0, PW_iadd, PW_isub, PW_idiv, PW_ret_i zret_6, zb_6_1, zb_6_2, PK_app, n_l0, n_l1, n_l2, n_l3, n_l4, n_l5, n_l8, n_l9, n_l10, n_l15, n_l20, n_l31, n_l40, n_l48, n_l57, n_l59, n_l60, n_l70, n_l99, n_l100, n_l255, n_l601, n_l602, n_l1024, n_l1500, n_l2100, n_l2101, n_l65535, n_l100000, n_l1000000, n_l100000000, i_lt, nI_clamp, nI_leI, nI_eq, nI_1, nI_add, pk_mul, pk_sub, n_in, n_negle, n_legne, n_eqneg, n_negeq, n_nn, n_bit, n_shl1, n_or, zb_e0, zb_e1, zb_r, n_em, zb_T, zb_F, zS_uf1, zS_uf2, zS_ur1, zS_ur2, zS_ur3, zS_ul1, zS_ul2, zS_ul3, z_if0, z_if1, Int.reduceEq, Nat.reduceOr, Nat.or_zero, Nat.zero_or, Bool.false_eq_true, reduceCtorEq, nar0, nar1, nar_zb, eq_self, true_and, and_true, false_and, and_false, or_true, true_or, or_false, false_or, not_true_eq_false, not_false_eq_true, Classical.not_not, true_implies, false_implies, implies_true, iff_true, iff_self, ite_true, ite_false, Nat.reduceEqDiff, Nat.reduceLT, Nat.reduceSub, Nat.add_sub_cancel, Nat.reduceLeDiff, reduceIte, ne_eq, Nat.not_le, hh.1, e2, e, ez]
end DE
