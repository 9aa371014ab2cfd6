/-! the law's cell and some -/
theorem n_l6 : (6 : Int32) = nI 6 := rfl
theorem n_l7 : (7 : Int32) = nI 7 := rfl
theorem n_l12 : (12 : Int32) = nI 12 := rfl
theorem n_l13 : (13 : Int32) = nI 13 := rfl
theorem n_l14 : (14 : Int32) = nI 14 := rfl
theorem n_l16 : (16 : Int32) = nI 16 := rfl
theorem n_l21 : (21 : Int32) = nI 21 := rfl
theorem n_l22 : (22 : Int32) = nI 22 := rfl
theorem n_l25 : (25 : Int32) = nI 25 := rfl
theorem n_l28 : (28 : Int32) = nI 28 := rfl
theorem n_l29 : (29 : Int32) = nI 29 := rfl
theorem n_l30 : (30 : Int32) = nI 30 := rfl
theorem n_l33 : (33 : Int32) = nI 33 := rfl
theorem n_l35 : (35 : Int32) = nI 35 := rfl
theorem n_l36 : (36 : Int32) = nI 36 := rfl
theorem n_l50 : (50 : Int32) = nI 50 := rfl
theorem n_l55 : (55 : Int32) = nI 55 := rfl
theorem n_l61 : (61 : Int32) = nI 61 := rfl
theorem n_l63 : (63 : Int32) = nI 63 := rfl
theorem n_l64 : (64 : Int32) = nI 64 := rfl
theorem n_l101 : (101 : Int32) = nI 101 := rfl
theorem n_l1000 : (1000 : Int32) = nI 1000 := rfl
theorem n_l2147483647 : (2147483647 : Int32) = nI 2147483647 := rfl
theorem n_msk (v : Int32) : v &&& nI 2147483647 = nI ((v &&& nI 2147483647).toNatClampNeg) ∧ (v &&& nI 2147483647).toNatClampNeg < 2 ^ 31 := by
  have h : ¬ (v &&& nI 2147483647) < 0 := by
    rw [Int32.lt_iff_toInt_lt]
    have h1 : (v.toBitVec &&& (nI 2147483647).toBitVec).msb = false := by
      rw [BitVec.msb_and, show (nI 2147483647).toBitVec.msb = false from by decide]
      exact Bool.and_false _
    rw [BitVec.msb_eq_toInt] at h1
    have h2 := of_decide_eq_false h1
    exact h2
  obtain ⟨j, hj, e⟩ := nI_of h
  rw [e, nI_clamp hj]
  exact ⟨rfl, hj⟩
def cel (sn : Nat) (sf : Nat → Int32) (k : Nat) : Int32 := if k < sn then sf k else 747796405 * nI (k + 1)
def som (v : Int32) (m : Nat) : Nat := (v &&& nI 2147483647).toNatClampNeg % m
theorem som_lt {v : Int32} {m : Nat} (h : 0 < m) : som v m < m := Nat.mod_lt _ h
theorem n_remn {a b : Nat} (ha : a < 2 ^ 31) (hb : 0 < b ∧ b < 2 ^ 31) : nI a - nI a / nI b * nI b = nI (a % b) := by
  have h1 : a / b * b ≤ a := Nat.div_mul_le_self a b
  rw [n_divn ha hb, pk_mul, pk_sub h1, Nat.mod_eq_sub_div_mul]
section LC
variable {sn : Nat} {sf : Nat → Int32} {c : Nat} {sc : zX} {σ : zS} {Q : Option Value → zS → Prop}
theorem sp_cell {k : Nat} (hk : k < 1000) (hn : sn < 2 ^ 31) : PC (sn, sf, c) 61 [.ref 134, .int (nI k)] σ Q ↔ Q (some (.int (cel sn sf k))) σ := by
  unfold cel
  rw [PC_61, zb_61_0]
  by_cases h : k < sn
  · simp (disch := first | exact zl_i | exact zl_r | exact zl_n | omega | exact zlen0 | exact zlen1 | exact zlen2 | exact zlen3 | exact zlen4 | exact zl_l | (simp only [zS_uf1, zS_uf2, zS_ur1, zS_ur2, Nat.reduceEqDiff, reduceIte, and_false, false_and, and_true, true_and, ite_true, ite_false]; done) | exact zl_n) only [Int.reduceToNat, Nat.reduceAdd, Nat.reduceMul, List.length_nil, List.length_cons, Nat.reduceLeDiff, Nat.zero_le, Option.toList_some, Option.toList_none, List.cons_append, List.nil_append, PW_nil, PW_goto, zl_i, zl_r, zl_n, PW_iload_1, PW_aload_0, PW_slen, PW_ic_ge, PW_sld, PW_k747796405, PW_k1, PW_iadd, PW_imul, PW_ret_i zret_61, zb_61_1, zb_61_2, PK_app, n_l6, n_l7, n_l12, n_l13, n_l14, n_l16, n_l21, n_l22, n_l25, n_l28, n_l29, n_l30, n_l33, n_l35, n_l36, n_l50, n_l55, n_l61, n_l63, n_l64, n_l101, n_l1000, n_l2147483647, n_l0, n_l1, n_l2, n_l3, n_l4, n_l5, n_l8, n_l9, n_l10, n_l15, n_l20, n_l31, n_l40, n_l48, n_l57, n_l59, n_l60, n_l70, n_l99, n_l100, n_l255, n_l601, n_l602, n_l1024, n_l1500, n_l2100, n_l2101, n_l65535, n_l100000, n_l1000000, n_l100000000, i_lt, nI_clamp, nI_leI, nI_eq, nI_1, nI_add, pk_mul, pk_sub, n_in, n_negle, n_legne, n_eqneg, n_negeq, n_nn, n_bit, n_shl1, n_or, zb_e0, zb_e1, zb_r, n_em, zb_T, zb_F, zS_uf1, zS_uf2, zS_ur1, zS_ur2, zS_ur3, zS_ul1, zS_ul2, zS_ul3, z_if0, z_if1, Int.reduceEq, Nat.reduceOr, Nat.or_zero, Nat.zero_or, Bool.false_eq_true, reduceCtorEq, nar0, nar1, nar_zb, eq_self, true_and, and_true, false_and, and_false, or_true, true_or, or_false, false_or, not_true_eq_false, not_false_eq_true, Classical.not_not, true_implies, false_implies, implies_true, iff_true, iff_self, ite_true, ite_false, Nat.reduceEqDiff, Nat.reduceLT, Nat.reduceSub, Nat.add_sub_cancel, Nat.reduceLeDiff, reduceIte, ne_eq, Nat.not_le, h, Nat.not_le.mpr h, if_true]
  · simp (disch := first | exact zl_i | exact zl_r | exact zl_n | omega | exact zlen0 | exact zlen1 | exact zlen2 | exact zlen3 | exact zlen4 | exact zl_l | (simp only [zS_uf1, zS_uf2, zS_ur1, zS_ur2, Nat.reduceEqDiff, reduceIte, and_false, false_and, and_true, true_and, ite_true, ite_false]; done) | exact zl_n) only [Int.reduceToNat, Nat.reduceAdd, Nat.reduceMul, List.length_nil, List.length_cons, Nat.reduceLeDiff, Nat.zero_le, Option.toList_some, Option.toList_none, List.cons_append, List.nil_append, PW_nil, PW_goto, zl_i, zl_r, zl_n, PW_iload_1, PW_aload_0, PW_slen, PW_ic_ge, PW_sld, PW_k747796405, PW_k1, PW_iadd, PW_imul, PW_ret_i zret_61, zb_61_1, zb_61_2, PK_app, n_l6, n_l7, n_l12, n_l13, n_l14, n_l16, n_l21, n_l22, n_l25, n_l28, n_l29, n_l30, n_l33, n_l35, n_l36, n_l50, n_l55, n_l61, n_l63, n_l64, n_l101, n_l1000, n_l2147483647, n_l0, n_l1, n_l2, n_l3, n_l4, n_l5, n_l8, n_l9, n_l10, n_l15, n_l20, n_l31, n_l40, n_l48, n_l57, n_l59, n_l60, n_l70, n_l99, n_l100, n_l255, n_l601, n_l602, n_l1024, n_l1500, n_l2100, n_l2101, n_l65535, n_l100000, n_l1000000, n_l100000000, i_lt, nI_clamp, nI_leI, nI_eq, nI_1, nI_add, pk_mul, pk_sub, n_in, n_negle, n_legne, n_eqneg, n_negeq, n_nn, n_bit, n_shl1, n_or, zb_e0, zb_e1, zb_r, n_em, zb_T, zb_F, zS_uf1, zS_uf2, zS_ur1, zS_ur2, zS_ur3, zS_ul1, zS_ul2, zS_ul3, z_if0, z_if1, Int.reduceEq, Nat.reduceOr, Nat.or_zero, Nat.zero_or, Bool.false_eq_true, reduceCtorEq, nar0, nar1, nar_zb, eq_self, true_and, and_true, false_and, and_false, or_true, true_or, or_false, false_or, not_true_eq_false, not_false_eq_true, Classical.not_not, true_implies, false_implies, implies_true, iff_true, iff_self, ite_true, ite_false, Nat.reduceEqDiff, Nat.reduceLT, Nat.reduceSub, Nat.add_sub_cancel, Nat.reduceLeDiff, reduceIte, ne_eq, Nat.not_le, h, Nat.not_lt.mp h, if_false]
theorem sp_some {v : Int32} {m : Nat} (hm : 0 < m) (hm2 : m < 2 ^ 31) : PC sc 62 [.int v, .int (nI m)] σ Q ↔ Q (some (.int (nI (som v m)))) σ := by
  have h := n_msk v
  unfold som
  generalize (v &&& nI 2147483647).toNatClampNeg = t at h
  obtain ⟨h1, h2⟩ := h
  have e := n_remn h2 ⟨hm, hm2⟩
  have ez : (nI m = nI 0) = False := by rw [nI_eq (by omega) (by omega)]; exact eq_false (by omega)
  rw [PC_62, zb_62_0]
  simp (disch := first | exact zl_i | exact zl_r | exact zl_n | omega | exact zlen0 | exact zlen1 | exact zlen2 | exact zlen3 | exact zlen4 | exact zl_l | (simp only [zS_uf1, zS_uf2, zS_ur1, zS_ur2, Nat.reduceEqDiff, reduceIte, and_false, false_and, and_true, true_and, ite_true, ite_false]; done) | exact zl_n) only [Int.reduceToNat, Nat.reduceAdd, Nat.reduceMul, List.length_nil, List.length_cons, Nat.reduceLeDiff, Nat.zero_le, Option.toList_some, Option.toList_none, List.cons_append, List.nil_append, PW_nil, PW_goto, zl_i, zl_r, zl_n, PW_iload_0, PW_k2147483647, PW_iand, PW_iload_1, PW_irem, PW_ret_i zret_62, PK_app, n_l6, n_l7, n_l12, n_l13, n_l14, n_l16, n_l21, n_l22, n_l25, n_l28, n_l29, n_l30, n_l33, n_l35, n_l36, n_l50, n_l55, n_l61, n_l63, n_l64, n_l101, n_l1000, n_l2147483647, n_l0, n_l1, n_l2, n_l3, n_l4, n_l5, n_l8, n_l9, n_l10, n_l15, n_l20, n_l31, n_l40, n_l48, n_l57, n_l59, n_l60, n_l70, n_l99, n_l100, n_l255, n_l601, n_l602, n_l1024, n_l1500, n_l2100, n_l2101, n_l65535, n_l100000, n_l1000000, n_l100000000, i_lt, nI_clamp, nI_leI, nI_eq, nI_1, nI_add, pk_mul, pk_sub, n_in, n_negle, n_legne, n_eqneg, n_negeq, n_nn, n_bit, n_shl1, n_or, zb_e0, zb_e1, zb_r, n_em, zb_T, zb_F, zS_uf1, zS_uf2, zS_ur1, zS_ur2, zS_ur3, zS_ul1, zS_ul2, zS_ul3, z_if0, z_if1, Int.reduceEq, Nat.reduceOr, Nat.or_zero, Nat.zero_or, Bool.false_eq_true, reduceCtorEq, nar0, nar1, nar_zb, eq_self, true_and, and_true, false_and, and_false, or_true, true_or, or_false, false_or, not_true_eq_false, not_false_eq_true, Classical.not_not, true_implies, false_implies, implies_true, iff_true, iff_self, ite_true, ite_false, Nat.reduceEqDiff, Nat.reduceLT, Nat.reduceSub, Nat.add_sub_cancel, Nat.reduceLeDiff, reduceIte, ne_eq, Nat.not_le, h1, e, ez]
end LC
