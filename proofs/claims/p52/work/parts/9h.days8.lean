/-! days: the fewest, the class -/
theorem z_mn_n {a b : Nat} (ha : a < 2 ^ 31) (hb : b < 2 ^ 31) : z_mn (nI a) (nI b) = nI (min a b) := by
  rw [iI_n, iI_n, z_mn_i (by omega) (by omega), iI_n]
  congr 1
  omega
noncomputable def dcn (W : Nat → Nat) (n s : Nat) : Nat := cnt (fun j => W j &&& s = W j) n
noncomputable def dmr (W : Nat → Nat) (n G k : Nat) : Nat := mxr (fun s => s &&& G = s ∧ popr s 10 = k) (fun s => cnt (fun j => W j &&& s = W j) n) 1024
noncomputable def dyE (W : Nat → Nat) (n h G : Nat) : Nat := cif ((popr G 10 + h - 1) / h = 0) 0 (min ((popr G 10 + h - 1) / h * h - popr G 10) (dmr W n G (((popr G 10 + h - 1) / h - 1) * h)))
noncomputable def dyF (W : Nat → Nat) (n h G : Nat) : Nat := (popr G 10 + h - 1) / h + (n - dyE W n h G + h - 1) / h
theorem dmr_le {W : Nat → Nat} {n G k : Nat} : dmr W n G k ≤ n := mxr_le (fun _ => cnt_le n) 1024
theorem dyE_le {W : Nat → Nat} {n h G : Nat} : dyE W n h G ≤ n := by
  unfold dyE
  by_cases c : (popr G 10 + h - 1) / h = 0
  · rw [cif_t c]; exact Nat.zero_le _
  · rw [cif_f c]; exact Nat.le_trans (Nat.min_le_right _ _) dmr_le
theorem cdv {x h D : Nat} (hh : 1 ≤ h) : (x + h - 1) / h ≤ D ↔ x ≤ D * h := by
  have e := Nat.div_lt_iff_lt_mul (x := x + h - 1) (y := D + 1) (k := h) (by omega)
  rw [Nat.add_mul, Nat.one_mul] at e
  constructor
  · intro z
    have := e.mp (by omega)
    omega
  · intro z
    have := e.mpr (by omega)
    omega
section DH
variable {sc : zX} {σ : zS} {Q : Option Value → zS → Prop}
theorem sp_fewest5 {n h G : Nat} {W : Nat → Nat} (hn : n ≤ 10) (hh : 1 ≤ h ∧ h ≤ 9) (hG : G < 1024) (h2 : σ.1 5 2 = nI G) (hc : σ.1 5 4 = nI n) (hW : ∀ j, j < n → σ.2.1 49 j = nI (W j) ∧ W j < 1024) :
    PC sc 5 [.ref 5, .int (nI h)] σ Q ↔ Q (some (.int (nI (dyF W n h G)))) σ := by
  have pl := popr_le (s := G) 10
  have eg := (cdv (x := popr G 10) (h := h) (D := (popr G 10 + h - 1) / h) hh.1).mp (Nat.le_refl _)
  have g10 : (popr G 10 + h - 1) / h ≤ 10 := (cdv hh.1).mpr (Nat.le_trans pl (Nat.le_mul_of_pos_right 10 hh.1))
  have el := dyE_le (W := W) (n := n) (h := h) (G := G)
  have gb : (popr G 10 + h - 1) / h * h ≤ 90 := Nat.mul_le_mul g10 hh.2
  have gb2 : ((popr G 10 + h - 1) / h - 1) * h ≤ 90 := Nat.mul_le_mul (show (popr G 10 + h - 1) / h - 1 ≤ 10 by omega) hh.2
  have sb := fun Q => sp_bitCount (sc := sc) (σ := σ) (Q := Q) hG
  have sd := fun Q => sp_daysFor (sc := sc) (σ := σ) (Q := Q) (a := popr G 10) (h := h) (by omega) ⟨hh.1, by omega⟩
  have sd2 := fun Q => sp_daysFor (sc := sc) (σ := σ) (Q := Q) (a := n - dyE W n h G) (h := h) (by omega) ⟨hh.1, by omega⟩
  have sm := fun Q => sp_mostReady (sc := sc) (σ := σ) (Q := Q) (k := ((popr G 10 + h - 1) / h - 1) * h) hn (by omega) hG h2 hc hW
  have ml : dmr W n G (((popr G 10 + h - 1) / h - 1) * h) ≤ n := dmr_le
  unfold dyF
  rw [PC_5, zb_5_0]
  by_cases c : (popr G 10 + h - 1) / h = 0
  · have e : dyE W n h G = 0 := cif_t c
    rw [e] at sd2 ⊢
    generalize hgd : (popr G 10 + h - 1) / h = gd at *
    subst c
    simp (disch := first | exact zl_i | exact zl_r | exact zl_n | omega | exact zlen0 | exact zlen1 | exact zlen2 | exact zlen3 | exact zlen4 | exact zl_l | (simp only [zS_uf1, zS_uf2, zS_ur1, zS_ur2, Nat.reduceEqDiff, reduceIte, and_false, false_and, and_true, true_and, ite_true, ite_false]; done) | exact zl_n) only [Int.reduceToNat, Nat.reduceAdd, Nat.reduceMul, List.length_nil, List.length_cons, Nat.reduceLeDiff, Nat.zero_le, Option.toList_some, Option.toList_none, List.cons_append, List.nil_append, PW_nil, PW_goto, zl_i, zl_r, zl_n, PW_aload_0, PW_g322, PX_c59, PW_istore_2, PW_iload_2, PW_iload_1, PX_c6, PW_istore_3, PW_k0, PW_istore_4, PW_iload_3, PW_if_le, PW_imul, PW_isub, PW_istore_5, PW_iload_5, PW_k1, PX_c7, PM_min, PW_g324, PW_iload_4, PW_iadd, PW_ret_i zret_5, zb_5_1, PK_app, n_l0, n_l1, n_l2, n_l3, n_l4, n_l5, n_l8, n_l9, n_l10, n_l15, n_l20, n_l31, n_l40, n_l48, n_l57, n_l59, n_l60, n_l70, n_l99, n_l100, n_l255, n_l601, n_l602, n_l1024, n_l1500, n_l2100, n_l2101, n_l65535, n_l100000, n_l1000000, n_l100000000, i_lt, nI_clamp, nI_leI, nI_eq, nI_1, nI_add, pk_mul, pk_sub, n_in, n_negle, n_legne, n_eqneg, n_negeq, n_nn, n_bit, n_shl1, n_or, zb_e0, zb_e1, zb_r, n_em, zb_T, zb_F, zS_uf1, zS_uf2, zS_ur1, zS_ur2, zS_ur3, zS_ul1, zS_ul2, zS_ul3, z_if0, z_if1, Int.reduceEq, Nat.reduceOr, Nat.or_zero, Nat.zero_or, Bool.false_eq_true, reduceCtorEq, nar0, nar1, nar_zb, eq_self, true_and, and_true, false_and, and_false, or_true, true_or, or_false, false_or, not_true_eq_false, not_false_eq_true, Classical.not_not, true_implies, false_implies, implies_true, iff_true, iff_self, ite_true, ite_false, Nat.reduceEqDiff, Nat.reduceLT, Nat.reduceSub, Nat.add_sub_cancel, Nat.reduceLeDiff, reduceIte, ne_eq, Nat.not_le, h2, sb, sd, hc, sd2, Nat.le_refl]
  · have e : dyE W n h G = min ((popr G 10 + h - 1) / h * h - popr G 10) (dmr W n G (((popr G 10 + h - 1) / h - 1) * h)) := cif_f c
    have zm := z_mn_n (a := (popr G 10 + h - 1) / h * h - popr G 10) (b := dmr W n G (((popr G 10 + h - 1) / h - 1) * h)) (by omega) (by omega)
    rw [← e] at zm
    unfold dmr at zm
    generalize hgd : (popr G 10 + h - 1) / h = gd at *
    simp (disch := first | exact zl_i | exact zl_r | exact zl_n | omega | exact zlen0 | exact zlen1 | exact zlen2 | exact zlen3 | exact zlen4 | exact zl_l | (simp only [zS_uf1, zS_uf2, zS_ur1, zS_ur2, Nat.reduceEqDiff, reduceIte, and_false, false_and, and_true, true_and, ite_true, ite_false]; done) | exact zl_n) only [Int.reduceToNat, Nat.reduceAdd, Nat.reduceMul, List.length_nil, List.length_cons, Nat.reduceLeDiff, Nat.zero_le, Option.toList_some, Option.toList_none, List.cons_append, List.nil_append, PW_nil, PW_goto, zl_i, zl_r, zl_n, PW_aload_0, PW_g322, PX_c59, PW_istore_2, PW_iload_2, PW_iload_1, PX_c6, PW_istore_3, PW_k0, PW_istore_4, PW_iload_3, PW_if_le, PW_imul, PW_isub, PW_istore_5, PW_iload_5, PW_k1, PX_c7, PM_min, PW_g324, PW_iload_4, PW_iadd, PW_ret_i zret_5, zb_5_1, PK_app, n_l0, n_l1, n_l2, n_l3, n_l4, n_l5, n_l8, n_l9, n_l10, n_l15, n_l20, n_l31, n_l40, n_l48, n_l57, n_l59, n_l60, n_l70, n_l99, n_l100, n_l255, n_l601, n_l602, n_l1024, n_l1500, n_l2100, n_l2101, n_l65535, n_l100000, n_l1000000, n_l100000000, i_lt, nI_clamp, nI_leI, nI_eq, nI_1, nI_add, pk_mul, pk_sub, n_in, n_negle, n_legne, n_eqneg, n_negeq, n_nn, n_bit, n_shl1, n_or, zb_e0, zb_e1, zb_r, n_em, zb_T, zb_F, zS_uf1, zS_uf2, zS_ur1, zS_ur2, zS_ur3, zS_ul1, zS_ul2, zS_ul3, z_if0, z_if1, Int.reduceEq, Nat.reduceOr, Nat.or_zero, Nat.zero_or, Bool.false_eq_true, reduceCtorEq, nar0, nar1, nar_zb, eq_self, true_and, and_true, false_and, and_false, or_true, true_or, or_false, false_or, not_true_eq_false, not_false_eq_true, Classical.not_not, true_implies, false_implies, implies_true, iff_true, iff_self, ite_true, ite_false, Nat.reduceEqDiff, Nat.reduceLT, Nat.reduceSub, Nat.add_sub_cancel, Nat.reduceLeDiff, reduceIte, ne_eq, Nat.not_le, h2, sb, sd, hc, sd2, sm, show ¬ gd ≤ 0 by omega, zm]
end DH
