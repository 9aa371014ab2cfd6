/-! oneTree -/
noncomputable def gS (σ : zS) (R G : Nat → Int32) (L M d : Nat) : zS :=
  zuf (zuf σ 6 3 (xs (σ.1 6 3) (fun d => nI (bA R G L M d)) d)) 6 4 (xs (σ.1 6 4) (fun d => nI (bU R G L M d)) d)
def gc (R G : Nat → Int32) (L M d : Nat) : Prop := bU R G L M d = 0 ∧ 5 ≤ bA R G L M d
section TG
variable {R G : Nat → Int32} {L M : Nat} {sc : zX} {σ : zS} {Q : Option Value → zS → Prop}
theorem sp_layOnR {v w : Nat} {k : Int} (hv : v < 10) (hw : w < 10) (hL : L ≤ 20) (hM : M ≤ 20) (hR : σ.2.1 (83 + v) = R) (hG : σ.2.1 (83 + w) = G) (hk : -60 ≤ k ∧ k ≤ 60) :
    PC sc 10 [.ref 6, .ref (83 + v), .int (nI L), .int (iI k), .ref (83 + w), .int (nI M)] σ Q ↔ Q none (zuf (zuf σ 6 3 (nI (tr_ag R G L M k))) 6 4 (nI (tr_un R G L M k))) := by
  rw [sp_layOn (za_82_in v hv) (za_82_in w hw) hL hM (by omega) (by omega) hk, hR, hG]
  exact Iff.rfl
theorem sp_growsLike {v w : Nat} (hv : v < 10) (hw : w < 10) (hL : L ≤ 20) (hM : M ≤ 20) (hl : σ.2.1 81 v = nI L) (hm : σ.2.1 81 w = nI M) (hR : σ.2.1 (83 + v) = R) (hG : σ.2.1 (83 + w) = G) :
    PC sc 13 [.ref 6, .ref 10, .int (nI v), .int (nI w)] σ Q ↔ (fst (gc R G L M) (L + M - 1) < L + M - 1 → Q (some (.int (nI 1))) (gS σ R G L M (fst (gc R G L M) (L + M - 1) + 1))) ∧ (¬ fst (gc R G L M) (L + M - 1) < L + M - 1 → Q (some (.int (nI 0))) (gS σ R G L M (L + M - 1))) := by
  rw [PC_13, zb_13_0]
  simp (disch := first | exact zl_i | exact zl_r | exact zl_n | omega | exact zlen0 | exact zlen1 | exact zlen2 | exact zlen3 | exact zlen4 | exact zl_l | (simp only [zS_uf1, zS_uf2, zS_ur1, zS_ur2, Nat.reduceEqDiff, reduceIte, and_false, false_and, and_true, true_and, ite_true, ite_false]; done) | exact zl_n) only [Int.reduceToNat, Nat.reduceAdd, Nat.reduceMul, List.length_nil, List.length_cons, Nat.reduceLeDiff, Nat.zero_le, Option.toList_some, Option.toList_none, List.cons_append, List.nil_append, PW_nil, PW_goto, zl_i, zl_r, zl_n, PW_aload_1, PW_g643, PW_iload_2, PW_ia81, PW_iar82, PW_istore_4, PW_iload_3, PW_istore_5, PW_k1, PW_iload_4, PW_isub, PW_istore_6, PW_iload_6, PW_iload_5, PW_ic_ge, PW_aload_0, PW_g644, PW_aa82, PX_c10, PW_g388, PW_if_ne, PW_g387, PW_k5, PW_ic_lt, PW_ret_z zret_13, PW_iinc_6_p1, PW_k0, zb_13_2, zb_13_3, PK_app, n_l0, n_l1, n_l2, n_l3, n_l4, n_l5, n_l8, n_l9, n_l10, n_l15, n_l20, n_l31, n_l40, n_l48, n_l57, n_l59, n_l60, n_l70, n_l99, n_l100, n_l255, n_l601, n_l602, n_l1024, n_l1500, n_l2100, n_l2101, n_l65535, n_l100000, n_l1000000, n_l100000000, i_lt, nI_clamp, nI_leI, nI_eq, nI_1, nI_add, pk_mul, pk_sub, n_in, n_negle, n_legne, n_eqneg, n_negeq, n_nn, n_bit, n_shl1, n_or, zb_e0, zb_e1, zb_r, n_em, zb_T, zb_F, zS_uf1, zS_uf2, zS_ur1, zS_ur2, zS_ur3, zS_ul1, zS_ul2, zS_ul3, z_if0, z_if1, Int.reduceEq, Nat.reduceOr, Nat.or_zero, Nat.zero_or, Bool.false_eq_true, reduceCtorEq, nar0, nar1, nar_zb, eq_self, true_and, and_true, false_and, and_false, or_true, true_or, or_false, false_or, not_true_eq_false, not_false_eq_true, Classical.not_not, true_implies, false_implies, implies_true, iff_true, iff_self, ite_true, ite_false, Nat.reduceEqDiff, Nat.reduceLT, Nat.reduceSub, Nat.add_sub_cancel, Nat.reduceLeDiff, reduceIte, ne_eq, Nat.not_le, hl, hm]
  have key := lp_fst (L + M - 1) (fun d => PW sc 13 (zblk 13 1) 2 [some (.ref 6), some (.ref 10), some (.int (nI v)), some (.int (nI w)), some (.int (nI L)), some (.int (nI M)), some (.int (bP L d))] [] (gS σ R G L M d) Q) (gc R G L M) (fun d => Q (some (.int (nI 1))) (gS σ R G L M (d + 1))) (fun d hd => by
    have hc : (nI M ≤ bP L d) = False := by
      unfold bP
      rw [iI_n, iI_le (by omega) (by omega)]
      apply eq_false
      omega
    have hi : bP L d + nI 1 = bP L (d + 1) := by
      unfold bP
      rw [iI_n, iI_add]
      congr 1
      omega
    have sl2 : ∀ Q, PC sc 10 [.ref 6, .ref (83 + v), .int (nI L), .int (bP L d), .ref (83 + w), .int (nI M)] (gS σ R G L M d) Q ↔ Q none (zuf (zuf (gS σ R G L M d) 6 3 (nI (bA R G L M d))) 6 4 (nI (bU R G L M d))) := fun Q => sp_layOnR (σ := gS σ R G L M d) (k := 1 - L + d) hv hw hL hM hR hG (by omega)
    have hb := bAU (R := R) (G := G) (M := M) hL d
    conv => lhs; rw [zb_13_1]
    unfold gS at sl2 ⊢
    simp only [xs_s]
    by_cases c1 : bU R G L M d = 0
    · by_cases c2 : 5 ≤ bA R G L M d
      · have c : gc R G L M d := ⟨c1, c2⟩
        simp (disch := first | exact zl_i | exact zl_r | exact zl_n | omega | exact zlen0 | exact zlen1 | exact zlen2 | exact zlen3 | exact zlen4 | exact zl_l | (simp only [zS_uf1, zS_uf2, zS_ur1, zS_ur2, Nat.reduceEqDiff, reduceIte, and_false, false_and, and_true, true_and, ite_true, ite_false]; done) | exact zl_n) only [Int.reduceToNat, Nat.reduceAdd, Nat.reduceMul, List.length_nil, List.length_cons, Nat.reduceLeDiff, Nat.zero_le, Option.toList_some, Option.toList_none, List.cons_append, List.nil_append, PW_nil, PW_goto, zl_i, zl_r, zl_n, PW_aload_1, PW_g643, PW_iload_2, PW_ia81, PW_iar82, PW_istore_4, PW_iload_3, PW_istore_5, PW_k1, PW_iload_4, PW_isub, PW_istore_6, PW_iload_6, PW_iload_5, PW_ic_ge, PW_aload_0, PW_g644, PW_aa82, PX_c10, PW_g388, PW_if_ne, PW_g387, PW_k5, PW_ic_lt, PW_ret_z zret_13, PW_iinc_6_p1, PW_k0, zb_13_2, zb_13_3, PK_app, n_l0, n_l1, n_l2, n_l3, n_l4, n_l5, n_l8, n_l9, n_l10, n_l15, n_l20, n_l31, n_l40, n_l48, n_l57, n_l59, n_l60, n_l70, n_l99, n_l100, n_l255, n_l601, n_l602, n_l1024, n_l1500, n_l2100, n_l2101, n_l65535, n_l100000, n_l1000000, n_l100000000, i_lt, nI_clamp, nI_leI, nI_eq, nI_1, nI_add, pk_mul, pk_sub, n_in, n_negle, n_legne, n_eqneg, n_negeq, n_nn, n_bit, n_shl1, n_or, zb_e0, zb_e1, zb_r, n_em, zb_T, zb_F, zS_uf1, zS_uf2, zS_ur1, zS_ur2, zS_ur3, zS_ul1, zS_ul2, zS_ul3, z_if0, z_if1, Int.reduceEq, Nat.reduceOr, Nat.or_zero, Nat.zero_or, Bool.false_eq_true, reduceCtorEq, nar0, nar1, nar_zb, eq_self, true_and, and_true, false_and, and_false, or_true, true_or, or_false, false_or, not_true_eq_false, not_false_eq_true, Classical.not_not, true_implies, false_implies, implies_true, iff_true, iff_self, ite_true, ite_false, Nat.reduceEqDiff, Nat.reduceLT, Nat.reduceSub, Nat.add_sub_cancel, Nat.reduceLeDiff, reduceIte, ne_eq, Nat.not_le, hc, hi, hl, hm, PW_aa82, sl2, c, eq_true c1, eq_true c2, zuf_same, zuf_sw]
      · have c : ¬ gc R G L M d := fun z => c2 z.2
        simp (disch := first | exact zl_i | exact zl_r | exact zl_n | omega | exact zlen0 | exact zlen1 | exact zlen2 | exact zlen3 | exact zlen4 | exact zl_l | (simp only [zS_uf1, zS_uf2, zS_ur1, zS_ur2, Nat.reduceEqDiff, reduceIte, and_false, false_and, and_true, true_and, ite_true, ite_false]; done) | exact zl_n) only [Int.reduceToNat, Nat.reduceAdd, Nat.reduceMul, List.length_nil, List.length_cons, Nat.reduceLeDiff, Nat.zero_le, Option.toList_some, Option.toList_none, List.cons_append, List.nil_append, PW_nil, PW_goto, zl_i, zl_r, zl_n, PW_aload_1, PW_g643, PW_iload_2, PW_ia81, PW_iar82, PW_istore_4, PW_iload_3, PW_istore_5, PW_k1, PW_iload_4, PW_isub, PW_istore_6, PW_iload_6, PW_iload_5, PW_ic_ge, PW_aload_0, PW_g644, PW_aa82, PX_c10, PW_g388, PW_if_ne, PW_g387, PW_k5, PW_ic_lt, PW_ret_z zret_13, PW_iinc_6_p1, PW_k0, zb_13_2, zb_13_3, PK_app, n_l0, n_l1, n_l2, n_l3, n_l4, n_l5, n_l8, n_l9, n_l10, n_l15, n_l20, n_l31, n_l40, n_l48, n_l57, n_l59, n_l60, n_l70, n_l99, n_l100, n_l255, n_l601, n_l602, n_l1024, n_l1500, n_l2100, n_l2101, n_l65535, n_l100000, n_l1000000, n_l100000000, i_lt, nI_clamp, nI_leI, nI_eq, nI_1, nI_add, pk_mul, pk_sub, n_in, n_negle, n_legne, n_eqneg, n_negeq, n_nn, n_bit, n_shl1, n_or, zb_e0, zb_e1, zb_r, n_em, zb_T, zb_F, zS_uf1, zS_uf2, zS_ur1, zS_ur2, zS_ur3, zS_ul1, zS_ul2, zS_ul3, z_if0, z_if1, Int.reduceEq, Nat.reduceOr, Nat.or_zero, Nat.zero_or, Bool.false_eq_true, reduceCtorEq, nar0, nar1, nar_zb, eq_self, true_and, and_true, false_and, and_false, or_true, true_or, or_false, false_or, not_true_eq_false, not_false_eq_true, Classical.not_not, true_implies, false_implies, implies_true, iff_true, iff_self, ite_true, ite_false, Nat.reduceEqDiff, Nat.reduceLT, Nat.reduceSub, Nat.add_sub_cancel, Nat.reduceLeDiff, reduceIte, ne_eq, Nat.not_le, hc, hi, hl, hm, PW_aa82, sl2, c, eq_true c1, c2, zuf_same, zuf_sw]
    · have c : ¬ gc R G L M d := fun z => c1 z.1
      simp (disch := first | exact zl_i | exact zl_r | exact zl_n | omega | exact zlen0 | exact zlen1 | exact zlen2 | exact zlen3 | exact zlen4 | exact zl_l | (simp only [zS_uf1, zS_uf2, zS_ur1, zS_ur2, Nat.reduceEqDiff, reduceIte, and_false, false_and, and_true, true_and, ite_true, ite_false]; done) | exact zl_n) only [Int.reduceToNat, Nat.reduceAdd, Nat.reduceMul, List.length_nil, List.length_cons, Nat.reduceLeDiff, Nat.zero_le, Option.toList_some, Option.toList_none, List.cons_append, List.nil_append, PW_nil, PW_goto, zl_i, zl_r, zl_n, PW_aload_1, PW_g643, PW_iload_2, PW_ia81, PW_iar82, PW_istore_4, PW_iload_3, PW_istore_5, PW_k1, PW_iload_4, PW_isub, PW_istore_6, PW_iload_6, PW_iload_5, PW_ic_ge, PW_aload_0, PW_g644, PW_aa82, PX_c10, PW_g388, PW_if_ne, PW_g387, PW_k5, PW_ic_lt, PW_ret_z zret_13, PW_iinc_6_p1, PW_k0, zb_13_2, zb_13_3, PK_app, n_l0, n_l1, n_l2, n_l3, n_l4, n_l5, n_l8, n_l9, n_l10, n_l15, n_l20, n_l31, n_l40, n_l48, n_l57, n_l59, n_l60, n_l70, n_l99, n_l100, n_l255, n_l601, n_l602, n_l1024, n_l1500, n_l2100, n_l2101, n_l65535, n_l100000, n_l1000000, n_l100000000, i_lt, nI_clamp, nI_leI, nI_eq, nI_1, nI_add, pk_mul, pk_sub, n_in, n_negle, n_legne, n_eqneg, n_negeq, n_nn, n_bit, n_shl1, n_or, zb_e0, zb_e1, zb_r, n_em, zb_T, zb_F, zS_uf1, zS_uf2, zS_ur1, zS_ur2, zS_ur3, zS_ul1, zS_ul2, zS_ul3, z_if0, z_if1, Int.reduceEq, Nat.reduceOr, Nat.or_zero, Nat.zero_or, Bool.false_eq_true, reduceCtorEq, nar0, nar1, nar_zb, eq_self, true_and, and_true, false_and, and_false, or_true, true_or, or_false, false_or, not_true_eq_false, not_false_eq_true, Classical.not_not, true_implies, false_implies, implies_true, iff_true, iff_self, ite_true, ite_false, Nat.reduceEqDiff, Nat.reduceLT, Nat.reduceSub, Nat.add_sub_cancel, Nat.reduceLeDiff, reduceIte, ne_eq, Nat.not_le, hc, hi, hl, hm, PW_aa82, sl2, c, c1, zuf_same, zuf_sw])
  have h0 : gS σ R G L M 0 = σ := by
    unfold gS
    show zuf (zuf σ 6 3 (σ.1 6 3)) 6 4 (σ.1 6 4) = σ
    rw [zuf_id, zuf_id]
  have h1 : nI 1 - nI L = bP L 0 := by
    unfold bP
    rw [iI_n, iI_n, iI_sub]
    congr 1
    omega
  have hc : (nI M ≤ bP L (L + M - 1)) = True := by
    unfold bP
    rw [iI_n, iI_le (by omega) (by omega)]
    apply eq_true
    omega
  rw [h0] at key
  rw [h1]
  refine Iff.trans key ?_
  have e : PW sc 13 (zblk 13 1) 2 [some (.ref 6), some (.ref 10), some (.int (nI v)), some (.int (nI w)), some (.int (nI L)), some (.int (nI M)), some (.int (bP L (L + M - 1)))] [] (gS σ R G L M (L + M - 1)) Q ↔ Q (some (.int (nI 0))) (gS σ R G L M (L + M - 1)) := by
    rw [zb_13_1]
    simp (disch := first | exact zl_i | exact zl_r | exact zl_n | omega | exact zlen0 | exact zlen1 | exact zlen2 | exact zlen3 | exact zlen4 | exact zl_l | (simp only [zS_uf1, zS_uf2, zS_ur1, zS_ur2, Nat.reduceEqDiff, reduceIte, and_false, false_and, and_true, true_and, ite_true, ite_false]; done) | exact zl_n) only [Int.reduceToNat, Nat.reduceAdd, Nat.reduceMul, List.length_nil, List.length_cons, Nat.reduceLeDiff, Nat.zero_le, Option.toList_some, Option.toList_none, List.cons_append, List.nil_append, PW_nil, PW_goto, zl_i, zl_r, zl_n, PW_aload_1, PW_g643, PW_iload_2, PW_ia81, PW_iar82, PW_istore_4, PW_iload_3, PW_istore_5, PW_k1, PW_iload_4, PW_isub, PW_istore_6, PW_iload_6, PW_iload_5, PW_ic_ge, PW_aload_0, PW_g644, PW_aa82, PX_c10, PW_g388, PW_if_ne, PW_g387, PW_k5, PW_ic_lt, PW_ret_z zret_13, PW_iinc_6_p1, PW_k0, zb_13_2, zb_13_3, PK_app, n_l0, n_l1, n_l2, n_l3, n_l4, n_l5, n_l8, n_l9, n_l10, n_l15, n_l20, n_l31, n_l40, n_l48, n_l57, n_l59, n_l60, n_l70, n_l99, n_l100, n_l255, n_l601, n_l602, n_l1024, n_l1500, n_l2100, n_l2101, n_l65535, n_l100000, n_l1000000, n_l100000000, i_lt, nI_clamp, nI_leI, nI_eq, nI_1, nI_add, pk_mul, pk_sub, n_in, n_negle, n_legne, n_eqneg, n_negeq, n_nn, n_bit, n_shl1, n_or, zb_e0, zb_e1, zb_r, n_em, zb_T, zb_F, zS_uf1, zS_uf2, zS_ur1, zS_ur2, zS_ur3, zS_ul1, zS_ul2, zS_ul3, z_if0, z_if1, Int.reduceEq, Nat.reduceOr, Nat.or_zero, Nat.zero_or, Bool.false_eq_true, reduceCtorEq, nar0, nar1, nar_zb, eq_self, true_and, and_true, false_and, and_false, or_true, true_or, or_false, false_or, not_true_eq_false, not_false_eq_true, Classical.not_not, true_implies, false_implies, implies_true, iff_true, iff_self, ite_true, ite_false, Nat.reduceEqDiff, Nat.reduceLT, Nat.reduceSub, Nat.add_sub_cancel, Nat.reduceLeDiff, reduceIte, ne_eq, Nat.not_le, hc]
  rw [e]
end TG
section TG2
variable {sc : zX} {σ : zS}
end TG2
