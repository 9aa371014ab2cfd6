/-! lendings: reading players and violins -/
noncomputable def lkH (σ : zS) (nl p v : Nat) : Int32 := cif (mayH σ nl p v) (σ.2.1 97 (10 * p + v)) (nI 0)
noncomputable def rdR (σ : zS) (nl nv k i j : Nat) : Nat → Nat → Int32 := fun a =>
  if a < 20 ∨ a = 21 ∨ 32 ≤ a then σ.2.1 a else if a = 20 then (fun p => if p < k then σ.2.1 51 p else σ.2.1 20 p)
  else (fun v => if (a < 22 + i ∧ v < nv) ∨ (a = 22 + i ∧ v < j) then lkH σ nl (a - 22) v else σ.2.1 a v)
noncomputable def rdT (σ : zS) (np nl nv k i j : Nat) : zS := ((zuf (zuf σ 2 0 (nI np)) 2 1 (nI nv)).1, rdR σ nl nv k i j, σ.2.2)
section RDT
variable {σ : zS} {np nl nv k i j : Nat}
theorem rdT_f {c h : Nat} : (rdT σ np nl nv k i j).1 c h = (zuf (zuf σ 2 0 (nI np)) 2 1 (nI nv)).1 c h := rfl
theorem rdT_r {a : Nat} (q : a < 20 ∨ a = 21 ∨ 32 ≤ a) : (rdT σ np nl nv k i j).2.1 a = σ.2.1 a := if_pos q
theorem rdR_20 {p : Nat} : (rdT σ np nl nv k i j).2.1 20 p = if p < k then σ.2.1 51 p else σ.2.1 20 p := rfl
theorem rdR_in {a v : Nat} (h : 22 ≤ a ∧ a < 32) : (rdT σ np nl nv k i j).2.1 a v = if (a < 22 + i ∧ v < nv) ∨ (a = 22 + i ∧ v < j) then lkH σ nl (a - 22) v else σ.2.1 a v := by
  show rdR σ nl nv k i j a v = _
  unfold rdR
  rw [if_neg (by omega), if_neg (by omega)]
theorem rdT_20 : zur (rdT σ np nl nv k i j) 20 (upd ((rdT σ np nl nv k i j).2.1 20) k (σ.2.1 51 k)) = rdT σ np nl nv (k + 1) i j := by
  refine zs_ext (fun _ _ => rfl) (fun b => ?_) (fun _ => rfl)
  rw [zS_ur2]
  by_cases z : b = 20
  · subst z
    rw [if_pos rfl]
    funext p
    unfold upd
    rw [rdR_20, rdR_20]
    by_cases q : p = k
    · rw [if_pos q, if_pos (by omega), q]
    · rw [if_neg q]
      by_cases q2 : p < k
      · rw [if_pos q2, if_pos (by omega)]
      · rw [if_neg q2, if_neg (by omega)]
  · rw [if_neg z]
    show rdR σ nl nv k i j b = rdR σ nl nv (k + 1) i j b
    unfold rdR
    rw [if_neg z, if_neg z]
theorem rdT_in (hi : i < 10) : zur (rdT σ np nl nv k i j) (22 + i) (upd ((rdT σ np nl nv k i j).2.1 (22 + i)) j (lkH σ nl i j)) = rdT σ np nl nv k i (j + 1) := by
  refine zs_ext (fun _ _ => rfl) (fun b => ?_) (fun _ => rfl)
  rw [zS_ur2]
  by_cases z : b = 22 + i
  · subst z
    rw [if_pos rfl]
    funext v
    unfold upd
    rw [rdR_in (by omega), rdR_in (by omega)]
    by_cases q : v = j
    · rw [if_pos q, if_pos (by omega), q, show 22 + i - 22 = i by omega]
    · rw [if_neg q]
      by_cases q2 : v < j
      · rw [if_pos (by omega), if_pos (by omega)]
      · rw [if_neg (by omega), if_neg (by omega)]
  · rw [if_neg z]
    show rdR σ nl nv k i j b = rdR σ nl nv k i (j + 1) b
    unfold rdR
    by_cases q : b < 20 ∨ b = 21 ∨ 32 ≤ b
    · rw [if_pos q, if_pos q]
    · rw [if_neg q, if_neg q]
      by_cases q2 : b = 20
      · rw [if_pos q2, if_pos q2]
      · rw [if_neg q2, if_neg q2]
        funext v
        by_cases q3 : b < 22 + i ∧ v < nv
        · rw [if_pos (by omega), if_pos (by omega)]
        · rw [if_neg (by omega), if_neg (by omega)]
theorem rdT_nx : rdT σ np nl nv k i nv = rdT σ np nl nv k (i + 1) 0 := by
  refine zs_ext (fun _ _ => rfl) (fun b => ?_) (fun _ => rfl)
  show rdR σ nl nv k i nv b = rdR σ nl nv k (i + 1) 0 b
  unfold rdR
  by_cases q : b < 20 ∨ b = 21 ∨ 32 ≤ b
  · rw [if_pos q, if_pos q]
  · rw [if_neg q, if_neg q]
    by_cases q2 : b = 20
    · rw [if_pos q2, if_pos q2]
    · rw [if_neg q2, if_neg q2]
      funext v
      by_cases q3 : b < 22 + (i + 1) ∧ v < nv
      · rw [if_pos (by omega), if_pos (by omega)]
      · rw [if_neg (by omega), if_neg (by omega)]
theorem rdT_0 : rdT σ np nl nv 0 0 0 = zuf (zuf σ 2 0 (nI np)) 2 1 (nI nv) := by
  refine zs_ext (fun _ _ => rfl) (fun b => ?_) (fun _ => rfl)
  show rdR σ nl nv 0 0 0 b = σ.2.1 b
  unfold rdR
  by_cases q : b < 20 ∨ b = 21 ∨ 32 ≤ b
  · rw [if_pos q]
  · rw [if_neg q]
    by_cases q2 : b = 20
    · subst q2
      rw [if_pos rfl]
      funext p
      rw [if_neg (Nat.not_lt_zero p)]
    · rw [if_neg q2]
      funext v
      rw [if_neg (by omega)]
theorem Fr_rdT : Fr σ (rdT σ np nl nv k i j) := by
  refine ⟨fun c h q => ?_, fun a q => ?_⟩
  · rw [rdT_f, zS_uf1, if_neg (fun z => q (by unfold scF; omega)), zS_uf1, if_neg (fun z => q (by unfold scF; omega))]
  · exact rdT_r (by unfold scR at q; omega)
variable {sc : zX} {Q : Option Value → zS → Prop}
theorem sp_readL (hV : RV σ nv) (hP : RP σ np) (hD : RD σ) (hL : RLo σ nv np nl) :
    PC sc 21 [.ref 2, .ref 7, .ref 10] σ Q ↔ Q none (zur (zur (rdT σ np nl nv np np 0) 32 (ff (σ.2.1 32) 10 (-nI 1))) 33 (ff (σ.2.1 33) 10 (-nI 1))) := by
  obtain ⟨v1, v2, v3, v4, v5, v6, v7, v8, v9, v10, v11, v12, v13⟩ := id hV
  obtain ⟨p1, p2, p3, p4, p5, p6, p7⟩ := id hP
  rw [PC_21, zb_21_0]
  simp (disch := first | exact zl_i | exact zl_r | exact zl_n | omega | exact zlen0 | exact zlen1 | exact zlen2 | exact zlen3 | exact zlen4 | exact zl_l | (unfold scF; omega) | (unfold scR; omega) | (simp only [zS_uf1, zS_uf2, zS_ur1, zS_ur2, Nat.reduceEqDiff, reduceIte, and_false, false_and, and_true, true_and, ite_true, ite_false]; done) | exact zl_n) only [Int.reduceToNat, Nat.reduceAdd, Nat.reduceMul, List.length_nil, List.length_cons, Nat.reduceLeDiff, Nat.zero_le, Option.toList_some, Option.toList_none, List.cons_append, List.nil_append, PW_nil, PW_goto, zl_i, zl_r, zl_n, PW_aload_0, PW_aload_1, PW_g452, PW_p128, PW_aload_2, PW_g645, PW_p129, PW_k0, PW_istore_3, PW_iload_3, PW_g128, PW_ic_ge, PW_g130, PW_g448, PW_ia20, PW_iar21, PW_ia32, PW_ia33, PW_ia51, PW_iar54, PW_ia79, PW_is20, PW_isr21, PW_is32, PW_is33, PW_is51, PW_isr54, PW_is79, PW_istore_4, PW_iload_4, PW_g129, PW_g131, PW_aa21, PW_aa54, PW_g641, PX_c64, PW_if_eq, PW_g451, PW_iinc_4_p1, PW_iinc_3_p1, PW_g132, PW_km1, PX_c253, PW_g133, PW_ret_v zret_21, zb_21_3, zb_21_4, zb_21_5, zb_21_6, PK_app, n_l0, n_l1, n_l2, n_l3, n_l4, n_l5, n_l8, n_l9, n_l10, n_l15, n_l20, n_l31, n_l40, n_l48, n_l57, n_l59, n_l60, n_l70, n_l99, n_l100, n_l255, n_l601, n_l602, n_l1024, n_l1500, n_l2100, n_l2101, n_l65535, n_l100000, n_l1000000, n_l100000000, i_lt, nI_clamp, nI_leI, nI_eq, nI_1, nI_add, pk_mul, pk_sub, n_in, n_negle, n_legne, n_eqneg, n_negeq, n_nn, n_bit, n_shl1, n_or, zb_e0, zb_e1, zb_r, n_em, zb_T, zb_F, zS_uf1, zS_uf2, zS_ur1, zS_ur2, zS_ur3, zS_ul1, zS_ul2, zS_ul3, z_if0, z_if1, Int.reduceEq, Nat.reduceOr, Nat.or_zero, Nat.zero_or, Bool.false_eq_true, reduceCtorEq, nar0, nar1, nar_zb, eq_self, true_and, and_true, false_and, and_false, or_true, true_or, or_false, false_or, not_true_eq_false, not_false_eq_true, Classical.not_not, true_implies, false_implies, implies_true, iff_true, iff_self, ite_true, ite_false, Nat.reduceEqDiff, Nat.reduceLT, Nat.reduceSub, Nat.add_sub_cancel, Nat.reduceLeDiff, reduceIte, ne_eq, Nat.not_le, p2, v2]
  rw [← rdT_0 (σ := σ) (np := np) (nv := nv) (nl := nl)]
  refine Iff.trans ?_ (lpc np (fun i (a : Option Value) => PW sc 21 (zblk 21 1) 2 [some (.ref 2), some (.ref 7), some (.ref 10), some (.int (nI i)), a] [] (rdT σ np nl nv i i 0) Q) _ (fun a => ?_) (fun i hi ih a => ?_) none)
  · exact Iff.rfl
  · rw [zb_21_1]
    simp (disch := first | exact zl_i | exact zl_r | exact zl_n | omega | exact zlen0 | exact zlen1 | exact zlen2 | exact zlen3 | exact zlen4 | exact zl_l | (unfold scF; omega) | (unfold scR; omega) | (simp only [zS_uf1, zS_uf2, zS_ur1, zS_ur2, Nat.reduceEqDiff, reduceIte, and_false, false_and, and_true, true_and, ite_true, ite_false]; done) | exact zl_n) only [Int.reduceToNat, Nat.reduceAdd, Nat.reduceMul, List.length_nil, List.length_cons, Nat.reduceLeDiff, Nat.zero_le, Option.toList_some, Option.toList_none, List.cons_append, List.nil_append, PW_nil, PW_goto, zl_i, zl_r, zl_n, PW_aload_0, PW_aload_1, PW_g452, PW_p128, PW_aload_2, PW_g645, PW_p129, PW_k0, PW_istore_3, PW_iload_3, PW_g128, PW_ic_ge, PW_g130, PW_g448, PW_ia20, PW_iar21, PW_ia32, PW_ia33, PW_ia51, PW_iar54, PW_ia79, PW_is20, PW_isr21, PW_is32, PW_is33, PW_is51, PW_isr54, PW_is79, PW_istore_4, PW_iload_4, PW_g129, PW_g131, PW_aa21, PW_aa54, PW_g641, PX_c64, PW_if_eq, PW_g451, PW_iinc_4_p1, PW_iinc_3_p1, PW_g132, PW_km1, PX_c253, PW_g133, PW_ret_v zret_21, zb_21_3, zb_21_4, zb_21_5, zb_21_6, PK_app, n_l0, n_l1, n_l2, n_l3, n_l4, n_l5, n_l8, n_l9, n_l10, n_l15, n_l20, n_l31, n_l40, n_l48, n_l57, n_l59, n_l60, n_l70, n_l99, n_l100, n_l255, n_l601, n_l602, n_l1024, n_l1500, n_l2100, n_l2101, n_l65535, n_l100000, n_l1000000, n_l100000000, i_lt, nI_clamp, nI_leI, nI_eq, nI_1, nI_add, pk_mul, pk_sub, n_in, n_negle, n_legne, n_eqneg, n_negeq, n_nn, n_bit, n_shl1, n_or, zb_e0, zb_e1, zb_r, n_em, zb_T, zb_F, zS_uf1, zS_uf2, zS_ur1, zS_ur2, zS_ur3, zS_ul1, zS_ul2, zS_ul3, z_if0, z_if1, Int.reduceEq, Nat.reduceOr, Nat.or_zero, Nat.zero_or, Bool.false_eq_true, reduceCtorEq, nar0, nar1, nar_zb, eq_self, true_and, and_true, false_and, and_false, or_true, true_or, or_false, false_or, not_true_eq_false, not_false_eq_true, Classical.not_not, true_implies, false_implies, implies_true, iff_true, iff_self, ite_true, ite_false, Nat.reduceEqDiff, Nat.reduceLT, Nat.reduceSub, Nat.add_sub_cancel, Nat.reduceLeDiff, reduceIte, ne_eq, Nat.not_le, rdT_f, Nat.le_refl, sp_fill za_32, sp_fill za_33, rdT_r]
  · rw [zb_21_1]
    simp (disch := first | exact zl_i | exact zl_r | exact zl_n | omega | exact zlen0 | exact zlen1 | exact zlen2 | exact zlen3 | exact zlen4 | exact zl_l | (unfold scF; omega) | (unfold scR; omega) | (simp only [zS_uf1, zS_uf2, zS_ur1, zS_ur2, Nat.reduceEqDiff, reduceIte, and_false, false_and, and_true, true_and, ite_true, ite_false]; done) | exact zl_n) only [Int.reduceToNat, Nat.reduceAdd, Nat.reduceMul, List.length_nil, List.length_cons, Nat.reduceLeDiff, Nat.zero_le, Option.toList_some, Option.toList_none, List.cons_append, List.nil_append, PW_nil, PW_goto, zl_i, zl_r, zl_n, PW_aload_0, PW_aload_1, PW_g452, PW_p128, PW_aload_2, PW_g645, PW_p129, PW_k0, PW_istore_3, PW_iload_3, PW_g128, PW_ic_ge, PW_g130, PW_g448, PW_ia20, PW_iar21, PW_ia32, PW_ia33, PW_ia51, PW_iar54, PW_ia79, PW_is20, PW_isr21, PW_is32, PW_is33, PW_is51, PW_isr54, PW_is79, PW_istore_4, PW_iload_4, PW_g129, PW_g131, PW_aa21, PW_aa54, PW_g641, PX_c64, PW_if_eq, PW_g451, PW_iinc_4_p1, PW_iinc_3_p1, PW_g132, PW_km1, PX_c253, PW_g133, PW_ret_v zret_21, zb_21_3, zb_21_4, zb_21_5, zb_21_6, PK_app, n_l0, n_l1, n_l2, n_l3, n_l4, n_l5, n_l8, n_l9, n_l10, n_l15, n_l20, n_l31, n_l40, n_l48, n_l57, n_l59, n_l60, n_l70, n_l99, n_l100, n_l255, n_l601, n_l602, n_l1024, n_l1500, n_l2100, n_l2101, n_l65535, n_l100000, n_l1000000, n_l100000000, i_lt, nI_clamp, nI_leI, nI_eq, nI_1, nI_add, pk_mul, pk_sub, n_in, n_negle, n_legne, n_eqneg, n_negeq, n_nn, n_bit, n_shl1, n_or, zb_e0, zb_e1, zb_r, n_em, zb_T, zb_F, zS_uf1, zS_uf2, zS_ur1, zS_ur2, zS_ur3, zS_ul1, zS_ul2, zS_ul3, z_if0, z_if1, Int.reduceEq, Nat.reduceOr, Nat.or_zero, Nat.zero_or, Bool.false_eq_true, reduceCtorEq, nar0, nar1, nar_zb, eq_self, true_and, and_true, false_and, and_false, or_true, true_or, or_false, false_or, not_true_eq_false, not_false_eq_true, Classical.not_not, true_implies, false_implies, implies_true, iff_true, iff_self, ite_true, ite_false, Nat.reduceEqDiff, Nat.reduceLT, Nat.reduceSub, Nat.add_sub_cancel, Nat.reduceLeDiff, reduceIte, ne_eq, Nat.not_le, rdT_f, Nat.not_le.mpr hi, rdT_r, rdT_20]
    have hm := fun k j (hj : j < nv) Q => sp_mayHave7 (sc := sc) (σ := rdT σ np nl nv k i j) (Q := Q) (RV_fr Fr_rdT hV) (RP_fr Fr_rdT hP) (RD_fr Fr_rdT hD) (RLo_fr Fr_rdT hL) (p := i) (v := j) (by omega) (by omega)
    have hm' : ∀ k j, j < nv → ∀ Q, PC sc 64 [.ref 7, .int (nI i), .int (nI j), .int (σ.2.1 94 j)] (rdT σ np nl nv k i j) Q ↔ Q (some (.int (zb (mayH σ nl i j)))) (rdT σ np nl nv k i j) := fun k j hj Q => hm k j hj Q
    refine Iff.trans ((lp_all nv (fun j => PW sc 21 (zblk 21 2) 3 [some (.ref 2), some (.ref 7), some (.ref 10), some (.int (nI i)), some (.int (nI j))] [] (rdT σ np nl nv (i + 1) i j) Q) (fun j hj => ?_)).trans ?_) (ih (some (.int (nI nv))))
    · conv => lhs; rw [zb_21_2]
      rw [← rdT_in (show i < 10 by omega)]
      have h5 : σ.2.1 (55 + i) j = σ.2.1 97 (10 * i + j) := p5 i (by omega) j (by omega)
      unfold lkH
      by_cases c : mayH σ nl i j
      · rw [cif_t c]
        simp (disch := first | exact zl_i | exact zl_r | exact zl_n | omega | exact zlen0 | exact zlen1 | exact zlen2 | exact zlen3 | exact zlen4 | exact zl_l | (unfold scF; omega) | (unfold scR; omega) | (simp only [zS_uf1, zS_uf2, zS_ur1, zS_ur2, Nat.reduceEqDiff, reduceIte, and_false, false_and, and_true, true_and, ite_true, ite_false]; done) | exact zl_n) only [Int.reduceToNat, Nat.reduceAdd, Nat.reduceMul, List.length_nil, List.length_cons, Nat.reduceLeDiff, Nat.zero_le, Option.toList_some, Option.toList_none, List.cons_append, List.nil_append, PW_nil, PW_goto, zl_i, zl_r, zl_n, PW_aload_0, PW_aload_1, PW_g452, PW_p128, PW_aload_2, PW_g645, PW_p129, PW_k0, PW_istore_3, PW_iload_3, PW_g128, PW_ic_ge, PW_g130, PW_g448, PW_ia20, PW_iar21, PW_ia32, PW_ia33, PW_ia51, PW_iar54, PW_ia79, PW_is20, PW_isr21, PW_is32, PW_is33, PW_is51, PW_isr54, PW_is79, PW_istore_4, PW_iload_4, PW_g129, PW_g131, PW_aa21, PW_aa54, PW_g641, PX_c64, PW_if_eq, PW_g451, PW_iinc_4_p1, PW_iinc_3_p1, PW_g132, PW_km1, PX_c253, PW_g133, PW_ret_v zret_21, zb_21_3, zb_21_4, zb_21_5, zb_21_6, PK_app, n_l0, n_l1, n_l2, n_l3, n_l4, n_l5, n_l8, n_l9, n_l10, n_l15, n_l20, n_l31, n_l40, n_l48, n_l57, n_l59, n_l60, n_l70, n_l99, n_l100, n_l255, n_l601, n_l602, n_l1024, n_l1500, n_l2100, n_l2101, n_l65535, n_l100000, n_l1000000, n_l100000000, i_lt, nI_clamp, nI_leI, nI_eq, nI_1, nI_add, pk_mul, pk_sub, n_in, n_negle, n_legne, n_eqneg, n_negeq, n_nn, n_bit, n_shl1, n_or, zb_e0, zb_e1, zb_r, n_em, zb_T, zb_F, zS_uf1, zS_uf2, zS_ur1, zS_ur2, zS_ur3, zS_ul1, zS_ul2, zS_ul3, z_if0, z_if1, Int.reduceEq, Nat.reduceOr, Nat.or_zero, Nat.zero_or, Bool.false_eq_true, reduceCtorEq, nar0, nar1, nar_zb, eq_self, true_and, and_true, false_and, and_false, or_true, true_or, or_false, false_or, not_true_eq_false, not_false_eq_true, Classical.not_not, true_implies, false_implies, implies_true, iff_true, iff_self, ite_true, ite_false, Nat.reduceEqDiff, Nat.reduceLT, Nat.reduceSub, Nat.add_sub_cancel, Nat.reduceLeDiff, reduceIte, ne_eq, Nat.not_le, rdT_f, Nat.not_le.mpr hj, rdT_r, v5, hm', c, PW_aa21, PW_aa54, h5]
      · rw [cif_f c]
        simp (disch := first | exact zl_i | exact zl_r | exact zl_n | omega | exact zlen0 | exact zlen1 | exact zlen2 | exact zlen3 | exact zlen4 | exact zl_l | (unfold scF; omega) | (unfold scR; omega) | (simp only [zS_uf1, zS_uf2, zS_ur1, zS_ur2, Nat.reduceEqDiff, reduceIte, and_false, false_and, and_true, true_and, ite_true, ite_false]; done) | exact zl_n) only [Int.reduceToNat, Nat.reduceAdd, Nat.reduceMul, List.length_nil, List.length_cons, Nat.reduceLeDiff, Nat.zero_le, Option.toList_some, Option.toList_none, List.cons_append, List.nil_append, PW_nil, PW_goto, zl_i, zl_r, zl_n, PW_aload_0, PW_aload_1, PW_g452, PW_p128, PW_aload_2, PW_g645, PW_p129, PW_k0, PW_istore_3, PW_iload_3, PW_g128, PW_ic_ge, PW_g130, PW_g448, PW_ia20, PW_iar21, PW_ia32, PW_ia33, PW_ia51, PW_iar54, PW_ia79, PW_is20, PW_isr21, PW_is32, PW_is33, PW_is51, PW_isr54, PW_is79, PW_istore_4, PW_iload_4, PW_g129, PW_g131, PW_aa21, PW_aa54, PW_g641, PX_c64, PW_if_eq, PW_g451, PW_iinc_4_p1, PW_iinc_3_p1, PW_g132, PW_km1, PX_c253, PW_g133, PW_ret_v zret_21, zb_21_3, zb_21_4, zb_21_5, zb_21_6, PK_app, n_l0, n_l1, n_l2, n_l3, n_l4, n_l5, n_l8, n_l9, n_l10, n_l15, n_l20, n_l31, n_l40, n_l48, n_l57, n_l59, n_l60, n_l70, n_l99, n_l100, n_l255, n_l601, n_l602, n_l1024, n_l1500, n_l2100, n_l2101, n_l65535, n_l100000, n_l1000000, n_l100000000, i_lt, nI_clamp, nI_leI, nI_eq, nI_1, nI_add, pk_mul, pk_sub, n_in, n_negle, n_legne, n_eqneg, n_negeq, n_nn, n_bit, n_shl1, n_or, zb_e0, zb_e1, zb_r, n_em, zb_T, zb_F, zS_uf1, zS_uf2, zS_ur1, zS_ur2, zS_ur3, zS_ul1, zS_ul2, zS_ul3, z_if0, z_if1, Int.reduceEq, Nat.reduceOr, Nat.or_zero, Nat.zero_or, Bool.false_eq_true, reduceCtorEq, nar0, nar1, nar_zb, eq_self, true_and, and_true, false_and, and_false, or_true, true_or, or_false, false_or, not_true_eq_false, not_false_eq_true, Classical.not_not, true_implies, false_implies, implies_true, iff_true, iff_self, ite_true, ite_false, Nat.reduceEqDiff, Nat.reduceLT, Nat.reduceSub, Nat.add_sub_cancel, Nat.reduceLeDiff, reduceIte, ne_eq, Nat.not_le, rdT_f, Nat.not_le.mpr hj, rdT_r, v5, hm', c, PW_aa21, PW_aa54]
    · rw [zb_21_2]
      simp (disch := first | exact zl_i | exact zl_r | exact zl_n | omega | exact zlen0 | exact zlen1 | exact zlen2 | exact zlen3 | exact zlen4 | exact zl_l | (unfold scF; omega) | (unfold scR; omega) | (simp only [zS_uf1, zS_uf2, zS_ur1, zS_ur2, Nat.reduceEqDiff, reduceIte, and_false, false_and, and_true, true_and, ite_true, ite_false]; done) | exact zl_n) only [Int.reduceToNat, Nat.reduceAdd, Nat.reduceMul, List.length_nil, List.length_cons, Nat.reduceLeDiff, Nat.zero_le, Option.toList_some, Option.toList_none, List.cons_append, List.nil_append, PW_nil, PW_goto, zl_i, zl_r, zl_n, PW_aload_0, PW_aload_1, PW_g452, PW_p128, PW_aload_2, PW_g645, PW_p129, PW_k0, PW_istore_3, PW_iload_3, PW_g128, PW_ic_ge, PW_g130, PW_g448, PW_ia20, PW_iar21, PW_ia32, PW_ia33, PW_ia51, PW_iar54, PW_ia79, PW_is20, PW_isr21, PW_is32, PW_is33, PW_is51, PW_isr54, PW_is79, PW_istore_4, PW_iload_4, PW_g129, PW_g131, PW_aa21, PW_aa54, PW_g641, PX_c64, PW_if_eq, PW_g451, PW_iinc_4_p1, PW_iinc_3_p1, PW_g132, PW_km1, PX_c253, PW_g133, PW_ret_v zret_21, zb_21_3, zb_21_4, zb_21_5, zb_21_6, PK_app, n_l0, n_l1, n_l2, n_l3, n_l4, n_l5, n_l8, n_l9, n_l10, n_l15, n_l20, n_l31, n_l40, n_l48, n_l57, n_l59, n_l60, n_l70, n_l99, n_l100, n_l255, n_l601, n_l602, n_l1024, n_l1500, n_l2100, n_l2101, n_l65535, n_l100000, n_l1000000, n_l100000000, i_lt, nI_clamp, nI_leI, nI_eq, nI_1, nI_add, pk_mul, pk_sub, n_in, n_negle, n_legne, n_eqneg, n_negeq, n_nn, n_bit, n_shl1, n_or, zb_e0, zb_e1, zb_r, n_em, zb_T, zb_F, zS_uf1, zS_uf2, zS_ur1, zS_ur2, zS_ur3, zS_ul1, zS_ul2, zS_ul3, z_if0, z_if1, Int.reduceEq, Nat.reduceOr, Nat.or_zero, Nat.zero_or, Bool.false_eq_true, reduceCtorEq, nar0, nar1, nar_zb, eq_self, true_and, and_true, false_and, and_false, or_true, true_or, or_false, false_or, not_true_eq_false, not_false_eq_true, Classical.not_not, true_implies, false_implies, implies_true, iff_true, iff_self, ite_true, ite_false, Nat.reduceEqDiff, Nat.reduceLT, Nat.reduceSub, Nat.add_sub_cancel, Nat.reduceLeDiff, reduceIte, ne_eq, Nat.not_le, rdT_f, Nat.le_refl, rdT_nx]
end RDT
