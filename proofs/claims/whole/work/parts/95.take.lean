/-! taking a lending: the class -/
theorem mayH_cg {σ τ : zS} {nl p v : Nat} (h94 : τ.2.1 94 = σ.2.1 94) (h97 : τ.2.1 97 = σ.2.1 97) (h98 : τ.2.1 98 = σ.2.1 98) (h108 : τ.2.1 108 = σ.2.1 108) (h109 : τ.2.1 109 = σ.2.1 109) : mayH τ nl p v ↔ mayH σ nl p v := by
  unfold mayH hasH
  rw [h94, h97, h98, h108, h109]
theorem Fr_uf2 {σ S : zS} {c j : Nat} {x : Int32} (h : Fr σ S) : Fr (zuf σ c j x) (zuf S c j x) := by
  refine ⟨fun c' j' q => ?_, h.2⟩
  rw [zS_uf1, zS_uf1]
  by_cases z : c' = c ∧ j' = j
  · rw [if_pos z, if_pos z]
  · rw [if_neg z, if_neg z]
    exact h.1 c' j' q
section TK
variable {sc : zX} {σ : zS} {Q : Option Value → zS → Prop}
theorem take_w {k l i np nv nl len : Nat} {x : Nat → Int32} (hV : RV σ nv) (hP : RP σ np) (hD : RD σ) (hL : RLo σ nv np nl) (hk : k < 4) (hl : l ≤ 2) (h1 : σ.2.1 65 k = nI l) (h2 : σ.2.1 66 k = nI len) (h3 : len ≤ 60) (h4 : i + np ≤ len) (hx : ∀ p, p < np → σ.2.1 (68 + k) (i + p) = x p)
    (hyes : lok (mayH σ nl) nv x np → ∀ S, Fr (zuf σ 11 12 (nI 0)) S → S.1 2 0 = nI np → S.1 2 1 = nI nv → (∀ q, q < np → S.2.1 32 q = x q) → (∀ u, u < nv → S.2.1 33 u = oi (-nI 1) (hlr x np u)) → (∀ q, q < np → S.2.1 20 q = σ.2.1 51 q) → (∀ p, p < np → ∀ u, u < nv → S.2.1 (22 + p) u = cif (mayH σ nl p u) (σ.2.1 97 (10 * p + u)) (nI 0)) → Q (some (.int (nI 0))) S)
    (hno : ¬ lok (mayH σ nl) nv x np → ∀ S, Fr (zuf σ 11 12 (nI 0)) S → Q (some (.int (-nI 2))) S) :
    PC sc 138 [.ref 11, .int (nI k), .int (nI l), .int (nI i)] σ Q := by
  have p1 := hP.1
  have p2 := hP.2.1
  have v1 := hV.1
  have A := fun Q => sp_take_ok (sc := sc) (Q := Q) (σ := zuf σ 11 12 (nI 0)) hk hl h1 h2 h3 h4
  simp only [zS_uf2] at A
  have hG : ∀ p, p < np → va_cpy (σ.2.1 (68 + k)) (σ.2.1 72) i 0 np p = x p := fun p hp => by
    rw [pk_cpy_in (Nat.zero_le p) (by omega), ← hx p hp]
    exact congrArg _ (by omega)
  generalize va_cpy (σ.2.1 (68 + k)) (σ.2.1 72) i 0 np = G at A hG
  have hV1 : RV (zur (zuf σ 11 12 (nI 0)) 72 G) nv := (RV_ur (by unfold VR; omega)).mpr ((RV_uf (by unfold VF; omega)).mpr hV)
  have hP1 : RP (zur (zuf σ 11 12 (nI 0)) 72 G) np := (RP_ur (by unfold PR; omega)).mpr ((RP_uf (by unfold PF; omega)).mpr hP)
  have hD1 : RD (zur (zuf σ 11 12 (nI 0)) 72 G) := (RD_ur (by unfold DR; omega)).mpr ((RD_uf DF_no).mpr hD)
  have hL1 : RLo (zur (zuf σ 11 12 (nI 0)) 72 G) nv np nl := (RLo_ur (by unfold LR; omega)).mpr ((RLo_uf (by unfold LF; omega)).mpr hL)
  have hrd := fun Q => sp_readL (sc := sc) (Q := Q) hV1 hP1 hD1 hL1
  have hFr : Fr (zuf σ 11 12 (nI 0)) (zur (zuf σ 11 12 (nI 0)) 72 G) := Fr.refl.ur (by unfold scR; omega)
  have hlk : ∀ p, p < np → ∀ u, u < nv → (rdT (zur (zuf σ 11 12 (nI 0)) 72 G) np nl nv np np 0).2.1 (22 + p) u = cif (mayH σ nl p u) (σ.2.1 97 (10 * p + u)) (nI 0) := fun p hp u hu => by
    rw [rdR_in (by omega), if_pos (Or.inl ⟨by omega, hu⟩), show 22 + p - 22 = p by omega]
    exact rfl
  have h20 : ∀ q, q < np → (rdT (zur (zuf σ 11 12 (nI 0)) 72 G) np nl nv np np 0).2.1 20 q = σ.2.1 51 q := fun q hq => by
    rw [rdR_20, if_pos hq]
    exact rfl
  have hM0 : ∀ p v, p < np → v < nv → ((rdT (zur (zuf σ 11 12 (nI 0)) 72 G) np nl nv np np 0).2.1 (22 + p) v = nI 0 ↔ ¬ mayH σ nl p v) := fun p v hp hv => by
    rw [hlk p hp v hv]
    by_cases m : mayH σ nl p v
    · rw [cif_t m]
      exact ⟨fun z => absurd (by rw [z]; exact Int32.le_refl _) m.1, fun z => absurd m z⟩
    · rw [cif_f m]
      exact ⟨fun _ => m, fun _ => rfl⟩
  have h72 : ∀ p, p < np → (rdT (zur (zuf σ 11 12 (nI 0)) 72 G) np nl nv np np 0).2.1 72 p = x p := fun p hp => by
    rw [rdT_r (by omega)]
    exact hG p hp
  have hF2 : Fr (zuf σ 11 12 (nI 0)) (rdT (zur (zuf σ 11 12 (nI 0)) 72 G) np nl nv np np 0) := hFr.trans Fr_rdT
  generalize hT : rdT (zur (zuf σ 11 12 (nI 0)) 72 G) np nl nv np np 0 = T at *
  have t0 : T.1 2 0 = nI np := by rw [← hT]; exact rfl
  have t1 : T.1 2 1 = nI nv := by rw [← hT]; exact rfl
  rw [PC_138, zb_138_0]
  simp (disch := first | exact zl_i | exact zl_r | exact zl_n | omega | exact zlen0 | exact zlen1 | exact zlen2 | exact zlen3 | exact zlen4 | exact zl_l | (unfold scF; omega) | (unfold scR; omega) | (simp only [zS_uf1, zS_uf2, zS_ur1, zS_ur2, Nat.reduceEqDiff, reduceIte, and_false, false_and, and_true, true_and, ite_true, ite_false]; done) | exact zl_n) only [Int.reduceToNat, Nat.reduceAdd, Nat.reduceMul, List.length_nil, List.length_cons, Nat.reduceLeDiff, Nat.zero_le, Option.toList_some, Option.toList_none, List.cons_append, List.nil_append, PW_nil, PW_goto, zl_i, zl_r, zl_n, PW_aload_0, PW_iload_1, PW_iload_2, PW_iload_3, PW_g705, PW_g452, PX_c137, PW_istore_4, PW_iload_4, PW_if_eq, PW_ret_i zret_138, PW_g713, PW_g704, PX_c21, PW_g710, PW_g515, PX_c34, PW_k0, PW_km2, zb_138_1, zb_138_2, zb_138_3, PK_app, n_l0, n_l1, n_l2, n_l3, n_l4, n_l5, n_l8, n_l9, n_l10, n_l15, n_l20, n_l31, n_l40, n_l48, n_l57, n_l59, n_l60, n_l70, n_l99, n_l100, n_l255, n_l601, n_l602, n_l1024, n_l1500, n_l2100, n_l2101, n_l65535, n_l100000, n_l1000000, n_l100000000, i_lt, nI_clamp, nI_leI, nI_eq, nI_1, nI_add, pk_mul, pk_sub, n_in, n_negle, n_legne, n_eqneg, n_negeq, n_nn, n_bit, n_shl1, n_or, zb_e0, zb_e1, zb_r, n_em, zb_T, zb_F, zS_uf1, zS_uf2, zS_ur1, zS_ur2, zS_ur3, zS_ul1, zS_ul2, zS_ul3, z_if0, z_if1, Int.reduceEq, Nat.reduceOr, Nat.or_zero, Nat.zero_or, Bool.false_eq_true, reduceCtorEq, nar0, nar1, nar_zb, eq_self, true_and, and_true, false_and, and_false, or_true, true_or, or_false, false_or, not_true_eq_false, not_false_eq_true, Classical.not_not, true_implies, false_implies, implies_true, iff_true, iff_self, ite_true, ite_false, Nat.reduceEqDiff, Nat.reduceLT, Nat.reduceSub, Nat.add_sub_cancel, Nat.reduceLeDiff, reduceIte, ne_eq, Nat.not_le, p2, PC_137, zb_137_0, Int.reduceToNat, Nat.reduceAdd, Nat.reduceMul, List.length_nil, List.length_cons, Nat.reduceLeDiff, Nat.zero_le, Option.toList_some, Option.toList_none, List.cons_append, List.nil_append, PW_nil, PW_goto, zl_i, zl_r, zl_n, PW_aload_0, PW_k0, PW_p716, PW_g710, PW_iload_1, PX_c65, PW_if_ne, PW_km1, PW_ret_i zret_137, PW_iload_2, PX_c134, PW_if_eq, PW_iload_3, PW_iload_4, PX_c69, PX_c136, PW_km2, zb_137_1, zb_137_2, zb_137_3, sp_knows8, sp_isLane, show ¬ 4 ≤ k by omega, hl, Nat.zero_le, A, PC_136, zb_136_0, Int.reduceToNat, Nat.reduceAdd, Nat.reduceMul, List.length_nil, List.length_cons, Nat.reduceLeDiff, Nat.zero_le, Option.toList_some, Option.toList_none, List.cons_append, List.nil_append, PW_nil, PW_goto, zl_i, zl_r, zl_n, PW_aload_0, PW_iload_1, PW_p716, PW_if_ne, PW_k0, PW_km10, PW_isub, PW_ret_i zret_136, zb_136_1, zb_136_2, zuf_same, zur_uf, hrd]
  refine acc_w (x := x) (M := mayH σ nl) p1 v1 t0 t1 h72 hM0 (fun hok => ?_) (fun hok i => ?_)
  · simp (disch := first | exact zl_i | exact zl_r | exact zl_n | omega | exact zlen0 | exact zlen1 | exact zlen2 | exact zlen3 | exact zlen4 | exact zl_l | (unfold scF; omega) | (unfold scR; omega) | (simp only [zS_uf1, zS_uf2, zS_ur1, zS_ur2, Nat.reduceEqDiff, reduceIte, and_false, false_and, and_true, true_and, ite_true, ite_false]; done) | exact zl_n) only [Int.reduceToNat, Nat.reduceAdd, Nat.reduceMul, List.length_nil, List.length_cons, Nat.reduceLeDiff, Nat.zero_le, Option.toList_some, Option.toList_none, List.cons_append, List.nil_append, PW_nil, PW_goto, zl_i, zl_r, zl_n, PW_aload_0, PW_iload_1, PW_iload_2, PW_iload_3, PW_g705, PW_g452, PX_c137, PW_istore_4, PW_iload_4, PW_if_eq, PW_ret_i zret_138, PW_g713, PW_g704, PX_c21, PW_g710, PW_g515, PX_c34, PW_k0, PW_km2, zb_138_1, zb_138_2, zb_138_3, PK_app, n_l0, n_l1, n_l2, n_l3, n_l4, n_l5, n_l8, n_l9, n_l10, n_l15, n_l20, n_l31, n_l40, n_l48, n_l57, n_l59, n_l60, n_l70, n_l99, n_l100, n_l255, n_l601, n_l602, n_l1024, n_l1500, n_l2100, n_l2101, n_l65535, n_l100000, n_l1000000, n_l100000000, i_lt, nI_clamp, nI_leI, nI_eq, nI_1, nI_add, pk_mul, pk_sub, n_in, n_negle, n_legne, n_eqneg, n_negeq, n_nn, n_bit, n_shl1, n_or, zb_e0, zb_e1, zb_r, n_em, zb_T, zb_F, zS_uf1, zS_uf2, zS_ur1, zS_ur2, zS_ur3, zS_ul1, zS_ul2, zS_ul3, z_if0, z_if1, Int.reduceEq, Nat.reduceOr, Nat.or_zero, Nat.zero_or, Bool.false_eq_true, reduceCtorEq, nar0, nar1, nar_zb, eq_self, true_and, and_true, false_and, and_false, or_true, true_or, or_false, false_or, not_true_eq_false, not_false_eq_true, Classical.not_not, true_implies, false_implies, implies_true, iff_true, iff_self, ite_true, ite_false, Nat.reduceEqDiff, Nat.reduceLT, Nat.reduceSub, Nat.add_sub_cancel, Nat.reduceLeDiff, reduceIte, ne_eq, Nat.not_le, PK_app]
    refine hyes hok _ ((hF2.ur (by unfold scR; omega)).ur (by unfold scR; omega)) t0 t1 (fun q hq => ?_) (fun u hu => ?_) h20 (fun p hp u hu => by rw [zS_ur2, if_neg (by omega), zS_ur2, if_neg (by omega)]; exact hlk p hp u hu)
    · exact if_pos hq
    · exact if_pos (by omega)
  · simp (disch := first | exact zl_i | exact zl_r | exact zl_n | omega | exact zlen0 | exact zlen1 | exact zlen2 | exact zlen3 | exact zlen4 | exact zl_l | (unfold scF; omega) | (unfold scR; omega) | (simp only [zS_uf1, zS_uf2, zS_ur1, zS_ur2, Nat.reduceEqDiff, reduceIte, and_false, false_and, and_true, true_and, ite_true, ite_false]; done) | exact zl_n) only [Int.reduceToNat, Nat.reduceAdd, Nat.reduceMul, List.length_nil, List.length_cons, Nat.reduceLeDiff, Nat.zero_le, Option.toList_some, Option.toList_none, List.cons_append, List.nil_append, PW_nil, PW_goto, zl_i, zl_r, zl_n, PW_aload_0, PW_iload_1, PW_iload_2, PW_iload_3, PW_g705, PW_g452, PX_c137, PW_istore_4, PW_iload_4, PW_if_eq, PW_ret_i zret_138, PW_g713, PW_g704, PX_c21, PW_g710, PW_g515, PX_c34, PW_k0, PW_km2, zb_138_1, zb_138_2, zb_138_3, PK_app, n_l0, n_l1, n_l2, n_l3, n_l4, n_l5, n_l8, n_l9, n_l10, n_l15, n_l20, n_l31, n_l40, n_l48, n_l57, n_l59, n_l60, n_l70, n_l99, n_l100, n_l255, n_l601, n_l602, n_l1024, n_l1500, n_l2100, n_l2101, n_l65535, n_l100000, n_l1000000, n_l100000000, i_lt, nI_clamp, nI_leI, nI_eq, nI_1, nI_add, pk_mul, pk_sub, n_in, n_negle, n_legne, n_eqneg, n_negeq, n_nn, n_bit, n_shl1, n_or, zb_e0, zb_e1, zb_r, n_em, zb_T, zb_F, zS_uf1, zS_uf2, zS_ur1, zS_ur2, zS_ur3, zS_ul1, zS_ul2, zS_ul3, z_if0, z_if1, Int.reduceEq, Nat.reduceOr, Nat.or_zero, Nat.zero_or, Bool.false_eq_true, reduceCtorEq, nar0, nar1, nar_zb, eq_self, true_and, and_true, false_and, and_false, or_true, true_or, or_false, false_or, not_true_eq_false, not_false_eq_true, Classical.not_not, true_implies, false_implies, implies_true, iff_true, iff_self, ite_true, ite_false, Nat.reduceEqDiff, Nat.reduceLT, Nat.reduceSub, Nat.add_sub_cancel, Nat.reduceLeDiff, reduceIte, ne_eq, Nat.not_le, PK_app]
    exact hno hok _ ((hF2.ur (by unfold scR; omega)).ur (by unfold scR; omega))
end TK
