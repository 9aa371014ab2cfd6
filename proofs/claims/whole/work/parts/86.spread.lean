/-! the spread: the reference, and both -/
noncomputable def dlr (D : Nat → Int32) (d : Int32) (n : Nat) (g : Nat → Int32) (t : Nat) : Nat → Int32 := fun i => if i < cnt (onD D d) t then nI (ix (onD D d) n i) else g i
theorem dlr_s {D : Nat → Int32} {d : Int32} {n t : Nat} {g : Nat → Int32} (ht : t < n) (h : onD D d t) : upd (dlr D d n g t) (cnt (onD D d) t) (nI t) = dlr D d n g (t + 1) := funext fun i => by
  unfold upd dlr
  rw [cnt_t h]
  by_cases z : i = cnt (onD D d) t
  · rw [if_pos z, if_pos (by omega), z, ix_of h ht]
  · rw [if_neg z]
    by_cases q : i < cnt (onD D d) t
    · rw [if_pos q, if_pos (by omega)]
    · rw [if_neg q, if_neg (by omega)]
theorem dlr_k {D : Nat → Int32} {d : Int32} {n t : Nat} {g : Nat → Int32} (h : ¬ onD D d t) : dlr D d n g (t + 1) = dlr D d n g t := by
  unfold dlr
  rw [cnt_f h]
theorem dlr_0 {D : Nat → Int32} {d : Int32} {n : Nat} {g : Nat → Int32} : dlr D d n g 0 = g := funext fun i => if_neg (Nat.not_lt_zero i)
noncomputable def vS (σ : zS) (P X : Nat → Nat) (m : Nat) (r : Nat → Int32) (i : Nat) : zS := zur (zuf (zuf (zuf σ 12 51 (nI m)) 12 52 (om (-nI 9) (fun k => nI k) (nx (wok P m) (rkM X m) i))) 12 53 (om (nI 0) (rkM X m) (nx (wok P m) (rkM X m) i))) 127 r
section SPR
variable {sc : zX} {σ : zS} {Q : Option Value → zS → Prop}
theorem sp_findSpread {d : Int32} {n m : Nat} {P X : Nat → Nat} (hn : σ.1 12 45 = nI n) (ht : trp (σ.2.1 124) (σ.2.1 125) (σ.2.1 126) (σ.2.1 95) n) (hP : P = dP (σ.2.1 125) (σ.2.1 126) d n) (hX : X = dX (σ.2.1 124) (σ.2.1 125) (σ.2.1 95) d n) (hm : m = dM (σ.2.1 125) d n) :
    PC sc 220 [.ref 12, .int d] σ Q ↔ Q none (vS σ P X m (dlr (σ.2.1 125) d n (σ.2.1 127) n) (2 ^ m)) := by
  have hm10 : m ≤ 10 := by rw [hm]; exact dM_le ht
  have hn40 := ht.1
  have hs := n_shl1 (show m < 32 by omega)
  have hw := Nat.pow_le_pow_right (show 0 < 2 by omega) hm10
  have hw2 : (2 : Nat) ^ 10 = 1024 := rfl
  have hmn : cnt (onD (σ.2.1 125) d) n = m := hm.symm
  rw [PC_220, zb_220_0]
  simp (disch := first | exact zl_i | exact zl_r | exact zl_n | omega | exact zlen0 | exact zlen1 | exact zlen2 | exact zlen3 | exact zlen4 | exact zl_l | (unfold scF; omega) | (unfold scR; omega) | (simp only [zS_uf1, zS_uf2, zS_ur1, zS_ur2, Nat.reduceEqDiff, reduceIte, and_false, false_and, and_true, true_and, ite_true, ite_false]; done) | exact zl_n) only [Int.reduceToNat, Nat.reduceAdd, Nat.reduceMul, List.length_nil, List.length_cons, Nat.reduceLeDiff, Nat.zero_le, Option.toList_some, Option.toList_none, List.cons_append, List.nil_append, PW_nil, PW_goto, zl_i, zl_r, zl_n, PW_aload_0, PW_k0, PW_p819, PW_istore_2, PW_iload_2, PW_g813, PW_ic_ge, PW_g815, PW_ia125, PW_ia127, PW_iload_1, PW_ic_ne, PW_g818, PW_g819, PW_is125, PW_is127, PW_dup_i, PW_dup_r, PW_k1, PW_iadd, PW_iinc_2_p1, PW_km9, PW_p820, PW_p821, PW_ishl, PX_c218, PW_if_eq, PX_c219, PW_istore_3, PW_g820, PW_ic_eq, PW_iload_3, PW_g821, PW_ret_v zret_220, zb_220_2, zb_220_3, zb_220_5, zb_220_6, zb_220_7, PK_app, n_l0, n_l1, n_l2, n_l3, n_l4, n_l5, n_l8, n_l9, n_l10, n_l15, n_l20, n_l31, n_l40, n_l48, n_l57, n_l59, n_l60, n_l70, n_l99, n_l100, n_l255, n_l601, n_l602, n_l1024, n_l1500, n_l2100, n_l2101, n_l65535, n_l100000, n_l1000000, n_l100000000, i_lt, nI_clamp, nI_leI, nI_eq, nI_1, nI_add, pk_mul, pk_sub, n_in, n_negle, n_legne, n_eqneg, n_negeq, n_nn, n_bit, n_shl1, n_or, zb_e0, zb_e1, zb_r, n_em, zb_T, zb_F, zS_uf1, zS_uf2, zS_ur1, zS_ur2, zS_ur3, zS_ul1, zS_ul2, zS_ul3, z_if0, z_if1, Int.reduceEq, Nat.reduceOr, Nat.or_zero, Nat.zero_or, Bool.false_eq_true, reduceCtorEq, nar0, nar1, nar_zb, eq_self, true_and, and_true, false_and, and_false, or_true, true_or, or_false, false_or, not_true_eq_false, not_false_eq_true, Classical.not_not, true_implies, false_implies, implies_true, iff_true, iff_self, ite_true, ite_false, Nat.reduceEqDiff, Nat.reduceLT, Nat.reduceSub, Nat.add_sub_cancel, Nat.reduceLeDiff, reduceIte, ne_eq, Nat.not_le]
  refine Iff.trans ?_ ((lp_all n (fun t => PW sc 220 (zblk 220 1) 2 [some (.ref 12), some (.int (d)), some (.int (nI t)), none] [] (zur (zuf σ 12 51 (nI (cnt (onD (σ.2.1 125) d) t))) 127 (dlr (σ.2.1 125) d n (σ.2.1 127) t)) Q) (fun t h => ?_)).trans ?_)
  · have e3 : ∀ τ : zS, τ.2.1 127 = σ.2.1 127 → zur τ 127 (σ.2.1 127) = τ := fun τ q => by rw [← q, zur_id]
    rw [dlr_0, e3 (zuf σ 12 51 (nI (cnt (onD (σ.2.1 125) d) 0))) rfl]
    exact Iff.rfl
  · conv => lhs; rw [zb_220_1]
    have hc : cnt (onD (σ.2.1 125) d) t ≤ t := cnt_le t
    have hc2 := cnt_mono (c := onD (σ.2.1 125) d) (show t + 1 ≤ n from h)
    by_cases q : σ.2.1 125 t = d
    · rw [← dlr_s h q]
      rw [cnt_t (c := onD (σ.2.1 125) d) q] at hc2 ⊢
      simp (disch := first | exact zl_i | exact zl_r | exact zl_n | omega | exact zlen0 | exact zlen1 | exact zlen2 | exact zlen3 | exact zlen4 | exact zl_l | (unfold scF; omega) | (unfold scR; omega) | (simp only [zS_uf1, zS_uf2, zS_ur1, zS_ur2, Nat.reduceEqDiff, reduceIte, and_false, false_and, and_true, true_and, ite_true, ite_false]; done) | exact zl_n) only [Int.reduceToNat, Nat.reduceAdd, Nat.reduceMul, List.length_nil, List.length_cons, Nat.reduceLeDiff, Nat.zero_le, Option.toList_some, Option.toList_none, List.cons_append, List.nil_append, PW_nil, PW_goto, zl_i, zl_r, zl_n, PW_aload_0, PW_k0, PW_p819, PW_istore_2, PW_iload_2, PW_g813, PW_ic_ge, PW_g815, PW_ia125, PW_ia127, PW_iload_1, PW_ic_ne, PW_g818, PW_g819, PW_is125, PW_is127, PW_dup_i, PW_dup_r, PW_k1, PW_iadd, PW_iinc_2_p1, PW_km9, PW_p820, PW_p821, PW_ishl, PX_c218, PW_if_eq, PX_c219, PW_istore_3, PW_g820, PW_ic_eq, PW_iload_3, PW_g821, PW_ret_v zret_220, zb_220_2, zb_220_3, zb_220_5, zb_220_6, zb_220_7, PK_app, n_l0, n_l1, n_l2, n_l3, n_l4, n_l5, n_l8, n_l9, n_l10, n_l15, n_l20, n_l31, n_l40, n_l48, n_l57, n_l59, n_l60, n_l70, n_l99, n_l100, n_l255, n_l601, n_l602, n_l1024, n_l1500, n_l2100, n_l2101, n_l65535, n_l100000, n_l1000000, n_l100000000, i_lt, nI_clamp, nI_leI, nI_eq, nI_1, nI_add, pk_mul, pk_sub, n_in, n_negle, n_legne, n_eqneg, n_negeq, n_nn, n_bit, n_shl1, n_or, zb_e0, zb_e1, zb_r, n_em, zb_T, zb_F, zS_uf1, zS_uf2, zS_ur1, zS_ur2, zS_ur3, zS_ul1, zS_ul2, zS_ul3, z_if0, z_if1, Int.reduceEq, Nat.reduceOr, Nat.or_zero, Nat.zero_or, Bool.false_eq_true, reduceCtorEq, nar0, nar1, nar_zb, eq_self, true_and, and_true, false_and, and_false, or_true, true_or, or_false, false_or, not_true_eq_false, not_false_eq_true, Classical.not_not, true_implies, false_implies, implies_true, iff_true, iff_self, ite_true, ite_false, Nat.reduceEqDiff, Nat.reduceLT, Nat.reduceSub, Nat.add_sub_cancel, Nat.reduceLeDiff, reduceIte, ne_eq, Nat.not_le, hn, Nat.not_le.mpr h, eq_true q, zur_uf, zuf_same, zur_same]
    · rw [dlr_k q, cnt_f (c := onD (σ.2.1 125) d) q]
      simp (disch := first | exact zl_i | exact zl_r | exact zl_n | omega | exact zlen0 | exact zlen1 | exact zlen2 | exact zlen3 | exact zlen4 | exact zl_l | (unfold scF; omega) | (unfold scR; omega) | (simp only [zS_uf1, zS_uf2, zS_ur1, zS_ur2, Nat.reduceEqDiff, reduceIte, and_false, false_and, and_true, true_and, ite_true, ite_false]; done) | exact zl_n) only [Int.reduceToNat, Nat.reduceAdd, Nat.reduceMul, List.length_nil, List.length_cons, Nat.reduceLeDiff, Nat.zero_le, Option.toList_some, Option.toList_none, List.cons_append, List.nil_append, PW_nil, PW_goto, zl_i, zl_r, zl_n, PW_aload_0, PW_k0, PW_p819, PW_istore_2, PW_iload_2, PW_g813, PW_ic_ge, PW_g815, PW_ia125, PW_ia127, PW_iload_1, PW_ic_ne, PW_g818, PW_g819, PW_is125, PW_is127, PW_dup_i, PW_dup_r, PW_k1, PW_iadd, PW_iinc_2_p1, PW_km9, PW_p820, PW_p821, PW_ishl, PX_c218, PW_if_eq, PX_c219, PW_istore_3, PW_g820, PW_ic_eq, PW_iload_3, PW_g821, PW_ret_v zret_220, zb_220_2, zb_220_3, zb_220_5, zb_220_6, zb_220_7, PK_app, n_l0, n_l1, n_l2, n_l3, n_l4, n_l5, n_l8, n_l9, n_l10, n_l15, n_l20, n_l31, n_l40, n_l48, n_l57, n_l59, n_l60, n_l70, n_l99, n_l100, n_l255, n_l601, n_l602, n_l1024, n_l1500, n_l2100, n_l2101, n_l65535, n_l100000, n_l1000000, n_l100000000, i_lt, nI_clamp, nI_leI, nI_eq, nI_1, nI_add, pk_mul, pk_sub, n_in, n_negle, n_legne, n_eqneg, n_negeq, n_nn, n_bit, n_shl1, n_or, zb_e0, zb_e1, zb_r, n_em, zb_T, zb_F, zS_uf1, zS_uf2, zS_ur1, zS_ur2, zS_ur3, zS_ul1, zS_ul2, zS_ul3, z_if0, z_if1, Int.reduceEq, Nat.reduceOr, Nat.or_zero, Nat.zero_or, Bool.false_eq_true, reduceCtorEq, nar0, nar1, nar_zb, eq_self, true_and, and_true, false_and, and_false, or_true, true_or, or_false, false_or, not_true_eq_false, not_false_eq_true, Classical.not_not, true_implies, false_implies, implies_true, iff_true, iff_self, ite_true, ite_false, Nat.reduceEqDiff, Nat.reduceLT, Nat.reduceSub, Nat.add_sub_cancel, Nat.reduceLeDiff, reduceIte, ne_eq, Nat.not_le, hn, Nat.not_le.mpr h, q]
  · rw [hmn, zb_220_1]
    simp (disch := first | exact zl_i | exact zl_r | exact zl_n | omega | exact zlen0 | exact zlen1 | exact zlen2 | exact zlen3 | exact zlen4 | exact zl_l | (unfold scF; omega) | (unfold scR; omega) | (simp only [zS_uf1, zS_uf2, zS_ur1, zS_ur2, Nat.reduceEqDiff, reduceIte, and_false, false_and, and_true, true_and, ite_true, ite_false]; done) | exact zl_n) only [Int.reduceToNat, Nat.reduceAdd, Nat.reduceMul, List.length_nil, List.length_cons, Nat.reduceLeDiff, Nat.zero_le, Option.toList_some, Option.toList_none, List.cons_append, List.nil_append, PW_nil, PW_goto, zl_i, zl_r, zl_n, PW_aload_0, PW_k0, PW_p819, PW_istore_2, PW_iload_2, PW_g813, PW_ic_ge, PW_g815, PW_ia125, PW_ia127, PW_iload_1, PW_ic_ne, PW_g818, PW_g819, PW_is125, PW_is127, PW_dup_i, PW_dup_r, PW_k1, PW_iadd, PW_iinc_2_p1, PW_km9, PW_p820, PW_p821, PW_ishl, PX_c218, PW_if_eq, PX_c219, PW_istore_3, PW_g820, PW_ic_eq, PW_iload_3, PW_g821, PW_ret_v zret_220, zb_220_2, zb_220_3, zb_220_5, zb_220_6, zb_220_7, PK_app, n_l0, n_l1, n_l2, n_l3, n_l4, n_l5, n_l8, n_l9, n_l10, n_l15, n_l20, n_l31, n_l40, n_l48, n_l57, n_l59, n_l60, n_l70, n_l99, n_l100, n_l255, n_l601, n_l602, n_l1024, n_l1500, n_l2100, n_l2101, n_l65535, n_l100000, n_l1000000, n_l100000000, i_lt, nI_clamp, nI_leI, nI_eq, nI_1, nI_add, pk_mul, pk_sub, n_in, n_negle, n_legne, n_eqneg, n_negeq, n_nn, n_bit, n_shl1, n_or, zb_e0, zb_e1, zb_r, n_em, zb_T, zb_F, zS_uf1, zS_uf2, zS_ur1, zS_ur2, zS_ur3, zS_ul1, zS_ul2, zS_ul3, z_if0, z_if1, Int.reduceEq, Nat.reduceOr, Nat.or_zero, Nat.zero_or, Bool.false_eq_true, reduceCtorEq, nar0, nar1, nar_zb, eq_self, true_and, and_true, false_and, and_false, or_true, true_or, or_false, false_or, not_true_eq_false, not_false_eq_true, Classical.not_not, true_implies, false_implies, implies_true, iff_true, iff_self, ite_true, ite_false, Nat.reduceEqDiff, Nat.reduceLT, Nat.reduceSub, Nat.add_sub_cancel, Nat.reduceLeDiff, reduceIte, ne_eq, Nat.not_le, hn, Nat.le_refl, zur_uf]
    have hr : ∀ i, i < m → dlr (σ.2.1 125) d n (σ.2.1 127) n i = nI (tj (σ.2.1 125) d n (m - 1 - i)) := fun i hi => by
      unfold dlr tj
      rw [if_pos (by omega), ← hm, show m - 1 - (m - 1 - i) = i by omega]
    generalize dlr (σ.2.1 125) d n (σ.2.1 127) n = r at *
    have sw := fun i (hi : i < 2 ^ m) Q => sp_isWay (sc := sc) (σ := vS σ P X m r i) (Q := Q) (w := i) (d := d) rfl ht hm hr (by omega)
    have sr := fun i (hi : i < 2 ^ m) Q => sp_riskOf12 (sc := sc) (σ := vS σ P X m r i) (Q := Q) (w := i) (d := d) rfl ht hm hr (by omega)
    have sw' : ∀ i, i < 2 ^ m → ∀ Q, PC sc 218 [.ref 12, .int (nI i)] (vS σ P X m r i) Q ↔ Q (some (.int (zb (wok P m i)))) (vS σ P X m r i) := fun i hi Q => by
      have := sw i hi Q
      rw [hP]
      rw [hP] at this
      exact this
    have sr' : ∀ i, i < 2 ^ m → ∀ Q, PC sc 219 [.ref 12, .int (nI i)] (vS σ P X m r i) Q ↔ Q (some (.int (rkM X m i))) (vS σ P X m r i) := fun i hi Q => by
      have := sr i hi Q
      rw [hX]
      rw [hX] at this
      exact this
    refine Iff.trans ?_ (lpc (2 ^ m) (fun i (a : Option Value) => PW sc 220 (zblk 220 4) 5 [some (.ref 12), some (.int (d)), some (.int (nI i)), a] [] (vS σ P X m r i) Q) _ (fun a => ?_) (fun i hi ih a => ?_) none)
    · exact Iff.rfl
    · rw [zb_220_4]
      unfold vS
      simp (disch := first | exact zl_i | exact zl_r | exact zl_n | omega | exact zlen0 | exact zlen1 | exact zlen2 | exact zlen3 | exact zlen4 | exact zl_l | (unfold scF; omega) | (unfold scR; omega) | (simp only [zS_uf1, zS_uf2, zS_ur1, zS_ur2, Nat.reduceEqDiff, reduceIte, and_false, false_and, and_true, true_and, ite_true, ite_false]; done) | exact zl_n) only [Int.reduceToNat, Nat.reduceAdd, Nat.reduceMul, List.length_nil, List.length_cons, Nat.reduceLeDiff, Nat.zero_le, Option.toList_some, Option.toList_none, List.cons_append, List.nil_append, PW_nil, PW_goto, zl_i, zl_r, zl_n, PW_aload_0, PW_k0, PW_p819, PW_istore_2, PW_iload_2, PW_g813, PW_ic_ge, PW_g815, PW_ia125, PW_ia127, PW_iload_1, PW_ic_ne, PW_g818, PW_g819, PW_is125, PW_is127, PW_dup_i, PW_dup_r, PW_k1, PW_iadd, PW_iinc_2_p1, PW_km9, PW_p820, PW_p821, PW_ishl, PX_c218, PW_if_eq, PX_c219, PW_istore_3, PW_g820, PW_ic_eq, PW_iload_3, PW_g821, PW_ret_v zret_220, zb_220_2, zb_220_3, zb_220_5, zb_220_6, zb_220_7, PK_app, n_l0, n_l1, n_l2, n_l3, n_l4, n_l5, n_l8, n_l9, n_l10, n_l15, n_l20, n_l31, n_l40, n_l48, n_l57, n_l59, n_l60, n_l70, n_l99, n_l100, n_l255, n_l601, n_l602, n_l1024, n_l1500, n_l2100, n_l2101, n_l65535, n_l100000, n_l1000000, n_l100000000, i_lt, nI_clamp, nI_leI, nI_eq, nI_1, nI_add, pk_mul, pk_sub, n_in, n_negle, n_legne, n_eqneg, n_negeq, n_nn, n_bit, n_shl1, n_or, zb_e0, zb_e1, zb_r, n_em, zb_T, zb_F, zS_uf1, zS_uf2, zS_ur1, zS_ur2, zS_ur3, zS_ul1, zS_ul2, zS_ul3, z_if0, z_if1, Int.reduceEq, Nat.reduceOr, Nat.or_zero, Nat.zero_or, Bool.false_eq_true, reduceCtorEq, nar0, nar1, nar_zb, eq_self, true_and, and_true, false_and, and_false, or_true, true_or, or_false, false_or, not_true_eq_false, not_false_eq_true, Classical.not_not, true_implies, false_implies, implies_true, iff_true, iff_self, ite_true, ite_false, Nat.reduceEqDiff, Nat.reduceLT, Nat.reduceSub, Nat.add_sub_cancel, Nat.reduceLeDiff, reduceIte, ne_eq, Nat.not_le, hs, Nat.le_refl]
    · rw [zb_220_4]
      have swi := sw' i hi
      have sri := sr' i hi
      unfold vS at swi sri ih ⊢
      by_cases c : wok P m i
      · cases e : nx (wok P m) (rkM X m) i with
        | none =>
          rw [nx_t c (fun k hk => by rw [e] at hk; cases hk)] at ih
          rw [e] at swi sri
          simp only [om_n, om_s] at swi sri ih ⊢
          simp (disch := first | exact zl_i | exact zl_r | exact zl_n | omega | exact zlen0 | exact zlen1 | exact zlen2 | exact zlen3 | exact zlen4 | exact zl_l | (unfold scF; omega) | (unfold scR; omega) | (simp only [zS_uf1, zS_uf2, zS_ur1, zS_ur2, Nat.reduceEqDiff, reduceIte, and_false, false_and, and_true, true_and, ite_true, ite_false]; done) | exact zl_n) only [Int.reduceToNat, Nat.reduceAdd, Nat.reduceMul, List.length_nil, List.length_cons, Nat.reduceLeDiff, Nat.zero_le, Option.toList_some, Option.toList_none, List.cons_append, List.nil_append, PW_nil, PW_goto, zl_i, zl_r, zl_n, PW_aload_0, PW_k0, PW_p819, PW_istore_2, PW_iload_2, PW_g813, PW_ic_ge, PW_g815, PW_ia125, PW_ia127, PW_iload_1, PW_ic_ne, PW_g818, PW_g819, PW_is125, PW_is127, PW_dup_i, PW_dup_r, PW_k1, PW_iadd, PW_iinc_2_p1, PW_km9, PW_p820, PW_p821, PW_ishl, PX_c218, PW_if_eq, PX_c219, PW_istore_3, PW_g820, PW_ic_eq, PW_iload_3, PW_g821, PW_ret_v zret_220, zb_220_2, zb_220_3, zb_220_5, zb_220_6, zb_220_7, PK_app, n_l0, n_l1, n_l2, n_l3, n_l4, n_l5, n_l8, n_l9, n_l10, n_l15, n_l20, n_l31, n_l40, n_l48, n_l57, n_l59, n_l60, n_l70, n_l99, n_l100, n_l255, n_l601, n_l602, n_l1024, n_l1500, n_l2100, n_l2101, n_l65535, n_l100000, n_l1000000, n_l100000000, i_lt, nI_clamp, nI_leI, nI_eq, nI_1, nI_add, pk_mul, pk_sub, n_in, n_negle, n_legne, n_eqneg, n_negeq, n_nn, n_bit, n_shl1, n_or, zb_e0, zb_e1, zb_r, n_em, zb_T, zb_F, zS_uf1, zS_uf2, zS_ur1, zS_ur2, zS_ur3, zS_ul1, zS_ul2, zS_ul3, z_if0, z_if1, Int.reduceEq, Nat.reduceOr, Nat.or_zero, Nat.zero_or, Bool.false_eq_true, reduceCtorEq, nar0, nar1, nar_zb, eq_self, true_and, and_true, false_and, and_false, or_true, true_or, or_false, false_or, not_true_eq_false, not_false_eq_true, Classical.not_not, true_implies, false_implies, implies_true, iff_true, iff_self, ite_true, ite_false, Nat.reduceEqDiff, Nat.reduceLT, Nat.reduceSub, Nat.add_sub_cancel, Nat.reduceLeDiff, reduceIte, ne_eq, Nat.not_le, hs, Nat.not_le.mpr hi, swi, sri, c, zur_uf, zuf_same, zuf_sw]
          exact ih _
        | some k =>
          have hk := (nx_lt e).1
          by_cases c2 : rkM X m k ≤ rkM X m i
          · rw [nx_f2 e c2, e] at ih
            rw [e] at swi sri
            simp only [om_s] at swi sri ih ⊢
            simp (disch := first | exact zl_i | exact zl_r | exact zl_n | omega | exact zlen0 | exact zlen1 | exact zlen2 | exact zlen3 | exact zlen4 | exact zl_l | (unfold scF; omega) | (unfold scR; omega) | (simp only [zS_uf1, zS_uf2, zS_ur1, zS_ur2, Nat.reduceEqDiff, reduceIte, and_false, false_and, and_true, true_and, ite_true, ite_false]; done) | exact zl_n) only [Int.reduceToNat, Nat.reduceAdd, Nat.reduceMul, List.length_nil, List.length_cons, Nat.reduceLeDiff, Nat.zero_le, Option.toList_some, Option.toList_none, List.cons_append, List.nil_append, PW_nil, PW_goto, zl_i, zl_r, zl_n, PW_aload_0, PW_k0, PW_p819, PW_istore_2, PW_iload_2, PW_g813, PW_ic_ge, PW_g815, PW_ia125, PW_ia127, PW_iload_1, PW_ic_ne, PW_g818, PW_g819, PW_is125, PW_is127, PW_dup_i, PW_dup_r, PW_k1, PW_iadd, PW_iinc_2_p1, PW_km9, PW_p820, PW_p821, PW_ishl, PX_c218, PW_if_eq, PX_c219, PW_istore_3, PW_g820, PW_ic_eq, PW_iload_3, PW_g821, PW_ret_v zret_220, zb_220_2, zb_220_3, zb_220_5, zb_220_6, zb_220_7, PK_app, n_l0, n_l1, n_l2, n_l3, n_l4, n_l5, n_l8, n_l9, n_l10, n_l15, n_l20, n_l31, n_l40, n_l48, n_l57, n_l59, n_l60, n_l70, n_l99, n_l100, n_l255, n_l601, n_l602, n_l1024, n_l1500, n_l2100, n_l2101, n_l65535, n_l100000, n_l1000000, n_l100000000, i_lt, nI_clamp, nI_leI, nI_eq, nI_1, nI_add, pk_mul, pk_sub, n_in, n_negle, n_legne, n_eqneg, n_negeq, n_nn, n_bit, n_shl1, n_or, zb_e0, zb_e1, zb_r, n_em, zb_T, zb_F, zS_uf1, zS_uf2, zS_ur1, zS_ur2, zS_ur3, zS_ul1, zS_ul2, zS_ul3, z_if0, z_if1, Int.reduceEq, Nat.reduceOr, Nat.or_zero, Nat.zero_or, Bool.false_eq_true, reduceCtorEq, nar0, nar1, nar_zb, eq_self, true_and, and_true, false_and, and_false, or_true, true_or, or_false, false_or, not_true_eq_false, not_false_eq_true, Classical.not_not, true_implies, false_implies, implies_true, iff_true, iff_self, ite_true, ite_false, Nat.reduceEqDiff, Nat.reduceLT, Nat.reduceSub, Nat.add_sub_cancel, Nat.reduceLeDiff, reduceIte, ne_eq, Nat.not_le, hs, Nat.not_le.mpr hi, swi, sri, c, c2]
            exact ih _
          · rw [nx_t c (fun k hk => by rw [e] at hk; cases hk; exact c2)] at ih
            rw [e] at swi sri
            simp only [om_s] at swi sri ih ⊢
            simp (disch := first | exact zl_i | exact zl_r | exact zl_n | omega | exact zlen0 | exact zlen1 | exact zlen2 | exact zlen3 | exact zlen4 | exact zl_l | (unfold scF; omega) | (unfold scR; omega) | (simp only [zS_uf1, zS_uf2, zS_ur1, zS_ur2, Nat.reduceEqDiff, reduceIte, and_false, false_and, and_true, true_and, ite_true, ite_false]; done) | exact zl_n) only [Int.reduceToNat, Nat.reduceAdd, Nat.reduceMul, List.length_nil, List.length_cons, Nat.reduceLeDiff, Nat.zero_le, Option.toList_some, Option.toList_none, List.cons_append, List.nil_append, PW_nil, PW_goto, zl_i, zl_r, zl_n, PW_aload_0, PW_k0, PW_p819, PW_istore_2, PW_iload_2, PW_g813, PW_ic_ge, PW_g815, PW_ia125, PW_ia127, PW_iload_1, PW_ic_ne, PW_g818, PW_g819, PW_is125, PW_is127, PW_dup_i, PW_dup_r, PW_k1, PW_iadd, PW_iinc_2_p1, PW_km9, PW_p820, PW_p821, PW_ishl, PX_c218, PW_if_eq, PX_c219, PW_istore_3, PW_g820, PW_ic_eq, PW_iload_3, PW_g821, PW_ret_v zret_220, zb_220_2, zb_220_3, zb_220_5, zb_220_6, zb_220_7, PK_app, n_l0, n_l1, n_l2, n_l3, n_l4, n_l5, n_l8, n_l9, n_l10, n_l15, n_l20, n_l31, n_l40, n_l48, n_l57, n_l59, n_l60, n_l70, n_l99, n_l100, n_l255, n_l601, n_l602, n_l1024, n_l1500, n_l2100, n_l2101, n_l65535, n_l100000, n_l1000000, n_l100000000, i_lt, nI_clamp, nI_leI, nI_eq, nI_1, nI_add, pk_mul, pk_sub, n_in, n_negle, n_legne, n_eqneg, n_negeq, n_nn, n_bit, n_shl1, n_or, zb_e0, zb_e1, zb_r, n_em, zb_T, zb_F, zS_uf1, zS_uf2, zS_ur1, zS_ur2, zS_ur3, zS_ul1, zS_ul2, zS_ul3, z_if0, z_if1, Int.reduceEq, Nat.reduceOr, Nat.or_zero, Nat.zero_or, Bool.false_eq_true, reduceCtorEq, nar0, nar1, nar_zb, eq_self, true_and, and_true, false_and, and_false, or_true, true_or, or_false, false_or, not_true_eq_false, not_false_eq_true, Classical.not_not, true_implies, false_implies, implies_true, iff_true, iff_self, ite_true, ite_false, Nat.reduceEqDiff, Nat.reduceLT, Nat.reduceSub, Nat.add_sub_cancel, Nat.reduceLeDiff, reduceIte, ne_eq, Nat.not_le, hs, Nat.not_le.mpr hi, swi, sri, c, c2, zur_uf, zuf_same, zuf_sw]
            exact ih _
      · rw [nx_f c] at ih
        simp (disch := first | exact zl_i | exact zl_r | exact zl_n | omega | exact zlen0 | exact zlen1 | exact zlen2 | exact zlen3 | exact zlen4 | exact zl_l | (unfold scF; omega) | (unfold scR; omega) | (simp only [zS_uf1, zS_uf2, zS_ur1, zS_ur2, Nat.reduceEqDiff, reduceIte, and_false, false_and, and_true, true_and, ite_true, ite_false]; done) | exact zl_n) only [Int.reduceToNat, Nat.reduceAdd, Nat.reduceMul, List.length_nil, List.length_cons, Nat.reduceLeDiff, Nat.zero_le, Option.toList_some, Option.toList_none, List.cons_append, List.nil_append, PW_nil, PW_goto, zl_i, zl_r, zl_n, PW_aload_0, PW_k0, PW_p819, PW_istore_2, PW_iload_2, PW_g813, PW_ic_ge, PW_g815, PW_ia125, PW_ia127, PW_iload_1, PW_ic_ne, PW_g818, PW_g819, PW_is125, PW_is127, PW_dup_i, PW_dup_r, PW_k1, PW_iadd, PW_iinc_2_p1, PW_km9, PW_p820, PW_p821, PW_ishl, PX_c218, PW_if_eq, PX_c219, PW_istore_3, PW_g820, PW_ic_eq, PW_iload_3, PW_g821, PW_ret_v zret_220, zb_220_2, zb_220_3, zb_220_5, zb_220_6, zb_220_7, PK_app, n_l0, n_l1, n_l2, n_l3, n_l4, n_l5, n_l8, n_l9, n_l10, n_l15, n_l20, n_l31, n_l40, n_l48, n_l57, n_l59, n_l60, n_l70, n_l99, n_l100, n_l255, n_l601, n_l602, n_l1024, n_l1500, n_l2100, n_l2101, n_l65535, n_l100000, n_l1000000, n_l100000000, i_lt, nI_clamp, nI_leI, nI_eq, nI_1, nI_add, pk_mul, pk_sub, n_in, n_negle, n_legne, n_eqneg, n_negeq, n_nn, n_bit, n_shl1, n_or, zb_e0, zb_e1, zb_r, n_em, zb_T, zb_F, zS_uf1, zS_uf2, zS_ur1, zS_ur2, zS_ur3, zS_ul1, zS_ul2, zS_ul3, z_if0, z_if1, Int.reduceEq, Nat.reduceOr, Nat.or_zero, Nat.zero_or, Bool.false_eq_true, reduceCtorEq, nar0, nar1, nar_zb, eq_self, true_and, and_true, false_and, and_false, or_true, true_or, or_false, false_or, not_true_eq_false, not_false_eq_true, Classical.not_not, true_implies, false_implies, implies_true, iff_true, iff_self, ite_true, ite_false, Nat.reduceEqDiff, Nat.reduceLT, Nat.reduceSub, Nat.add_sub_cancel, Nat.reduceLeDiff, reduceIte, ne_eq, Nat.not_le, hs, Nat.not_le.mpr hi, swi, c]
        exact ih _
end SPR
/-- both find the same -/
theorem risk_same {σ : zS} {P X : Nat → Nat} {m : Nat} (hm : m ≤ 10) (hP : ∀ j, P j ≤ 2) (hX : ∀ j, j < m → X j ≤ 1000000) : ∃ k, k < 2 ^ frn P m ∧ nx (fun _ => True) (rkF (wS σ P X m)) (2 ^ frn P m) = some k ∧ nx (wok P m) (rkM X m) (2 ^ m) = some (ins P m k) ∧ rkF (wS σ P X m) k = rkM X m (ins P m k) := by
  have hF : ∀ a, a < 2 ^ frn P m → rkM X m (ins P m a) = rkF (wS σ P X m) a := fun a ha => by
    have hb := ins_bit m a ha
    have r1 := risk_1 (X := X) hb
    have r0 := risk_0 (X := X) (fun j _ => hP j) hb
    have b1 := sX_le (c := fun j => (ins P m a).testBit j = true) hX
    have b2 : m * 1000000 ≤ 10 * 1000000 := Nat.mul_le_mul_right _ hm
    have b0 := sX_le (c := fun j => ¬ (ins P m a).testBit j = true) hX
    have e1 : (wS σ P X m).2.1 77 0 = nI (sX (fun j => P j = 0) X m) := rfl
    have e2 : (wS σ P X m).2.1 77 1 = nI (sX (fun j => P j = 1) X m) := rfl
    have e3 : (wS σ P X m).1 9 6 = nI (sX (fun j => P j = 2) X m) := rfl
    have e4 : (wS σ P X m).2.1 76 a = nI (ldn P X a m) := if_pos ha
    unfold rkF rkM
    rw [e1, e2, e3, e4, nI_add, nI_add, ← r0, nI_sb (by omega), Nat.add_sub_cancel, r1]
    rw [r1] at b1
    generalize sX (fun j => ¬ (ins P m a).testBit j = true) X m = A at *
    generalize sX (fun j => P j = 1) X m + ldn P X a m = B at *
    rw [iI_n, iI_n, iI_n, z_mx_i (by omega) (by omega)]
    congr 1
    omega
  obtain ⟨k, k1, k2, k3⟩ := nx_map (c := wok P m) (F := rkM X m) (F' := rkF (wS σ P X m)) (ins := ins P m) (nf := 2 ^ frn P m) (nm := 2 ^ m) (Nat.pow_pos (by omega)) (fun w hw => ⟨fun h => ins_sur m w hw h, fun ⟨a, ha, e⟩ => by
    subst e
    have hb := ins_bit m a ha
    intro j hj
    refine ⟨fun z y => ?_, fun z => (hb j hj).mpr (Or.inl z), hP j⟩
    rcases (hb j hj).mp y with q | q
    · omega
    · omega⟩) (fun a ha => ins_lt m a ha) (fun a b h hb => ins_mono m a b h hb) hF
  exact ⟨k, k1, k2, k3, (hF k k1).symm⟩
