/-! the gaps: the class -/
def gH (V F T : Nat → Int32) (v : Int32) (n Y : Nat) : Prop := Y ≤ 2100 ∧ ∃ h, h < n ∧ hd V F T v (nI Y) h
noncomputable def gA (V F T : Nat → Int32) (v : Int32) (n Y : Nat) : Nat := cnt (hd V F T v (nI Y)) n
noncomputable def mkr (V F T : Nat → Int32) (v : Int32) : Nat → Nat → Int
  | 0, _ => 0
  | h + 1, j => mkr V F T v h j + cif (V h = v) (cif (F h = nI (1500 + j)) 1 0 - cif (T h + nI 1 = nI (1500 + j)) 1 0) 0
noncomputable def mkR (V F T : Nat → Int32) (v : Int32) (g : Nat → Int32) (n : Nat) : Nat → Int32 := fun j => if j < 602 then iI (mkr V F T v n j) else g j
def hr (F T : Nat → Int32) (n : Nat) : Prop := ∀ h, h < n → ∃ f t : Nat, 1500 ≤ f ∧ f ≤ t ∧ t ≤ 2100 ∧ F h = nI f ∧ T h = nI t
theorem hr_s {F T : Nat → Int32} {n : Nat} (h : hr F T (n + 1)) : hr F T n := fun k hk => h k (by omega)
theorem nI_sb {a b : Nat} (h : b ≤ a) : nI a - nI b = nI (a - b) := by
  rw [iI_n, iI_n, iI_sub, iI_n]
  exact congrArg iI (by omega)
section GC1
variable {V F T : Nat → Int32} {v : Int32}
theorem gA_step : ∀ {n : Nat}, hr F T n → ∀ j : Nat, j < 602 → (gA V F T v n (1500 + j) : Int) = gA V F T v n (1499 + j) + mkr V F T v n j
  | 0, _, j, _ => rfl
  | n + 1, h, j, hj => by
    have ih := gA_step (n := n) (hr_s h) j hj
    obtain ⟨f, t, a1, a2, a3, a4, a5⟩ := h n (by omega)
    unfold gA at ih ⊢
    have e1 : T n + nI 1 = nI (t + 1) := by rw [a5, nI_add]
    have e : mkr V F T v (n + 1) j = mkr V F T v n j + cif (V n = v) (cif (F n = nI (1500 + j)) 1 0 - cif (T n + nI 1 = nI (1500 + j)) 1 0) 0 := rfl
    rw [e, e1, a4]
    have q1 : hd V F T v (nI (1500 + j)) n ↔ V n = v ∧ f ≤ 1500 + j ∧ 1500 + j ≤ t := by
      unfold hd
      rw [a4, a5, nI_leI (by omega) (by omega), nI_leI (by omega) (by omega)]
    have q2 : hd V F T v (nI (1499 + j)) n ↔ V n = v ∧ f ≤ 1499 + j ∧ 1499 + j ≤ t := by
      unfold hd
      rw [a4, a5, nI_leI (by omega) (by omega), nI_leI (by omega) (by omega)]
    have q3 : nI f = nI (1500 + j) ↔ f = 1500 + j := nI_eq (by omega) (by omega)
    have q4 : nI (t + 1) = nI (1500 + j) ↔ t + 1 = 1500 + j := nI_eq (by omega) (by omega)
    by_cases c : V n = v
    · rw [cif_t c]
      have d1 : (cif (nI f = nI (1500 + j)) 1 0 : Int) = if f = 1500 + j then 1 else 0 := by
        by_cases z : f = 1500 + j
        · rw [cif_t (q3.mpr z), if_pos z]
        · rw [cif_f (fun w => z (q3.mp w)), if_neg z]
      have d2 : (cif (nI (t + 1) = nI (1500 + j)) 1 0 : Int) = if t + 1 = 1500 + j then 1 else 0 := by
        by_cases z : t + 1 = 1500 + j
        · rw [cif_t (q4.mpr z), if_pos z]
        · rw [cif_f (fun w => z (q4.mp w)), if_neg z]
      rw [d1, d2]
      by_cases z1 : f ≤ 1500 + j ∧ 1500 + j ≤ t <;> by_cases z2 : f ≤ 1499 + j ∧ 1499 + j ≤ t
      · rw [cnt_t (q1.mpr ⟨c, z1⟩), cnt_t (q2.mpr ⟨c, z2⟩)]
        split <;> split <;> omega
      · rw [cnt_t (q1.mpr ⟨c, z1⟩), cnt_f (fun w => z2 (q2.mp w).2)]
        split <;> split <;> omega
      · rw [cnt_f (fun w => z1 (q1.mp w).2), cnt_t (q2.mpr ⟨c, z2⟩)]
        split <;> split <;> omega
      · rw [cnt_f (fun w => z1 (q1.mp w).2), cnt_f (fun w => z2 (q2.mp w).2)]
        split <;> split <;> omega
    · rw [cif_f c, cnt_f (fun w => c (q1.mp w).1), cnt_f (fun w => c (q2.mp w).1)]
      omega
theorem gA_0 {n : Nat} (h : hr F T n) : gA V F T v n 1499 = 0 := by
  unfold gA
  refine Nat.le_zero.mp (cnt_pos.mpr ?_)
  rintro ⟨k, hk, _, q, _⟩
  obtain ⟨f, t, a1, a2, a3, a4, a5⟩ := h k hk
  rw [a4, nI_leI (by omega) (by omega)] at q
  omega
theorem gA_pos {n Y : Nat} (hY : Y ≤ 2100) : 0 < gA V F T v n Y ↔ gH V F T v n Y := by
  rw [← Nat.not_le]
  unfold gA gH
  rw [cnt_pos, Classical.not_not]
  exact ⟨fun z => ⟨hY, z⟩, fun z => z.2⟩
theorem gH_rng {n Y : Nat} (h : hr F T n) (q : gH V F T v n Y) : 1500 ≤ Y ∧ Y ≤ 2100 := by
  obtain ⟨hY, k, hk, _, q1, q2⟩ := q
  obtain ⟨f, t, a1, a2, a3, a4, a5⟩ := h k hk
  rw [a4, nI_leI (by omega) (by omega)] at q1
  rw [a5, nI_leI (by omega) (by omega)] at q2
  omega
theorem mkR_s {g : Nat → Int32} {n f t : Nat} (hv : V n = v) (a1 : 1500 ≤ f) (a2 : f ≤ t) (a3 : t ≤ 2100) (a4 : F n = nI f) (a5 : T n = nI t) :
    upd (upd (mkR V F T v g n) (f - 1500) (mkR V F T v g n (f - 1500) + nI 1)) (t - 1500 + 1) (upd (mkR V F T v g n) (f - 1500) (mkR V F T v g n (f - 1500) + nI 1) (t - 1500 + 1) - nI 1) = mkR V F T v g (n + 1) := by
  have e0 : upd (mkR V F T v g n) (f - 1500) (mkR V F T v g n (f - 1500) + nI 1) (t - 1500 + 1) = mkR V F T v g n (t - 1500 + 1) := if_neg (by omega)
  rw [e0]
  funext j
  have e1 : T n + nI 1 = nI (t + 1) := by rw [a5, nI_add]
  have e : mkr V F T v (n + 1) j = mkr V F T v n j + cif (V n = v) (cif (F n = nI (1500 + j)) 1 0 - cif (T n + nI 1 = nI (1500 + j)) 1 0) 0 := rfl
  unfold upd
  by_cases b1 : j = t - 1500 + 1
  · subst b1
    rw [if_pos rfl]
    unfold mkR
    rw [if_pos (by omega), if_pos (by omega), e, cif_t hv, e1, a4, cif_f (fun w => by have := (nI_eq (by omega) (by omega)).mp w; omega), cif_t (congrArg nI (by omega)), iI_n, iI_sub]
    exact congrArg iI (by omega)
  · rw [if_neg b1]
    by_cases b2 : j = f - 1500
    · have c1 : nI f = nI (1500 + j) := congrArg nI (by omega)
      have c2 : ¬ nI (t + 1) = nI (1500 + j) := fun w => by have := (nI_eq (by omega) (by omega)).mp w; omega
      rw [if_pos b2, ← b2]
      unfold mkR
      rw [if_pos (by omega), if_pos (by omega), e, cif_t hv, e1, a4, cif_t c1, cif_f c2, iI_n, iI_add]
      exact congrArg iI (by omega)
    · rw [if_neg b2]
      unfold mkR
      by_cases b3 : j < 602
      · rw [if_pos b3, if_pos b3, e, cif_t hv, e1, a4, cif_f (fun w => by have := (nI_eq (by omega) (by omega)).mp w; omega), cif_f (fun w => by have := (nI_eq (by omega) (by omega)).mp w; omega)]
        exact congrArg iI (by omega)
      · rw [if_neg b3, if_neg b3]
theorem mkR_k {g : Nat → Int32} {n : Nat} (hv : ¬ V n = v) : mkR V F T v g (n + 1) = mkR V F T v g n := by
  funext j
  have e : mkr V F T v (n + 1) j = mkr V F T v n j + cif (V n = v) (cif (F n = nI (1500 + j)) 1 0 - cif (T n + nI 1 = nI (1500 + j)) 1 0) 0 := rfl
  unfold mkR
  rw [e, cif_f hv, Int.add_zero]
theorem mkR_0 {g : Nat → Int32} : ff g 602 (nI 0) = mkR V F T v g 0 := rfl
end GC1
section GC2
variable {sc : zX} {σ : zS} {Q : Option Value → zS → Prop}
theorem sp_markYears {v : Int32} {n : Nat} (hc : σ.1 1 4 = nI n) (hn : n ≤ 40) (h : hr (σ.2.1 17) (σ.2.1 18) n) : PC sc 10 [.ref 1, .int v] σ Q ↔ Q none (zur σ 19 (mkR (σ.2.1 15) (σ.2.1 17) (σ.2.1 18) v (σ.2.1 19) n)) := by
  rw [PC_10, zb_10_0]
  simp (disch := first | exact zl_i | exact zl_r | exact zl_n | omega | exact zlen0 | exact zlen1 | exact zlen2 | exact zlen3 | exact zlen4 | exact zl_l | (unfold scF; omega) | (unfold scR; omega) | (simp only [zS_uf1, zS_uf2, zS_ur1, zS_ur2, Nat.reduceEqDiff, reduceIte, and_false, false_and, and_true, true_and, ite_true, ite_false]; done) | exact zl_n) only [Int.reduceToNat, Nat.reduceAdd, Nat.reduceMul, List.length_nil, List.length_cons, Nat.reduceLeDiff, Nat.zero_le, Option.toList_some, Option.toList_none, List.cons_append, List.nil_append, PW_nil, PW_goto, zl_i, zl_r, zl_n, PW_aload_0, PW_g69, PW_k0, PX_c253, PW_istore_2, PW_iload_2, PW_g68, PW_ic_ge, PW_g64, PW_ia15, PW_ia17, PW_ia18, PW_ia19, PW_iload_1, PW_ic_ne, PW_g66, PW_k1500, PW_isub, PW_dup2, PW_k1, PW_iadd, PW_is15, PW_is17, PW_is18, PW_is19, PW_g67, PW_iinc_2_p1, PW_ret_v zret_10, zb_10_2, zb_10_3, PK_app, n_l0, n_l1, n_l2, n_l3, n_l4, n_l5, n_l8, n_l9, n_l10, n_l15, n_l20, n_l31, n_l40, n_l48, n_l57, n_l59, n_l60, n_l70, n_l99, n_l100, n_l255, n_l601, n_l602, n_l1024, n_l1500, n_l2100, n_l2101, n_l65535, n_l100000, n_l1000000, n_l100000000, i_lt, nI_clamp, nI_leI, nI_eq, nI_1, nI_add, pk_mul, pk_sub, n_in, n_negle, n_legne, n_eqneg, n_negeq, n_nn, n_bit, n_shl1, n_or, zb_e0, zb_e1, zb_r, n_em, zb_T, zb_F, zS_uf1, zS_uf2, zS_ur1, zS_ur2, zS_ur3, zS_ul1, zS_ul2, zS_ul3, z_if0, z_if1, Int.reduceEq, Nat.reduceOr, Nat.or_zero, Nat.zero_or, Bool.false_eq_true, reduceCtorEq, nar0, nar1, nar_zb, eq_self, true_and, and_true, false_and, and_false, or_true, true_or, or_false, false_or, not_true_eq_false, not_false_eq_true, Classical.not_not, true_implies, false_implies, implies_true, iff_true, iff_self, ite_true, ite_false, Nat.reduceEqDiff, Nat.reduceLT, Nat.reduceSub, Nat.add_sub_cancel, Nat.reduceLeDiff, reduceIte, ne_eq, Nat.not_le, sp_fill za_19]
  refine Iff.trans ?_ ((lp_all n (fun i => PW sc 10 (zblk 10 1) 2 [some (.ref 1), some (.int (v)), some (.int (nI i))] [] (zur σ 19 (mkR (σ.2.1 15) (σ.2.1 17) (σ.2.1 18) v (σ.2.1 19) i)) Q) (fun i hi => ?_)).trans ?_)
  · exact Iff.rfl
  · conv => lhs; rw [zb_10_1]
    obtain ⟨f, t, a1, a2, a3, a4, a5⟩ := h i hi
    have e1 : nI f - nI 1500 = nI (f - 1500) := nI_sb (by omega)
    have e2 : nI t - nI 1500 = nI (t - 1500) := nI_sb (by omega)
    by_cases c : σ.2.1 15 i = v
    · rw [← mkR_s c a1 a2 a3 a4 a5]
      simp (disch := first | exact zl_i | exact zl_r | exact zl_n | omega | exact zlen0 | exact zlen1 | exact zlen2 | exact zlen3 | exact zlen4 | exact zl_l | (unfold scF; omega) | (unfold scR; omega) | (simp only [zS_uf1, zS_uf2, zS_ur1, zS_ur2, Nat.reduceEqDiff, reduceIte, and_false, false_and, and_true, true_and, ite_true, ite_false]; done) | exact zl_n) only [Int.reduceToNat, Nat.reduceAdd, Nat.reduceMul, List.length_nil, List.length_cons, Nat.reduceLeDiff, Nat.zero_le, Option.toList_some, Option.toList_none, List.cons_append, List.nil_append, PW_nil, PW_goto, zl_i, zl_r, zl_n, PW_aload_0, PW_g69, PW_k0, PX_c253, PW_istore_2, PW_iload_2, PW_g68, PW_ic_ge, PW_g64, PW_ia15, PW_ia17, PW_ia18, PW_ia19, PW_iload_1, PW_ic_ne, PW_g66, PW_k1500, PW_isub, PW_dup2, PW_k1, PW_iadd, PW_is15, PW_is17, PW_is18, PW_is19, PW_g67, PW_iinc_2_p1, PW_ret_v zret_10, zb_10_2, zb_10_3, PK_app, n_l0, n_l1, n_l2, n_l3, n_l4, n_l5, n_l8, n_l9, n_l10, n_l15, n_l20, n_l31, n_l40, n_l48, n_l57, n_l59, n_l60, n_l70, n_l99, n_l100, n_l255, n_l601, n_l602, n_l1024, n_l1500, n_l2100, n_l2101, n_l65535, n_l100000, n_l1000000, n_l100000000, i_lt, nI_clamp, nI_leI, nI_eq, nI_1, nI_add, pk_mul, pk_sub, n_in, n_negle, n_legne, n_eqneg, n_negeq, n_nn, n_bit, n_shl1, n_or, zb_e0, zb_e1, zb_r, n_em, zb_T, zb_F, zS_uf1, zS_uf2, zS_ur1, zS_ur2, zS_ur3, zS_ul1, zS_ul2, zS_ul3, z_if0, z_if1, Int.reduceEq, Nat.reduceOr, Nat.or_zero, Nat.zero_or, Bool.false_eq_true, reduceCtorEq, nar0, nar1, nar_zb, eq_self, true_and, and_true, false_and, and_false, or_true, true_or, or_false, false_or, not_true_eq_false, not_false_eq_true, Classical.not_not, true_implies, false_implies, implies_true, iff_true, iff_self, ite_true, ite_false, Nat.reduceEqDiff, Nat.reduceLT, Nat.reduceSub, Nat.add_sub_cancel, Nat.reduceLeDiff, reduceIte, ne_eq, Nat.not_le, hc, Nat.not_le.mpr hi, eq_true c, a4, a5, e1, e2, zur_same]
    · rw [mkR_k c]
      simp (disch := first | exact zl_i | exact zl_r | exact zl_n | omega | exact zlen0 | exact zlen1 | exact zlen2 | exact zlen3 | exact zlen4 | exact zl_l | (unfold scF; omega) | (unfold scR; omega) | (simp only [zS_uf1, zS_uf2, zS_ur1, zS_ur2, Nat.reduceEqDiff, reduceIte, and_false, false_and, and_true, true_and, ite_true, ite_false]; done) | exact zl_n) only [Int.reduceToNat, Nat.reduceAdd, Nat.reduceMul, List.length_nil, List.length_cons, Nat.reduceLeDiff, Nat.zero_le, Option.toList_some, Option.toList_none, List.cons_append, List.nil_append, PW_nil, PW_goto, zl_i, zl_r, zl_n, PW_aload_0, PW_g69, PW_k0, PX_c253, PW_istore_2, PW_iload_2, PW_g68, PW_ic_ge, PW_g64, PW_ia15, PW_ia17, PW_ia18, PW_ia19, PW_iload_1, PW_ic_ne, PW_g66, PW_k1500, PW_isub, PW_dup2, PW_k1, PW_iadd, PW_is15, PW_is17, PW_is18, PW_is19, PW_g67, PW_iinc_2_p1, PW_ret_v zret_10, zb_10_2, zb_10_3, PK_app, n_l0, n_l1, n_l2, n_l3, n_l4, n_l5, n_l8, n_l9, n_l10, n_l15, n_l20, n_l31, n_l40, n_l48, n_l57, n_l59, n_l60, n_l70, n_l99, n_l100, n_l255, n_l601, n_l602, n_l1024, n_l1500, n_l2100, n_l2101, n_l65535, n_l100000, n_l1000000, n_l100000000, i_lt, nI_clamp, nI_leI, nI_eq, nI_1, nI_add, pk_mul, pk_sub, n_in, n_negle, n_legne, n_eqneg, n_negeq, n_nn, n_bit, n_shl1, n_or, zb_e0, zb_e1, zb_r, n_em, zb_T, zb_F, zS_uf1, zS_uf2, zS_ur1, zS_ur2, zS_ur3, zS_ul1, zS_ul2, zS_ul3, z_if0, z_if1, Int.reduceEq, Nat.reduceOr, Nat.or_zero, Nat.zero_or, Bool.false_eq_true, reduceCtorEq, nar0, nar1, nar_zb, eq_self, true_and, and_true, false_and, and_false, or_true, true_or, or_false, false_or, not_true_eq_false, not_false_eq_true, Classical.not_not, true_implies, false_implies, implies_true, iff_true, iff_self, ite_true, ite_false, Nat.reduceEqDiff, Nat.reduceLT, Nat.reduceSub, Nat.add_sub_cancel, Nat.reduceLeDiff, reduceIte, ne_eq, Nat.not_le, hc, Nat.not_le.mpr hi, c]
  · rw [zb_10_1]
    simp (disch := first | exact zl_i | exact zl_r | exact zl_n | omega | exact zlen0 | exact zlen1 | exact zlen2 | exact zlen3 | exact zlen4 | exact zl_l | (unfold scF; omega) | (unfold scR; omega) | (simp only [zS_uf1, zS_uf2, zS_ur1, zS_ur2, Nat.reduceEqDiff, reduceIte, and_false, false_and, and_true, true_and, ite_true, ite_false]; done) | exact zl_n) only [Int.reduceToNat, Nat.reduceAdd, Nat.reduceMul, List.length_nil, List.length_cons, Nat.reduceLeDiff, Nat.zero_le, Option.toList_some, Option.toList_none, List.cons_append, List.nil_append, PW_nil, PW_goto, zl_i, zl_r, zl_n, PW_aload_0, PW_g69, PW_k0, PX_c253, PW_istore_2, PW_iload_2, PW_g68, PW_ic_ge, PW_g64, PW_ia15, PW_ia17, PW_ia18, PW_ia19, PW_iload_1, PW_ic_ne, PW_g66, PW_k1500, PW_isub, PW_dup2, PW_k1, PW_iadd, PW_is15, PW_is17, PW_is18, PW_is19, PW_g67, PW_iinc_2_p1, PW_ret_v zret_10, zb_10_2, zb_10_3, PK_app, n_l0, n_l1, n_l2, n_l3, n_l4, n_l5, n_l8, n_l9, n_l10, n_l15, n_l20, n_l31, n_l40, n_l48, n_l57, n_l59, n_l60, n_l70, n_l99, n_l100, n_l255, n_l601, n_l602, n_l1024, n_l1500, n_l2100, n_l2101, n_l65535, n_l100000, n_l1000000, n_l100000000, i_lt, nI_clamp, nI_leI, nI_eq, nI_1, nI_add, pk_mul, pk_sub, n_in, n_negle, n_legne, n_eqneg, n_negeq, n_nn, n_bit, n_shl1, n_or, zb_e0, zb_e1, zb_r, n_em, zb_T, zb_F, zS_uf1, zS_uf2, zS_ur1, zS_ur2, zS_ur3, zS_ul1, zS_ul2, zS_ul3, z_if0, z_if1, Int.reduceEq, Nat.reduceOr, Nat.or_zero, Nat.zero_or, Bool.false_eq_true, reduceCtorEq, nar0, nar1, nar_zb, eq_self, true_and, and_true, false_and, and_false, or_true, true_or, or_false, false_or, not_true_eq_false, not_false_eq_true, Classical.not_not, true_implies, false_implies, implies_true, iff_true, iff_self, ite_true, ite_false, Nat.reduceEqDiff, Nat.reduceLT, Nat.reduceSub, Nat.add_sub_cancel, Nat.reduceLeDiff, reduceIte, ne_eq, Nat.not_le, hc, Nat.le_refl]
end GC2
