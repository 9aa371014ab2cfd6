/-! calls on sheets -/
def pt (f : Nat → Int32) (a : Nat) (g : Nat → Int32) (n : Nat) : Nat → Int32 := fun j => if a ≤ j ∧ j < a + n then g (j - a) else f j
theorem pt_0 {f g : Nat → Int32} {a : Nat} : pt f a g 0 = f := funext fun j => if_neg (by omega)
theorem pt_s {f g : Nat → Int32} {a n : Nat} {x : Int32} (hx : x = g n) : upd (pt f a g n) (a + n) x = pt f a g (n + 1) := funext fun j => by
  subst hx
  unfold upd pt
  by_cases h : j = a + n
  · subst h
    rw [if_pos rfl, if_pos (by omega), show a + n - a = n by omega]
  · rw [if_neg h]
    by_cases h2 : a ≤ j ∧ j < a + n
    · rw [if_pos h2, if_pos (by omega)]
    · rw [if_neg h2, if_neg (by omega)]
theorem pt_in {f g : Nat → Int32} {a n j : Nat} (h : j < n) : pt f a g n (a + j) = g j := by
  unfold pt
  rw [if_pos (by omega), show a + j - a = j by omega]
theorem pt_out {f g : Nat → Int32} {a n j : Nat} (h : j < a ∨ a + n ≤ j) : pt f a g n j = f j := if_neg (by omega)
theorem n_k4 (x : Int32) : (∃ k, k < 4 ∧ x = nI k) ∨ ((nI 0 ≤ x ∧ ¬ nI 4 ≤ x) = False ∧ (nI 0 ≤ x ∧ x ≤ nI 3) = False) := by
  rcases n_kn x (n := 4) (by omega) with h | h
  · exact Or.inl h
  · refine Or.inr ⟨h, eq_false fun z => ?_⟩
    have : nI 0 ≤ x ∧ ¬ nI 4 ≤ x := ⟨z.1, fun w => absurd (Int32.le_trans w z.2) (by decide)⟩
    rw [h] at this
    exact this
theorem n_idx {i : Int32} {len : Nat} (hl : len ≤ 60) : (nI 0 ≤ i ∧ i ≤ nI len - nI 1) ↔ (nI 0 ≤ i ∧ i ≤ nI len ∧ nI 1 ≤ nI len - i) := by
  by_cases h : nI 0 ≤ i
  · obtain ⟨j, j1, rfl⟩ := nI_of (show ¬ i < 0 from fun z => i_lt.mp z h)
    have e : nI len - nI 1 = if len = 0 then -nI 1 else nI (len - 1) := by
      by_cases z : len = 0
      · subst z; rfl
      · rw [if_neg z, pk_sub (by omega)]
    rw [e]
    by_cases z : len = 0
    · subst z
      rw [if_pos rfl, n_negle (by omega) (by omega)]
      simp only [and_false, false_iff]
      rintro ⟨-, a, b⟩
      have := (nI_leI (by omega) (by omega)).mp a
      have e0 : j = 0 := by omega
      subst e0
      exact absurd b (by decide)
    · rw [if_neg z]
      constructor
      · rintro ⟨a, b⟩
        have := (nI_leI (by omega) (by omega)).mp b
        exact ⟨a, nI_le (by omega) (by omega), by rw [pk_sub (by omega)]; exact nI_le (by omega) (by omega)⟩
      · rintro ⟨a, b, c⟩
        have h1 := (nI_leI (by omega) (by omega)).mp b
        rw [pk_sub h1, nI_leI (by omega) (by omega)] at c
        exact ⟨a, nI_le (by omega) (by omega)⟩
  · simp only [h, false_and]
section SA
variable {sc : zX} {σ : zS} {Q : Option Value → zS → Prop}
theorem RR_sheet {k : Nat} {la lb ln : Nat → Int32} {lm : Nat → Int32} {c d : Nat → Int32} (R : RR σ) (hk : k < 4)
    (h1 : ∀ j, j < 4 → j ≠ k → la j = σ.2.1 65 j ∧ lb j = σ.2.1 104 j ∧ ln j = σ.2.1 66 j ∧ lm j = σ.2.1 105 j)
    (h2 : (la k = -1 ∧ lb k = -9) ∨ (zn (lb k) 2 ∧ la k = lb k ∧ zn (lm k) 60 ∧ ln k = lm k ∧ ∀ j, j < 60 → c j = d (60 * k + j)))
    (h3 : ∀ j m, j < 4 → j ≠ k → m < 60 → d (60 * j + m) = σ.2.1 106 (60 * j + m)) :
    RR (zur (zur (zur (zur (zur (zur σ 65 la) 66 ln) (68 + k) c) 104 lb) 105 lm) 106 d) := by
  obtain ⟨nv, np, nl, nk, nh, nt, hV, hP, hD, hL, hK, hH, hT, hS, hO, hC, hF⟩ := R
  refine ⟨nv, np, nl, nk, nh, nt, ?_⟩
  unfold RA
  simp (disch := first | omega | (unfold VF; omega) | (unfold VR; omega) | (unfold PF; omega) | (unfold PR; omega) | (unfold DF; omega) | (unfold DR; omega) | (unfold LF; omega) | (unfold LR; omega) | (unfold KF; omega) | (unfold KR; omega) | (unfold HF; omega) | (unfold HR; omega) | (unfold TF; omega) | (unfold TR; omega) | (unfold SF; omega) | (unfold SR; omega) | (unfold OF; omega) | (unfold OR; omega) | (unfold CF; omega) | (unfold CR; omega) | (unfold FF; omega) | (unfold zNoR; omega) | exact DF_no | exact SF_no) only [RV_uf, RV_ur, RV_ul, RP_uf, RP_ur, RP_ul, RD_uf, RD_ur, RD_ul, RLo_uf, RLo_ur, RLo_ul, RK_uf, RK_ur, RK_ul, RH_uf, RH_ur, RH_ul, RT_uf, RT_ur, RT_ul, RS_uf, RS_ur, RS_ul, RO_uf, RO_ur, RO_ul, RC_uf, RC_ur, RC_ul, RF_uf, RF_ur, RF_ul, true_and, and_true, hV, hP, hD, hL, hK, hH, hT, hO, hC, hF]
  intro j hj
  simp (disch := omega) only [zS_uf1, zS_uf2, zS_ur1, zS_ur2, z_if0, z_if1, and_self, if_true, if_false, Nat.reduceEqDiff, false_and, and_false, true_and, and_true]
  by_cases e : j = k
  · subst e
    rw [if_pos rfl]
    exact h2
  · rw [if_neg (by omega)]
    obtain ⟨a1, a2, a3, a4⟩ := h1 j hj e
    rw [a1, a2, a3, a4]
    rcases hS j hj with z | ⟨z1, z2, z3, z4, z5⟩
    · exact Or.inl z
    · exact Or.inr ⟨z1, z2, z3, z4, fun m hm => by rw [h3 j m hj e hm]; exact z5 m hm⟩
theorem sp_sheet12 {k lane n : Nat} (hk : k < 4) (hl : lane ≤ 2) (hn : n ≤ 60) : PC sc 240 [.ref 12, .int (nI k), .int (nI lane), .int (nI n)] σ Q ↔ Q (some (.int (nI 1))) (zur (zur (zur (zuf σ 12 0 (nI 0)) 104 (upd (σ.2.1 104) k (nI lane))) 105 (upd (σ.2.1 105) k (nI n))) 106 (pt (σ.2.1 106) (60 * k) (fun _ => nI 0) 60)) := by
  rw [PC_240, zb_240_0]
  simp (disch := first | exact zl_i | exact zl_r | exact zl_n | omega | exact zlen0 | exact zlen1 | exact zlen2 | exact zlen3 | exact zlen4 | exact zl_l | (unfold scF; omega) | (unfold scR; omega) | (simp only [zS_uf1, zS_uf2, zS_ur1, zS_ur2, Nat.reduceEqDiff, reduceIte, and_false, false_and, and_true, true_and, ite_true, ite_false]; done) | exact zl_n) only [Int.reduceToNat, Nat.reduceAdd, Nat.reduceMul, List.length_nil, List.length_cons, Nat.reduceLeDiff, Nat.zero_le, Option.toList_some, Option.toList_none, List.cons_append, List.nil_append, PW_nil, PW_goto, zl_i, zl_r, zl_n, PW_aload_0, PW_k0, PW_p768, PW_iload_1, PW_c174, PW_if_ne, PW_km1, PW_ret_i zret_240, PW_iload_2, PW_c175, PW_if_eq, PW_iload_3, PW_k60, PW_ic_le, PW_km2, PW_if_ge, PW_k4, PW_c148, PW_g783, PW_is104, PW_is105, PW_is106, PW_g784, PW_istore_4, PW_iload_4, PW_ic_ge, PW_g785, PW_imul, PW_iadd, PW_iinc_4_p1, PW_k1, zb_240_1, zb_240_2, zb_240_3, zb_240_4, zb_240_6, n_l0, n_l1, n_l2, n_l3, n_l4, n_l5, n_l8, n_l9, n_l10, n_l15, n_l20, n_l31, n_l40, n_l48, n_l57, n_l59, n_l60, n_l70, n_l99, n_l100, n_l255, n_l601, n_l602, n_l1024, n_l1500, n_l2100, n_l2101, n_l65535, n_l100000, n_l1000000, n_l100000000, i_lt, nI_clamp, nI_leI, nI_eq, nI_1, nI_add, pk_mul, pk_sub, n_in, n_negle, n_legne, n_eqneg, n_negeq, n_nn, n_bit, n_shl1, n_or, zb_e0, zb_e1, zb_r, n_em, zb_T, zb_F, zS_uf1, zS_uf2, zS_ur1, zS_ur2, zS_ur3, zS_ul1, zS_ul2, zS_ul3, z_if0, z_if1, Int.reduceEq, Nat.reduceOr, Nat.or_zero, Nat.zero_or, Bool.false_eq_true, reduceCtorEq, nar0, nar1, nar_zb, eq_self, true_and, and_true, false_and, and_false, or_true, true_or, or_false, false_or, not_true_eq_false, not_false_eq_true, Classical.not_not, true_implies, false_implies, implies_true, iff_true, iff_self, ite_true, ite_false, Nat.reduceEqDiff, Nat.reduceLT, Nat.reduceSub, Nat.add_sub_cancel, Nat.reduceLeDiff, reduceIte, ne_eq, Nat.not_le, sp_isSheet, sp_isLane2, show k ≤ 3 by omega, hl, hn, PW_ic_le, Nat.zero_le]
  refine Iff.trans ?_ ((lp_all 60 (fun i => PW sc 240 (zblk 240 5) 6 [some (.ref 12), some (.int (nI k)), some (.int (nI lane)), some (.int (nI n)), some (.int (nI i))] [] (zur (zur (zur (zuf σ 12 0 (nI 0)) 104 (upd (σ.2.1 104) k (nI lane))) 105 (upd (σ.2.1 105) k (nI n))) 106 (pt (σ.2.1 106) (60 * k) (fun _ => nI 0) i)) Q) (fun i hi => ?_)).trans ?_)
  · rw [pt_0]
    have e : ∀ τ : zS, τ.2.1 106 = σ.2.1 106 → zur τ 106 (σ.2.1 106) = τ := fun τ h => by rw [← h, zur_id]
    rw [e (zur (zur (zuf σ 12 0 (nI 0)) 104 (upd (σ.2.1 104) k (nI lane))) 105 (upd (σ.2.1 105) k (nI n))) rfl]
  · conv => lhs; rw [zb_240_5]
    simp (disch := first | exact zl_i | exact zl_r | exact zl_n | omega | exact zlen0 | exact zlen1 | exact zlen2 | exact zlen3 | exact zlen4 | exact zl_l | (unfold scF; omega) | (unfold scR; omega) | (simp only [zS_uf1, zS_uf2, zS_ur1, zS_ur2, Nat.reduceEqDiff, reduceIte, and_false, false_and, and_true, true_and, ite_true, ite_false]; done) | exact zl_n) only [Int.reduceToNat, Nat.reduceAdd, Nat.reduceMul, List.length_nil, List.length_cons, Nat.reduceLeDiff, Nat.zero_le, Option.toList_some, Option.toList_none, List.cons_append, List.nil_append, PW_nil, PW_goto, zl_i, zl_r, zl_n, PW_aload_0, PW_k0, PW_p768, PW_iload_1, PW_c174, PW_if_ne, PW_km1, PW_ret_i zret_240, PW_iload_2, PW_c175, PW_if_eq, PW_iload_3, PW_k60, PW_ic_le, PW_km2, PW_if_ge, PW_k4, PW_c148, PW_g783, PW_is104, PW_is105, PW_is106, PW_g784, PW_istore_4, PW_iload_4, PW_ic_ge, PW_g785, PW_imul, PW_iadd, PW_iinc_4_p1, PW_k1, zb_240_1, zb_240_2, zb_240_3, zb_240_4, zb_240_6, n_l0, n_l1, n_l2, n_l3, n_l4, n_l5, n_l8, n_l9, n_l10, n_l15, n_l20, n_l31, n_l40, n_l48, n_l57, n_l59, n_l60, n_l70, n_l99, n_l100, n_l255, n_l601, n_l602, n_l1024, n_l1500, n_l2100, n_l2101, n_l65535, n_l100000, n_l1000000, n_l100000000, i_lt, nI_clamp, nI_leI, nI_eq, nI_1, nI_add, pk_mul, pk_sub, n_in, n_negle, n_legne, n_eqneg, n_negeq, n_nn, n_bit, n_shl1, n_or, zb_e0, zb_e1, zb_r, n_em, zb_T, zb_F, zS_uf1, zS_uf2, zS_ur1, zS_ur2, zS_ur3, zS_ul1, zS_ul2, zS_ul3, z_if0, z_if1, Int.reduceEq, Nat.reduceOr, Nat.or_zero, Nat.zero_or, Bool.false_eq_true, reduceCtorEq, nar0, nar1, nar_zb, eq_self, true_and, and_true, false_and, and_false, or_true, true_or, or_false, false_or, not_true_eq_false, not_false_eq_true, Classical.not_not, true_implies, false_implies, implies_true, iff_true, iff_self, ite_true, ite_false, Nat.reduceEqDiff, Nat.reduceLT, Nat.reduceSub, Nat.add_sub_cancel, Nat.reduceLeDiff, reduceIte, ne_eq, Nat.not_le, Nat.not_le.mpr hi, zur_same, pt_s]
  · rw [zb_240_5]
    simp (disch := first | exact zl_i | exact zl_r | exact zl_n | omega | exact zlen0 | exact zlen1 | exact zlen2 | exact zlen3 | exact zlen4 | exact zl_l | (unfold scF; omega) | (unfold scR; omega) | (simp only [zS_uf1, zS_uf2, zS_ur1, zS_ur2, Nat.reduceEqDiff, reduceIte, and_false, false_and, and_true, true_and, ite_true, ite_false]; done) | exact zl_n) only [Int.reduceToNat, Nat.reduceAdd, Nat.reduceMul, List.length_nil, List.length_cons, Nat.reduceLeDiff, Nat.zero_le, Option.toList_some, Option.toList_none, List.cons_append, List.nil_append, PW_nil, PW_goto, zl_i, zl_r, zl_n, PW_aload_0, PW_k0, PW_p768, PW_iload_1, PW_c174, PW_if_ne, PW_km1, PW_ret_i zret_240, PW_iload_2, PW_c175, PW_if_eq, PW_iload_3, PW_k60, PW_ic_le, PW_km2, PW_if_ge, PW_k4, PW_c148, PW_g783, PW_is104, PW_is105, PW_is106, PW_g784, PW_istore_4, PW_iload_4, PW_ic_ge, PW_g785, PW_imul, PW_iadd, PW_iinc_4_p1, PW_k1, zb_240_1, zb_240_2, zb_240_3, zb_240_4, zb_240_6, n_l0, n_l1, n_l2, n_l3, n_l4, n_l5, n_l8, n_l9, n_l10, n_l15, n_l20, n_l31, n_l40, n_l48, n_l57, n_l59, n_l60, n_l70, n_l99, n_l100, n_l255, n_l601, n_l602, n_l1024, n_l1500, n_l2100, n_l2101, n_l65535, n_l100000, n_l1000000, n_l100000000, i_lt, nI_clamp, nI_leI, nI_eq, nI_1, nI_add, pk_mul, pk_sub, n_in, n_negle, n_legne, n_eqneg, n_negeq, n_nn, n_bit, n_shl1, n_or, zb_e0, zb_e1, zb_r, n_em, zb_T, zb_F, zS_uf1, zS_uf2, zS_ur1, zS_ur2, zS_ur3, zS_ul1, zS_ul2, zS_ul3, z_if0, z_if1, Int.reduceEq, Nat.reduceOr, Nat.or_zero, Nat.zero_or, Bool.false_eq_true, reduceCtorEq, nar0, nar1, nar_zb, eq_self, true_and, and_true, false_and, and_false, or_true, true_or, or_false, false_or, not_true_eq_false, not_false_eq_true, Classical.not_not, true_implies, false_implies, implies_true, iff_true, iff_self, ite_true, ite_false, Nat.reduceEqDiff, Nat.reduceLT, Nat.reduceSub, Nat.add_sub_cancel, Nat.reduceLeDiff, reduceIte, ne_eq, Nat.not_le, Nat.le_refl]
end SA
