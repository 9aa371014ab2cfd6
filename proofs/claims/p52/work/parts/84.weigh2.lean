/-! weighing a day: the class -/
noncomputable def fxr (P X : Nat → Nat) (g : Nat → Int32) (k : Nat) : Nat → Int32 := fun j => if j = 0 then nI (sX (fun j => P j = 0) X k) else if j = 1 then nI (sX (fun j => P j = 1) X k) else g j
noncomputable def lrow (P X : Nat → Nat) (g : Nat → Int32) (k : Nat) : Nat → Int32 := fun c => if c < 2 ^ frn P k then nI (ldn P X c k) else g c
noncomputable def wS (σ : zS) (P X : Nat → Nat) (k : Nat) : zS := zur (zur (zuf (zuf σ 9 6 (nI (sX (fun j => P j = 2) X k))) 9 7 (nI (frn P k))) 77 (fxr P X (σ.2.1 77) k)) 76 (lrow P X (σ.2.1 76) k)
section LR
variable {P X : Nat → Nat} {g : Nat → Int32} {k : Nat}
theorem lrow_0 (h : g 0 = nI 0) : lrow P X g 0 = g := funext fun c => by
  unfold lrow
  have e : frn P 0 = 0 := rfl
  rw [e]
  by_cases z : c < 2 ^ 0
  · have : c = 0 := by have : (2 : Nat) ^ 0 = 1 := rfl; omega
    subst this
    rw [if_pos z, h]
    exact rfl
  · rw [if_neg z]
theorem lrow_s (h : P k = 2) : lrow P X g (k + 1) = dbl (lrow P X g k) (2 ^ frn P k) (nI (X k)) (2 ^ frn P k) := funext fun c => by
  unfold dbl lrow
  rw [frn_t h, Nat.pow_succ]
  by_cases z : c < 2 ^ frn P k
  · rw [if_pos (by omega), if_neg (by omega), if_pos z, ldn_l z]
  · by_cases z2 : c < 2 ^ frn P k * 2
    · rw [if_pos z2, if_pos (by omega), if_pos (by omega), nI_add]
      have := ldn_h (X := X) h (show c - 2 ^ frn P k < 2 ^ frn P k by omega)
      rw [show c - 2 ^ frn P k + 2 ^ frn P k = c by omega] at this
      rw [this]
    · rw [if_neg z2, if_neg (by omega), if_neg z]
theorem lrow_k (h : ¬ P k = 2) : lrow P X g (k + 1) = lrow P X g k := funext fun c => by
  unfold lrow
  rw [frn_f h, ldn_f h]
theorem fxr_2 (h : P k = 2) : fxr P X g (k + 1) = fxr P X g k := funext fun j => by
  unfold fxr
  rw [sX_f (c := fun j => P j = 0) (by omega), sX_f (c := fun j => P j = 1) (by omega)]
theorem fxr_p {p : Nat} (hp : p ≤ 1) (h : P k = p) : fxr P X g (k + 1) = upd (fxr P X g k) p (fxr P X g k p + nI (X k)) := funext fun j => by
  unfold upd fxr
  rcases (show p = 0 ∨ p = 1 by omega) with rfl | rfl
  · rw [sX_t (c := fun j => P j = 0) h, sX_f (c := fun j => P j = 1) (by omega)]
    by_cases z : j = 0
    · rw [if_pos z, if_pos z, if_pos rfl, nI_add]
    · rw [if_neg z, if_neg z, if_neg z]
  · rw [sX_f (c := fun j => P j = 0) (by omega), sX_t (c := fun j => P j = 1) h]
    by_cases z : j = 1
    · rw [if_neg (by omega), if_pos z, if_pos z, if_neg (by omega), if_pos rfl, nI_add]
    · by_cases z0 : j = 0
      · rw [if_pos z0, if_neg z, if_pos z0]
      · rw [if_neg z0, if_neg z, if_neg z, if_neg z0, if_neg z]
end LR
section WG2
variable {sc : zX} {σ : zS} {Q : Option Value → zS → Prop}
theorem sp_weigh {d : Int32} {n c : Nat} (h0 : σ.2.1 76 0 = nI 0) (hn : σ.1 9 3 = nI n) (ht : trp (σ.2.1 73) (σ.2.1 74) (σ.2.1 75) (σ.2.1 80) n)
    {P X : Nat → Nat} {m : Nat} (hP : P = dP (σ.2.1 74) (σ.2.1 75) d n) (hX : X = dX (σ.2.1 73) (σ.2.1 74) (σ.2.1 80) d n) (hm : m = dM (σ.2.1 74) d n)
    (hc : nx (fun _ => True) (rkF (wS σ P X m)) (2 ^ frn P m) = some c) :
    PC sc 28 [.ref 9, .int d, .ref 10] σ Q ↔ Q none (zuf (zuf (wS σ P X m) 9 10 (nI c)) 9 9 (rkF (wS σ P X m) c)) := by
  have hm10 : m ≤ 10 := by rw [hm]; exact dM_le ht
  have hfm : ∀ k, k ≤ m → frn P k ≤ k := fun k _ => cnt_le k
  rw [PC_28, zb_28_0]
  simp (disch := first | exact zl_i | exact zl_r | exact zl_n | omega | exact zlen0 | exact zlen1 | exact zlen2 | exact zlen3 | exact zlen4 | exact zl_l | (simp only [zS_uf1, zS_uf2, zS_ur1, zS_ur2, Nat.reduceEqDiff, reduceIte, and_false, false_and, and_true, true_and, ite_true, ite_false]; done) | exact zl_n) only [Int.reduceToNat, Nat.reduceAdd, Nat.reduceMul, List.length_nil, List.length_cons, Nat.reduceLeDiff, Nat.zero_le, Option.toList_some, Option.toList_none, List.cons_append, List.nil_append, PW_nil, PW_goto, zl_i, zl_r, zl_n, PW_aload_0, PW_k0, PW_p582, PW_p583, PW_g584, PX_c60, PW_g579, PW_k1, PW_isub, PW_istore_3, PW_iload_3, PW_if_lt, PW_g577, PW_ia73, PW_ia74, PW_ia75, PW_ia77, PW_ia80, PW_iload_1, PW_ic_ne, PW_aload_2, PW_g642, PW_g576, PW_istore_4, PW_g578, PW_km1, PW_iload_4, PX_c29, PW_dup2, PW_iadd, PW_is73, PW_is74, PW_is75, PW_is77, PW_is80, PW_iinc_3_m1, PX_c30, PW_ret_v zret_28, zb_28_2, zb_28_3, zb_28_4, PK_app, n_l0, n_l1, n_l2, n_l3, n_l4, n_l5, n_l8, n_l9, n_l10, n_l15, n_l20, n_l31, n_l40, n_l48, n_l57, n_l59, n_l60, n_l70, n_l99, n_l100, n_l255, n_l601, n_l602, n_l1024, n_l1500, n_l2100, n_l2101, n_l65535, n_l100000, n_l1000000, n_l100000000, i_lt, nI_clamp, nI_leI, nI_eq, nI_1, nI_add, pk_mul, pk_sub, n_in, n_negle, n_legne, n_eqneg, n_negeq, n_nn, n_bit, n_shl1, n_or, zb_e0, zb_e1, zb_r, n_em, zb_T, zb_F, zS_uf1, zS_uf2, zS_ur1, zS_ur2, zS_ur3, zS_ul1, zS_ul2, zS_ul3, z_if0, z_if1, Int.reduceEq, Nat.reduceOr, Nat.or_zero, Nat.zero_or, Bool.false_eq_true, reduceCtorEq, nar0, nar1, nar_zb, eq_self, true_and, and_true, false_and, and_false, or_true, true_or, or_false, false_or, not_true_eq_false, not_false_eq_true, Classical.not_not, true_implies, false_implies, implies_true, iff_true, iff_self, ite_true, ite_false, Nat.reduceEqDiff, Nat.reduceLT, Nat.reduceSub, Nat.add_sub_cancel, Nat.reduceLeDiff, reduceIte, ne_eq, Nat.not_le, sp_fill za_77]
  refine Iff.trans ?_ (lpc n (fun i (a : Option Value) => PW sc 28 (zblk 28 1) 2 [some (.ref 9), some (.int (d)), some (.ref 10), some (.int (nI (n - i) + -nI 1)), a] [] (wS σ P X (m - cnt (onD (σ.2.1 74) d) (n - i))) Q) _ (fun a => ?_) (fun i hi ih a => ?_) none)
  · have e1 : m - cnt (onD (σ.2.1 74) d) (n - 0) = 0 := by rw [hm]; exact Nat.sub_self _
    rw [e1]
    have e2 : ff (σ.2.1 77) 2 (nI 0) = fxr P X (σ.2.1 77) 0 := funext fun j => by
      unfold ff fxr
      by_cases z : j = 0
      · rw [if_pos (by omega), if_pos z]; exact rfl
      · by_cases z1 : j = 1
        · rw [if_pos (by omega), if_neg z, if_pos z1]; exact rfl
        · rw [if_neg (by omega), if_neg z, if_neg z1]
    unfold wS
    rw [lrow_0 h0, ← e2]
    have e3 : ∀ τ : zS, τ.2.1 76 = σ.2.1 76 → zur τ 76 (σ.2.1 76) = τ := fun τ q => by rw [← q, zur_id]
    rw [e3 (zur (zuf (zuf σ 9 6 (nI (sX (fun j => P j = 2) X 0))) 9 7 (nI (frn P 0))) 77 (ff (σ.2.1 77) 2 (nI 0))) rfl, hn, i_sub]
    exact Iff.rfl
  · rw [show n - n = 0 by omega, zb_28_1]
    have e1 : m - cnt (onD (σ.2.1 74) d) 0 = m := Nat.sub_zero m
    rw [e1, n_pm0]
    have hch := fun Q => sp_choose (sc := sc) (σ := wS σ P X m) (Q := Q) (f := frn P m) (by have := hfm m (Nat.le_refl _); omega) rfl hc
    simp (disch := first | exact zl_i | exact zl_r | exact zl_n | omega | exact zlen0 | exact zlen1 | exact zlen2 | exact zlen3 | exact zlen4 | exact zl_l | (simp only [zS_uf1, zS_uf2, zS_ur1, zS_ur2, Nat.reduceEqDiff, reduceIte, and_false, false_and, and_true, true_and, ite_true, ite_false]; done) | exact zl_n) only [Int.reduceToNat, Nat.reduceAdd, Nat.reduceMul, List.length_nil, List.length_cons, Nat.reduceLeDiff, Nat.zero_le, Option.toList_some, Option.toList_none, List.cons_append, List.nil_append, PW_nil, PW_goto, zl_i, zl_r, zl_n, PW_aload_0, PW_k0, PW_p582, PW_p583, PW_g584, PX_c60, PW_g579, PW_k1, PW_isub, PW_istore_3, PW_iload_3, PW_if_lt, PW_g577, PW_ia73, PW_ia74, PW_ia75, PW_ia77, PW_ia80, PW_iload_1, PW_ic_ne, PW_aload_2, PW_g642, PW_g576, PW_istore_4, PW_g578, PW_km1, PW_iload_4, PX_c29, PW_dup2, PW_iadd, PW_is73, PW_is74, PW_is75, PW_is77, PW_is80, PW_iinc_3_m1, PX_c30, PW_ret_v zret_28, zb_28_2, zb_28_3, zb_28_4, PK_app, n_l0, n_l1, n_l2, n_l3, n_l4, n_l5, n_l8, n_l9, n_l10, n_l15, n_l20, n_l31, n_l40, n_l48, n_l57, n_l59, n_l60, n_l70, n_l99, n_l100, n_l255, n_l601, n_l602, n_l1024, n_l1500, n_l2100, n_l2101, n_l65535, n_l100000, n_l1000000, n_l100000000, i_lt, nI_clamp, nI_leI, nI_eq, nI_1, nI_add, pk_mul, pk_sub, n_in, n_negle, n_legne, n_eqneg, n_negeq, n_nn, n_bit, n_shl1, n_or, zb_e0, zb_e1, zb_r, n_em, zb_T, zb_F, zS_uf1, zS_uf2, zS_ur1, zS_ur2, zS_ur3, zS_ul1, zS_ul2, zS_ul3, z_if0, z_if1, Int.reduceEq, Nat.reduceOr, Nat.or_zero, Nat.zero_or, Bool.false_eq_true, reduceCtorEq, nar0, nar1, nar_zb, eq_self, true_and, and_true, false_and, and_false, or_true, true_or, or_false, false_or, not_true_eq_false, not_false_eq_true, Classical.not_not, true_implies, false_implies, implies_true, iff_true, iff_self, ite_true, ite_false, Nat.reduceEqDiff, Nat.reduceLT, Nat.reduceSub, Nat.add_sub_cancel, Nat.reduceLeDiff, reduceIte, ne_eq, Nat.not_le, hch]
  · obtain ⟨s, hs⟩ : ∃ s, n - i = s + 1 := ⟨n - i - 1, by omega⟩
    have hs' : n - (i + 1) = s := by omega
    have hsn : s < n := by omega
    rw [hs'] at ih
    rw [hs, zb_28_1, n_pm]
    obtain ⟨⟨v, v1, v2⟩, ⟨dd, d1, d2⟩, hB⟩ := ht.2.1 s hsn
    obtain ⟨x, x1, x2⟩ := ht.2.2.2 v v1
    have hn40 := ht.1
    by_cases q : σ.2.1 74 s = d
    · obtain ⟨t1, t2⟩ := tj_of hsn q
      rw [← hm] at t1 t2
      have t3 : cnt (onD (σ.2.1 74) d) (s + 1) = cnt (onD (σ.2.1 74) d) s + 1 := cnt_t q
      have t4 : m - cnt (onD (σ.2.1 74) d) s = m - cnt (onD (σ.2.1 74) d) (s + 1) + 1 := by omega
      have hPk : P (m - cnt (onD (σ.2.1 74) d) (s + 1)) = pcd (σ.2.1 75 s) := by rw [hP]; unfold dP; rw [t2]
      have hXk : X (m - cnt (onD (σ.2.1 74) d) (s + 1)) = x := by
        rw [hX]
        unfold dX
        rw [t2, v2, n_cl (by omega), x2, n_cl (by omega)]
      rw [t4] at ih
      have hk9 : m - cnt (onD (σ.2.1 74) d) (s + 1) ≤ 9 := by omega
      generalize m - cnt (onD (σ.2.1 74) d) (s + 1) = k at *
      have hf9 : frn P k ≤ 9 := by have : frn P k ≤ k := cnt_le k; omega
      rcases hB with hB | ⟨p, p1, p2⟩
      · have hP2 : P k = 2 := by rw [hPk, hB]; exact pcd_2.mpr rfl
        have ha := fun Q => sp_addFree (sc := sc) (σ := wS σ P X k) (Q := Q) (x := nI x) hf9 rfl
        have hB' : σ.2.1 75 s = -nI 1 := hB
        unfold wS at ih ha ⊢
        rw [frn_t hP2, lrow_s hP2, fxr_2 hP2, sX_t (c := fun j => P j = 2) hP2, hXk] at ih
        simp (disch := first | exact zl_i | exact zl_r | exact zl_n | omega | exact zlen0 | exact zlen1 | exact zlen2 | exact zlen3 | exact zlen4 | exact zl_l | (simp only [zS_uf1, zS_uf2, zS_ur1, zS_ur2, Nat.reduceEqDiff, reduceIte, and_false, false_and, and_true, true_and, ite_true, ite_false]; done) | exact zl_n) only [Int.reduceToNat, Nat.reduceAdd, Nat.reduceMul, List.length_nil, List.length_cons, Nat.reduceLeDiff, Nat.zero_le, Option.toList_some, Option.toList_none, List.cons_append, List.nil_append, PW_nil, PW_goto, zl_i, zl_r, zl_n, PW_aload_0, PW_k0, PW_p582, PW_p583, PW_g584, PX_c60, PW_g579, PW_k1, PW_isub, PW_istore_3, PW_iload_3, PW_if_lt, PW_g577, PW_ia73, PW_ia74, PW_ia75, PW_ia77, PW_ia80, PW_iload_1, PW_ic_ne, PW_aload_2, PW_g642, PW_g576, PW_istore_4, PW_g578, PW_km1, PW_iload_4, PX_c29, PW_dup2, PW_iadd, PW_is73, PW_is74, PW_is75, PW_is77, PW_is80, PW_iinc_3_m1, PX_c30, PW_ret_v zret_28, zb_28_2, zb_28_3, zb_28_4, PK_app, n_l0, n_l1, n_l2, n_l3, n_l4, n_l5, n_l8, n_l9, n_l10, n_l15, n_l20, n_l31, n_l40, n_l48, n_l57, n_l59, n_l60, n_l70, n_l99, n_l100, n_l255, n_l601, n_l602, n_l1024, n_l1500, n_l2100, n_l2101, n_l65535, n_l100000, n_l1000000, n_l100000000, i_lt, nI_clamp, nI_leI, nI_eq, nI_1, nI_add, pk_mul, pk_sub, n_in, n_negle, n_legne, n_eqneg, n_negeq, n_nn, n_bit, n_shl1, n_or, zb_e0, zb_e1, zb_r, n_em, zb_T, zb_F, zS_uf1, zS_uf2, zS_ur1, zS_ur2, zS_ur3, zS_ul1, zS_ul2, zS_ul3, z_if0, z_if1, Int.reduceEq, Nat.reduceOr, Nat.or_zero, Nat.zero_or, Bool.false_eq_true, reduceCtorEq, nar0, nar1, nar_zb, eq_self, true_and, and_true, false_and, and_false, or_true, true_or, or_false, false_or, not_true_eq_false, not_false_eq_true, Classical.not_not, true_implies, false_implies, implies_true, iff_true, iff_self, ite_true, ite_false, Nat.reduceEqDiff, Nat.reduceLT, Nat.reduceSub, Nat.add_sub_cancel, Nat.reduceLeDiff, reduceIte, ne_eq, Nat.not_le, eq_true q, v2, x2, hB', ha, zur_uf, zuf_same, zuf_sw, zur_same, zur_sw, nI_add]
        exact ih _
      · have hPp : P k = p := by rw [hPk, p2]; exact pcd_n p1
        have hP2 : ¬ P k = 2 := by omega
        unfold wS at ih ⊢
        rw [frn_f hP2, lrow_k hP2, fxr_p p1 hPp, sX_f (c := fun j => P j = 2) hP2, hXk] at ih
        simp (disch := first | exact zl_i | exact zl_r | exact zl_n | omega | exact zlen0 | exact zlen1 | exact zlen2 | exact zlen3 | exact zlen4 | exact zl_l | (simp only [zS_uf1, zS_uf2, zS_ur1, zS_ur2, Nat.reduceEqDiff, reduceIte, and_false, false_and, and_true, true_and, ite_true, ite_false]; done) | exact zl_n) only [Int.reduceToNat, Nat.reduceAdd, Nat.reduceMul, List.length_nil, List.length_cons, Nat.reduceLeDiff, Nat.zero_le, Option.toList_some, Option.toList_none, List.cons_append, List.nil_append, PW_nil, PW_goto, zl_i, zl_r, zl_n, PW_aload_0, PW_k0, PW_p582, PW_p583, PW_g584, PX_c60, PW_g579, PW_k1, PW_isub, PW_istore_3, PW_iload_3, PW_if_lt, PW_g577, PW_ia73, PW_ia74, PW_ia75, PW_ia77, PW_ia80, PW_iload_1, PW_ic_ne, PW_aload_2, PW_g642, PW_g576, PW_istore_4, PW_g578, PW_km1, PW_iload_4, PX_c29, PW_dup2, PW_iadd, PW_is73, PW_is74, PW_is75, PW_is77, PW_is80, PW_iinc_3_m1, PX_c30, PW_ret_v zret_28, zb_28_2, zb_28_3, zb_28_4, PK_app, n_l0, n_l1, n_l2, n_l3, n_l4, n_l5, n_l8, n_l9, n_l10, n_l15, n_l20, n_l31, n_l40, n_l48, n_l57, n_l59, n_l60, n_l70, n_l99, n_l100, n_l255, n_l601, n_l602, n_l1024, n_l1500, n_l2100, n_l2101, n_l65535, n_l100000, n_l1000000, n_l100000000, i_lt, nI_clamp, nI_leI, nI_eq, nI_1, nI_add, pk_mul, pk_sub, n_in, n_negle, n_legne, n_eqneg, n_negeq, n_nn, n_bit, n_shl1, n_or, zb_e0, zb_e1, zb_r, n_em, zb_T, zb_F, zS_uf1, zS_uf2, zS_ur1, zS_ur2, zS_ur3, zS_ul1, zS_ul2, zS_ul3, z_if0, z_if1, Int.reduceEq, Nat.reduceOr, Nat.or_zero, Nat.zero_or, Bool.false_eq_true, reduceCtorEq, nar0, nar1, nar_zb, eq_self, true_and, and_true, false_and, and_false, or_true, true_or, or_false, false_or, not_true_eq_false, not_false_eq_true, Classical.not_not, true_implies, false_implies, implies_true, iff_true, iff_self, ite_true, ite_false, Nat.reduceEqDiff, Nat.reduceLT, Nat.reduceSub, Nat.add_sub_cancel, Nat.reduceLeDiff, reduceIte, ne_eq, Nat.not_le, eq_true q, v2, x2, p2, zur_same, zur_sw]
        exact ih _
    · have t3 : cnt (onD (σ.2.1 74) d) (s + 1) = cnt (onD (σ.2.1 74) d) s := cnt_f q
      rw [t3]
      generalize m - cnt (onD (σ.2.1 74) d) s = k at *
      unfold wS at ih ⊢
      simp (disch := first | exact zl_i | exact zl_r | exact zl_n | omega | exact zlen0 | exact zlen1 | exact zlen2 | exact zlen3 | exact zlen4 | exact zl_l | (simp only [zS_uf1, zS_uf2, zS_ur1, zS_ur2, Nat.reduceEqDiff, reduceIte, and_false, false_and, and_true, true_and, ite_true, ite_false]; done) | exact zl_n) only [Int.reduceToNat, Nat.reduceAdd, Nat.reduceMul, List.length_nil, List.length_cons, Nat.reduceLeDiff, Nat.zero_le, Option.toList_some, Option.toList_none, List.cons_append, List.nil_append, PW_nil, PW_goto, zl_i, zl_r, zl_n, PW_aload_0, PW_k0, PW_p582, PW_p583, PW_g584, PX_c60, PW_g579, PW_k1, PW_isub, PW_istore_3, PW_iload_3, PW_if_lt, PW_g577, PW_ia73, PW_ia74, PW_ia75, PW_ia77, PW_ia80, PW_iload_1, PW_ic_ne, PW_aload_2, PW_g642, PW_g576, PW_istore_4, PW_g578, PW_km1, PW_iload_4, PX_c29, PW_dup2, PW_iadd, PW_is73, PW_is74, PW_is75, PW_is77, PW_is80, PW_iinc_3_m1, PX_c30, PW_ret_v zret_28, zb_28_2, zb_28_3, zb_28_4, PK_app, n_l0, n_l1, n_l2, n_l3, n_l4, n_l5, n_l8, n_l9, n_l10, n_l15, n_l20, n_l31, n_l40, n_l48, n_l57, n_l59, n_l60, n_l70, n_l99, n_l100, n_l255, n_l601, n_l602, n_l1024, n_l1500, n_l2100, n_l2101, n_l65535, n_l100000, n_l1000000, n_l100000000, i_lt, nI_clamp, nI_leI, nI_eq, nI_1, nI_add, pk_mul, pk_sub, n_in, n_negle, n_legne, n_eqneg, n_negeq, n_nn, n_bit, n_shl1, n_or, zb_e0, zb_e1, zb_r, n_em, zb_T, zb_F, zS_uf1, zS_uf2, zS_ur1, zS_ur2, zS_ur3, zS_ul1, zS_ul2, zS_ul3, z_if0, z_if1, Int.reduceEq, Nat.reduceOr, Nat.or_zero, Nat.zero_or, Bool.false_eq_true, reduceCtorEq, nar0, nar1, nar_zb, eq_self, true_and, and_true, false_and, and_false, or_true, true_or, or_false, false_or, not_true_eq_false, not_false_eq_true, Classical.not_not, true_implies, false_implies, implies_true, iff_true, iff_self, ite_true, ite_false, Nat.reduceEqDiff, Nat.reduceLT, Nat.reduceSub, Nat.add_sub_cancel, Nat.reduceLeDiff, reduceIte, ne_eq, Nat.not_le, q]
      exact ih _
end WG2
