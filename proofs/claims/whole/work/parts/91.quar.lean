/-! a lending told: who holds what -/
noncomputable def hlr (x : Nat → Int32) : Nat → Nat → Option Nat
  | 0, _ => none
  | i + 1, v => cif (x i = nI v) (some i) (hlr x i v)
theorem hlr_t {x : Nat → Int32} {i v : Nat} (h : x i = nI v) : hlr x (i + 1) v = some i := cif_t h
theorem hlr_f {x : Nat → Int32} {i v : Nat} (h : ¬ x i = nI v) : hlr x (i + 1) v = hlr x i v := cif_f h
theorem hlr_n {x : Nat → Int32} {v : Nat} : ∀ {i : Nat}, hlr x i v = none ↔ ∀ q, q < i → ¬ x q = nI v
  | 0 => ⟨fun _ q h => absurd h (Nat.not_lt_zero q), fun _ => rfl⟩
  | i + 1 => by
    by_cases h : x i = nI v
    · rw [hlr_t h]
      exact ⟨fun z => (by cases z), fun z => absurd h (z i (by omega))⟩
    · rw [hlr_f h, hlr_n (i := i)]
      constructor
      · intro z q hq
        by_cases e : q = i
        · subst e; exact h
        · exact z q (by omega)
      · exact fun z q hq => z q (by omega)
theorem hlr_s {x : Nat → Int32} {v q : Nat} : ∀ {i : Nat}, hlr x i v = some q → q < i ∧ x q = nI v
  | 0, h => by cases h
  | i + 1, h => by
    by_cases e : x i = nI v
    · rw [hlr_t e] at h
      cases h
      exact ⟨by omega, e⟩
    · rw [hlr_f e] at h
      have := hlr_s h
      exact ⟨by omega, this.2⟩
/-- the row told is a lending up to i -/
def lok (M : Nat → Nat → Prop) (nv : Nat) (x : Nat → Int32) (i : Nat) : Prop := ∀ p, p < i → x p = -nI 1 ∨ ∃ v, v < nv ∧ x p = nI v ∧ M p v ∧ ∀ q, q < p → ¬ x q = nI v
def r32 (x g : Nat → Int32) (i : Nat) : Nat → Int32 := fun p => if p < i then x p else if p < 10 then -nI 1 else g p
noncomputable def r33 (x g : Nat → Int32) (i : Nat) : Nat → Int32 := fun v => if v < 10 then oi (-nI 1) (hlr x i v) else g v
theorem r32_0 {x g : Nat → Int32} : r32 x g 0 = ff g 10 (-nI 1) := funext fun p => if_neg (Nat.not_lt_zero p)
theorem r33_0 {x g : Nat → Int32} : r33 x g 0 = ff g 10 (-nI 1) := rfl
theorem r32_s {x g : Nat → Int32} {i : Nat} : upd (r32 x g i) i (x i) = r32 x g (i + 1) := funext fun p => by
  unfold upd r32
  by_cases z : p = i
  · rw [if_pos z, if_pos (by omega), z]
  · rw [if_neg z]
    by_cases q : p < i
    · rw [if_pos q, if_pos (by omega)]
    · rw [if_neg q, if_neg (show ¬ p < i + 1 by omega)]
theorem r32_k {x g : Nat → Int32} {i : Nat} (hi : i < 10) (h : x i = -nI 1) : r32 x g (i + 1) = r32 x g i := funext fun p => by
  unfold r32
  by_cases z : p = i
  · rw [if_pos (by omega), if_neg (by omega), if_pos (by omega), z, h]
  · by_cases q : p < i
    · rw [if_pos q, if_pos (by omega)]
    · rw [if_neg q, if_neg (show ¬ p < i + 1 by omega)]
theorem r33_s {x g : Nat → Int32} {i v : Nat} (hv : v < 10) (h : x i = nI v) : upd (r33 x g i) v (nI i) = r33 x g (i + 1) := funext fun u => by
  unfold upd r33
  by_cases z : u = v
  · rw [if_pos z, if_pos (by omega), hlr_t (by rw [z]; exact h)]
    exact rfl
  · rw [if_neg z]
    by_cases q : u < 10
    · rw [if_pos q, if_pos q, hlr_f (fun e => z ((nI_eq (by omega) (by omega)).mp (e.symm.trans h)))]
    · rw [if_neg q, if_neg q]
theorem r33_k {x g : Nat → Int32} {i : Nat} (h : x i = -nI 1) : r33 x g (i + 1) = r33 x g i := funext fun u => by
  unfold r33
  by_cases q : u < 10
  · rw [if_pos q, if_pos q, hlr_f (fun e => by
      rw [h] at e
      exact (n_negeq (by omega) (by omega)).mp e)]
  · rw [if_neg q, if_neg q]
section AC
variable {sc : zX} {σ : zS} {Q : Option Value → zS → Prop}
/-- the class takes the row -/
theorem acc_w {np nv : Nat} {x : Nat → Int32} {M : Nat → Nat → Prop} (hnp : np ≤ 10) (hnv : nv ≤ 10) (h0 : σ.1 2 0 = nI np) (h1 : σ.1 2 1 = nI nv) (hx : ∀ p, p < np → σ.2.1 72 p = x p)
    (hM : ∀ p v, p < np → v < nv → (σ.2.1 (22 + p) v = nI 0 ↔ ¬ M p v)) {g32 g33 : Nat → Int32}
    (hyes : lok M nv x np → Q (some (.int (nI 1))) (zur (zur σ 32 (r32 x g32 np)) 33 (r33 x g33 np))) (hno : ¬ lok M nv x np → ∀ i, Q (some (.int (nI 0))) (zur (zur σ 32 (r32 x g32 i)) 33 (r33 x g33 i))) :
    PC sc 34 [.ref 2, .ref 72] (zur (zur σ 32 (ff g32 10 (-nI 1))) 33 (ff g33 10 (-nI 1))) Q := by
  rw [PC_34, zb_34_0]
  simp (disch := first | exact zl_i | exact zl_r | exact zl_n | omega | exact zlen0 | exact zlen1 | exact zlen2 | exact zlen3 | exact zlen4 | exact zl_l | (unfold scF; omega) | (unfold scR; omega) | (simp only [zS_uf1, zS_uf2, zS_ur1, zS_ur2, Nat.reduceEqDiff, reduceIte, and_false, false_and, and_true, true_and, ite_true, ite_false]; done) | exact zl_n) only [Int.reduceToNat, Nat.reduceAdd, Nat.reduceMul, List.length_nil, List.length_cons, Nat.reduceLeDiff, Nat.zero_le, Option.toList_some, Option.toList_none, List.cons_append, List.nil_append, PW_nil, PW_goto, zl_i, zl_r, zl_n, PW_k0, PW_istore_2, PW_iload_2, PW_aload_0, PW_g128, PW_ic_ge, PW_aload_1, PW_iar21, PW_ia33, PW_istore_3, PW_iload_3, PW_km1, PW_ic_eq, PW_if_lt, PW_g129, PW_g131, PW_aa21, PW_if_eq, PW_g133, PW_ret_z zret_34, PX_c22, PW_iinc_2_p1, PW_k1, zb_34_2, zb_34_3, zb_34_4, zb_34_5, PK_app, n_l0, n_l1, n_l2, n_l3, n_l4, n_l5, n_l8, n_l9, n_l10, n_l15, n_l20, n_l31, n_l40, n_l48, n_l57, n_l59, n_l60, n_l70, n_l99, n_l100, n_l255, n_l601, n_l602, n_l1024, n_l1500, n_l2100, n_l2101, n_l65535, n_l100000, n_l1000000, n_l100000000, i_lt, nI_clamp, nI_leI, nI_eq, nI_1, nI_add, pk_mul, pk_sub, n_in, n_negle, n_legne, n_eqneg, n_negeq, n_nn, n_bit, n_shl1, n_or, zb_e0, zb_e1, zb_r, n_em, zb_T, zb_F, zS_uf1, zS_uf2, zS_ur1, zS_ur2, zS_ur3, zS_ul1, zS_ul2, zS_ul3, z_if0, z_if1, Int.reduceEq, Nat.reduceOr, Nat.or_zero, Nat.zero_or, Bool.false_eq_true, reduceCtorEq, nar0, nar1, nar_zb, eq_self, true_and, and_true, false_and, and_false, or_true, true_or, or_false, false_or, not_true_eq_false, not_false_eq_true, Classical.not_not, true_implies, false_implies, implies_true, iff_true, iff_self, ite_true, ite_false, Nat.reduceEqDiff, Nat.reduceLT, Nat.reduceSub, Nat.add_sub_cancel, Nat.reduceLeDiff, reduceIte, ne_eq, Nat.not_le]
  have key : ∀ k i, i + k = np → lok M nv x i → ∀ a, PW sc 34 (zblk 34 1) 2 [some (.ref 2), some (.ref (72)), some (.int (nI i)), a] [] (zur (zur σ 32 (r32 x g32 i)) 33 (r33 x g33 i)) Q := by
    intro k
    induction k with
    | zero =>
      intro i hi hl a
      rw [show i = np by omega] at hl ⊢
      rw [zb_34_1]
      simp (disch := first | exact zl_i | exact zl_r | exact zl_n | omega | exact zlen0 | exact zlen1 | exact zlen2 | exact zlen3 | exact zlen4 | exact zl_l | (unfold scF; omega) | (unfold scR; omega) | (simp only [zS_uf1, zS_uf2, zS_ur1, zS_ur2, Nat.reduceEqDiff, reduceIte, and_false, false_and, and_true, true_and, ite_true, ite_false]; done) | exact zl_n) only [Int.reduceToNat, Nat.reduceAdd, Nat.reduceMul, List.length_nil, List.length_cons, Nat.reduceLeDiff, Nat.zero_le, Option.toList_some, Option.toList_none, List.cons_append, List.nil_append, PW_nil, PW_goto, zl_i, zl_r, zl_n, PW_k0, PW_istore_2, PW_iload_2, PW_aload_0, PW_g128, PW_ic_ge, PW_aload_1, PW_iar21, PW_ia33, PW_istore_3, PW_iload_3, PW_km1, PW_ic_eq, PW_if_lt, PW_g129, PW_g131, PW_aa21, PW_if_eq, PW_g133, PW_ret_z zret_34, PX_c22, PW_iinc_2_p1, PW_k1, zb_34_2, zb_34_3, zb_34_4, zb_34_5, PK_app, n_l0, n_l1, n_l2, n_l3, n_l4, n_l5, n_l8, n_l9, n_l10, n_l15, n_l20, n_l31, n_l40, n_l48, n_l57, n_l59, n_l60, n_l70, n_l99, n_l100, n_l255, n_l601, n_l602, n_l1024, n_l1500, n_l2100, n_l2101, n_l65535, n_l100000, n_l1000000, n_l100000000, i_lt, nI_clamp, nI_leI, nI_eq, nI_1, nI_add, pk_mul, pk_sub, n_in, n_negle, n_legne, n_eqneg, n_negeq, n_nn, n_bit, n_shl1, n_or, zb_e0, zb_e1, zb_r, n_em, zb_T, zb_F, zS_uf1, zS_uf2, zS_ur1, zS_ur2, zS_ur3, zS_ul1, zS_ul2, zS_ul3, z_if0, z_if1, Int.reduceEq, Nat.reduceOr, Nat.or_zero, Nat.zero_or, Bool.false_eq_true, reduceCtorEq, nar0, nar1, nar_zb, eq_self, true_and, and_true, false_and, and_false, or_true, true_or, or_false, false_or, not_true_eq_false, not_false_eq_true, Classical.not_not, true_implies, false_implies, implies_true, iff_true, iff_self, ite_true, ite_false, Nat.reduceEqDiff, Nat.reduceLT, Nat.reduceSub, Nat.add_sub_cancel, Nat.reduceLeDiff, reduceIte, ne_eq, Nat.not_le, PW_ia72, h0, Nat.le_refl]
      exact hyes hl
    | succ k ih =>
      intro i hi hl a
      have hin : i < np := by omega
      have hxi := hx i hin
      have bad : (¬ (x i = -nI 1 ∨ ∃ v, v < nv ∧ x i = nI v ∧ M i v ∧ ∀ q, q < i → ¬ x q = nI v)) → Q (some (.int (nI 0))) (zur (zur σ 32 (r32 x g32 i)) 33 (r33 x g33 i)) := fun z => hno (fun w => z (w i hin)) i
      have nxt : (x i = -nI 1 ∨ ∃ v, v < nv ∧ x i = nI v ∧ M i v ∧ ∀ q, q < i → ¬ x q = nI v) → lok M nv x (i + 1) := fun z p hp => by
        by_cases e : p = i
        · subst e; exact z
        · exact hl p (by omega)
      rw [zb_34_1]
      by_cases c : x i = -nI 1
      · have ih' := fun a => ih (i + 1) (by omega) (nxt (Or.inl c)) a
        rw [r32_k (by omega) c, r33_k c] at ih'
        simp (disch := first | exact zl_i | exact zl_r | exact zl_n | omega | exact zlen0 | exact zlen1 | exact zlen2 | exact zlen3 | exact zlen4 | exact zl_l | (unfold scF; omega) | (unfold scR; omega) | (simp only [zS_uf1, zS_uf2, zS_ur1, zS_ur2, Nat.reduceEqDiff, reduceIte, and_false, false_and, and_true, true_and, ite_true, ite_false]; done) | exact zl_n) only [Int.reduceToNat, Nat.reduceAdd, Nat.reduceMul, List.length_nil, List.length_cons, Nat.reduceLeDiff, Nat.zero_le, Option.toList_some, Option.toList_none, List.cons_append, List.nil_append, PW_nil, PW_goto, zl_i, zl_r, zl_n, PW_k0, PW_istore_2, PW_iload_2, PW_aload_0, PW_g128, PW_ic_ge, PW_aload_1, PW_iar21, PW_ia33, PW_istore_3, PW_iload_3, PW_km1, PW_ic_eq, PW_if_lt, PW_g129, PW_g131, PW_aa21, PW_if_eq, PW_g133, PW_ret_z zret_34, PX_c22, PW_iinc_2_p1, PW_k1, zb_34_2, zb_34_3, zb_34_4, zb_34_5, PK_app, n_l0, n_l1, n_l2, n_l3, n_l4, n_l5, n_l8, n_l9, n_l10, n_l15, n_l20, n_l31, n_l40, n_l48, n_l57, n_l59, n_l60, n_l70, n_l99, n_l100, n_l255, n_l601, n_l602, n_l1024, n_l1500, n_l2100, n_l2101, n_l65535, n_l100000, n_l1000000, n_l100000000, i_lt, nI_clamp, nI_leI, nI_eq, nI_1, nI_add, pk_mul, pk_sub, n_in, n_negle, n_legne, n_eqneg, n_negeq, n_nn, n_bit, n_shl1, n_or, zb_e0, zb_e1, zb_r, n_em, zb_T, zb_F, zS_uf1, zS_uf2, zS_ur1, zS_ur2, zS_ur3, zS_ul1, zS_ul2, zS_ul3, z_if0, z_if1, Int.reduceEq, Nat.reduceOr, Nat.or_zero, Nat.zero_or, Bool.false_eq_true, reduceCtorEq, nar0, nar1, nar_zb, eq_self, true_and, and_true, false_and, and_false, or_true, true_or, or_false, false_or, not_true_eq_false, not_false_eq_true, Classical.not_not, true_implies, false_implies, implies_true, iff_true, iff_self, ite_true, ite_false, Nat.reduceEqDiff, Nat.reduceLT, Nat.reduceSub, Nat.add_sub_cancel, Nat.reduceLeDiff, reduceIte, ne_eq, Nat.not_le, PW_ia72, h0, Nat.not_le.mpr hin, hxi, c]
        exact ih' _
      · rcases n_kn (x i) (n := nv) (by omega) with ⟨v, hv, e⟩ | hv
        · have hMv := hM i v hin hv
          have e33 : r33 x g33 i v = oi (-nI 1) (hlr x i v) := if_pos (by omega)
          by_cases m : M i v
          · have m' : (σ.2.1 (22 + i) v = nI 0) = False := eq_false (fun z => hMv.mp z m)
            cases eh : hlr x i v with
            | none =>
              rw [eh] at e33
              have e33' : r33 x g33 i v = -nI 1 := e33
              have ih' := fun a => ih (i + 1) (by omega) (nxt (Or.inr ⟨v, hv, e, m, hlr_n.mp eh⟩)) a
              rw [← r32_s, ← r33_s (show v < 10 by omega) e, e] at ih'
              simp (disch := first | exact zl_i | exact zl_r | exact zl_n | omega | exact zlen0 | exact zlen1 | exact zlen2 | exact zlen3 | exact zlen4 | exact zl_l | (unfold scF; omega) | (unfold scR; omega) | (simp only [zS_uf1, zS_uf2, zS_ur1, zS_ur2, Nat.reduceEqDiff, reduceIte, and_false, false_and, and_true, true_and, ite_true, ite_false]; done) | exact zl_n) only [Int.reduceToNat, Nat.reduceAdd, Nat.reduceMul, List.length_nil, List.length_cons, Nat.reduceLeDiff, Nat.zero_le, Option.toList_some, Option.toList_none, List.cons_append, List.nil_append, PW_nil, PW_goto, zl_i, zl_r, zl_n, PW_k0, PW_istore_2, PW_iload_2, PW_aload_0, PW_g128, PW_ic_ge, PW_aload_1, PW_iar21, PW_ia33, PW_istore_3, PW_iload_3, PW_km1, PW_ic_eq, PW_if_lt, PW_g129, PW_g131, PW_aa21, PW_if_eq, PW_g133, PW_ret_z zret_34, PX_c22, PW_iinc_2_p1, PW_k1, zb_34_2, zb_34_3, zb_34_4, zb_34_5, PK_app, n_l0, n_l1, n_l2, n_l3, n_l4, n_l5, n_l8, n_l9, n_l10, n_l15, n_l20, n_l31, n_l40, n_l48, n_l57, n_l59, n_l60, n_l70, n_l99, n_l100, n_l255, n_l601, n_l602, n_l1024, n_l1500, n_l2100, n_l2101, n_l65535, n_l100000, n_l1000000, n_l100000000, i_lt, nI_clamp, nI_leI, nI_eq, nI_1, nI_add, pk_mul, pk_sub, n_in, n_negle, n_legne, n_eqneg, n_negeq, n_nn, n_bit, n_shl1, n_or, zb_e0, zb_e1, zb_r, n_em, zb_T, zb_F, zS_uf1, zS_uf2, zS_ur1, zS_ur2, zS_ur3, zS_ul1, zS_ul2, zS_ul3, z_if0, z_if1, Int.reduceEq, Nat.reduceOr, Nat.or_zero, Nat.zero_or, Bool.false_eq_true, reduceCtorEq, nar0, nar1, nar_zb, eq_self, true_and, and_true, false_and, and_false, or_true, true_or, or_false, false_or, not_true_eq_false, not_false_eq_true, Classical.not_not, true_implies, false_implies, implies_true, iff_true, iff_self, ite_true, ite_false, Nat.reduceEqDiff, Nat.reduceLT, Nat.reduceSub, Nat.add_sub_cancel, Nat.reduceLeDiff, reduceIte, ne_eq, Nat.not_le, PW_ia72, h0, h1, Nat.not_le.mpr hin, hxi, e, Nat.not_le.mpr hv, Nat.zero_le, PW_aa21, m', e33', PC_22, zb_22_0, Int.reduceToNat, Nat.reduceAdd, Nat.reduceMul, List.length_nil, List.length_cons, Nat.reduceLeDiff, Nat.zero_le, Option.toList_some, Option.toList_none, List.cons_append, List.nil_append, PW_nil, PW_goto, zl_i, zl_r, zl_n, PW_aload_0, PW_g132, PW_iload_1, PW_iload_2, PW_is32, PW_is33, PW_g133, PW_ret_v zret_22, PK_app, zur_same, zur_sw]
              exact ih' _
            | some q =>
              rw [eh] at e33
              have e33' : r33 x g33 i v = nI q := e33
              obtain ⟨q1, q2⟩ := hlr_s eh
              simp (disch := first | exact zl_i | exact zl_r | exact zl_n | omega | exact zlen0 | exact zlen1 | exact zlen2 | exact zlen3 | exact zlen4 | exact zl_l | (unfold scF; omega) | (unfold scR; omega) | (simp only [zS_uf1, zS_uf2, zS_ur1, zS_ur2, Nat.reduceEqDiff, reduceIte, and_false, false_and, and_true, true_and, ite_true, ite_false]; done) | exact zl_n) only [Int.reduceToNat, Nat.reduceAdd, Nat.reduceMul, List.length_nil, List.length_cons, Nat.reduceLeDiff, Nat.zero_le, Option.toList_some, Option.toList_none, List.cons_append, List.nil_append, PW_nil, PW_goto, zl_i, zl_r, zl_n, PW_k0, PW_istore_2, PW_iload_2, PW_aload_0, PW_g128, PW_ic_ge, PW_aload_1, PW_iar21, PW_ia33, PW_istore_3, PW_iload_3, PW_km1, PW_ic_eq, PW_if_lt, PW_g129, PW_g131, PW_aa21, PW_if_eq, PW_g133, PW_ret_z zret_34, PX_c22, PW_iinc_2_p1, PW_k1, zb_34_2, zb_34_3, zb_34_4, zb_34_5, PK_app, n_l0, n_l1, n_l2, n_l3, n_l4, n_l5, n_l8, n_l9, n_l10, n_l15, n_l20, n_l31, n_l40, n_l48, n_l57, n_l59, n_l60, n_l70, n_l99, n_l100, n_l255, n_l601, n_l602, n_l1024, n_l1500, n_l2100, n_l2101, n_l65535, n_l100000, n_l1000000, n_l100000000, i_lt, nI_clamp, nI_leI, nI_eq, nI_1, nI_add, pk_mul, pk_sub, n_in, n_negle, n_legne, n_eqneg, n_negeq, n_nn, n_bit, n_shl1, n_or, zb_e0, zb_e1, zb_r, n_em, zb_T, zb_F, zS_uf1, zS_uf2, zS_ur1, zS_ur2, zS_ur3, zS_ul1, zS_ul2, zS_ul3, z_if0, z_if1, Int.reduceEq, Nat.reduceOr, Nat.or_zero, Nat.zero_or, Bool.false_eq_true, reduceCtorEq, nar0, nar1, nar_zb, eq_self, true_and, and_true, false_and, and_false, or_true, true_or, or_false, false_or, not_true_eq_false, not_false_eq_true, Classical.not_not, true_implies, false_implies, implies_true, iff_true, iff_self, ite_true, ite_false, Nat.reduceEqDiff, Nat.reduceLT, Nat.reduceSub, Nat.add_sub_cancel, Nat.reduceLeDiff, reduceIte, ne_eq, Nat.not_le, PW_ia72, h0, h1, Nat.not_le.mpr hin, hxi, e, Nat.not_le.mpr hv, Nat.zero_le, PW_aa21, m', e33']
              refine bad ?_
              rintro (z | ⟨u, u1, u2, u3, u4⟩)
              · exact c z
              · exact u4 q q1 (by rw [q2, ← e, u2])
          · have m' : (σ.2.1 (22 + i) v = nI 0) = True := eq_true (hMv.mpr m)
            simp (disch := first | exact zl_i | exact zl_r | exact zl_n | omega | exact zlen0 | exact zlen1 | exact zlen2 | exact zlen3 | exact zlen4 | exact zl_l | (unfold scF; omega) | (unfold scR; omega) | (simp only [zS_uf1, zS_uf2, zS_ur1, zS_ur2, Nat.reduceEqDiff, reduceIte, and_false, false_and, and_true, true_and, ite_true, ite_false]; done) | exact zl_n) only [Int.reduceToNat, Nat.reduceAdd, Nat.reduceMul, List.length_nil, List.length_cons, Nat.reduceLeDiff, Nat.zero_le, Option.toList_some, Option.toList_none, List.cons_append, List.nil_append, PW_nil, PW_goto, zl_i, zl_r, zl_n, PW_k0, PW_istore_2, PW_iload_2, PW_aload_0, PW_g128, PW_ic_ge, PW_aload_1, PW_iar21, PW_ia33, PW_istore_3, PW_iload_3, PW_km1, PW_ic_eq, PW_if_lt, PW_g129, PW_g131, PW_aa21, PW_if_eq, PW_g133, PW_ret_z zret_34, PX_c22, PW_iinc_2_p1, PW_k1, zb_34_2, zb_34_3, zb_34_4, zb_34_5, PK_app, n_l0, n_l1, n_l2, n_l3, n_l4, n_l5, n_l8, n_l9, n_l10, n_l15, n_l20, n_l31, n_l40, n_l48, n_l57, n_l59, n_l60, n_l70, n_l99, n_l100, n_l255, n_l601, n_l602, n_l1024, n_l1500, n_l2100, n_l2101, n_l65535, n_l100000, n_l1000000, n_l100000000, i_lt, nI_clamp, nI_leI, nI_eq, nI_1, nI_add, pk_mul, pk_sub, n_in, n_negle, n_legne, n_eqneg, n_negeq, n_nn, n_bit, n_shl1, n_or, zb_e0, zb_e1, zb_r, n_em, zb_T, zb_F, zS_uf1, zS_uf2, zS_ur1, zS_ur2, zS_ur3, zS_ul1, zS_ul2, zS_ul3, z_if0, z_if1, Int.reduceEq, Nat.reduceOr, Nat.or_zero, Nat.zero_or, Bool.false_eq_true, reduceCtorEq, nar0, nar1, nar_zb, eq_self, true_and, and_true, false_and, and_false, or_true, true_or, or_false, false_or, not_true_eq_false, not_false_eq_true, Classical.not_not, true_implies, false_implies, implies_true, iff_true, iff_self, ite_true, ite_false, Nat.reduceEqDiff, Nat.reduceLT, Nat.reduceSub, Nat.add_sub_cancel, Nat.reduceLeDiff, reduceIte, ne_eq, Nat.not_le, PW_ia72, h0, h1, Nat.not_le.mpr hin, hxi, e, Nat.not_le.mpr hv, Nat.zero_le, PW_aa21, m']
            refine bad ?_
            rintro (z | ⟨u, u1, u2, u3, u4⟩)
            · exact c z
            · have : u = v := (nI_eq (by omega) (by omega)).mp (u2.symm.trans e)
              subst this
              exact m u3
        · have hb := bad (by
            rintro (z | ⟨u, u1, u2, u3, u4⟩)
            · exact c z
            · rw [u2] at hv
              exact (of_eq_false hv) ⟨by rw [nI_leI (by omega) (by omega)]; omega, by rw [nI_leI (by omega) (by omega)]; omega⟩)
          by_cases c2 : nI 0 ≤ x i
          · have c3 : nI nv ≤ x i := Classical.byContradiction (fun z => (of_eq_false hv) ⟨c2, z⟩)
            simp (disch := first | exact zl_i | exact zl_r | exact zl_n | omega | exact zlen0 | exact zlen1 | exact zlen2 | exact zlen3 | exact zlen4 | exact zl_l | (unfold scF; omega) | (unfold scR; omega) | (simp only [zS_uf1, zS_uf2, zS_ur1, zS_ur2, Nat.reduceEqDiff, reduceIte, and_false, false_and, and_true, true_and, ite_true, ite_false]; done) | exact zl_n) only [Int.reduceToNat, Nat.reduceAdd, Nat.reduceMul, List.length_nil, List.length_cons, Nat.reduceLeDiff, Nat.zero_le, Option.toList_some, Option.toList_none, List.cons_append, List.nil_append, PW_nil, PW_goto, zl_i, zl_r, zl_n, PW_k0, PW_istore_2, PW_iload_2, PW_aload_0, PW_g128, PW_ic_ge, PW_aload_1, PW_iar21, PW_ia33, PW_istore_3, PW_iload_3, PW_km1, PW_ic_eq, PW_if_lt, PW_g129, PW_g131, PW_aa21, PW_if_eq, PW_g133, PW_ret_z zret_34, PX_c22, PW_iinc_2_p1, PW_k1, zb_34_2, zb_34_3, zb_34_4, zb_34_5, PK_app, n_l0, n_l1, n_l2, n_l3, n_l4, n_l5, n_l8, n_l9, n_l10, n_l15, n_l20, n_l31, n_l40, n_l48, n_l57, n_l59, n_l60, n_l70, n_l99, n_l100, n_l255, n_l601, n_l602, n_l1024, n_l1500, n_l2100, n_l2101, n_l65535, n_l100000, n_l1000000, n_l100000000, i_lt, nI_clamp, nI_leI, nI_eq, nI_1, nI_add, pk_mul, pk_sub, n_in, n_negle, n_legne, n_eqneg, n_negeq, n_nn, n_bit, n_shl1, n_or, zb_e0, zb_e1, zb_r, n_em, zb_T, zb_F, zS_uf1, zS_uf2, zS_ur1, zS_ur2, zS_ur3, zS_ul1, zS_ul2, zS_ul3, z_if0, z_if1, Int.reduceEq, Nat.reduceOr, Nat.or_zero, Nat.zero_or, Bool.false_eq_true, reduceCtorEq, nar0, nar1, nar_zb, eq_self, true_and, and_true, false_and, and_false, or_true, true_or, or_false, false_or, not_true_eq_false, not_false_eq_true, Classical.not_not, true_implies, false_implies, implies_true, iff_true, iff_self, ite_true, ite_false, Nat.reduceEqDiff, Nat.reduceLT, Nat.reduceSub, Nat.add_sub_cancel, Nat.reduceLeDiff, reduceIte, ne_eq, Nat.not_le, PW_ia72, h0, h1, Nat.not_le.mpr hin, hxi, c, c2, c3]
            exact hb
          · simp (disch := first | exact zl_i | exact zl_r | exact zl_n | omega | exact zlen0 | exact zlen1 | exact zlen2 | exact zlen3 | exact zlen4 | exact zl_l | (unfold scF; omega) | (unfold scR; omega) | (simp only [zS_uf1, zS_uf2, zS_ur1, zS_ur2, Nat.reduceEqDiff, reduceIte, and_false, false_and, and_true, true_and, ite_true, ite_false]; done) | exact zl_n) only [Int.reduceToNat, Nat.reduceAdd, Nat.reduceMul, List.length_nil, List.length_cons, Nat.reduceLeDiff, Nat.zero_le, Option.toList_some, Option.toList_none, List.cons_append, List.nil_append, PW_nil, PW_goto, zl_i, zl_r, zl_n, PW_k0, PW_istore_2, PW_iload_2, PW_aload_0, PW_g128, PW_ic_ge, PW_aload_1, PW_iar21, PW_ia33, PW_istore_3, PW_iload_3, PW_km1, PW_ic_eq, PW_if_lt, PW_g129, PW_g131, PW_aa21, PW_if_eq, PW_g133, PW_ret_z zret_34, PX_c22, PW_iinc_2_p1, PW_k1, zb_34_2, zb_34_3, zb_34_4, zb_34_5, PK_app, n_l0, n_l1, n_l2, n_l3, n_l4, n_l5, n_l8, n_l9, n_l10, n_l15, n_l20, n_l31, n_l40, n_l48, n_l57, n_l59, n_l60, n_l70, n_l99, n_l100, n_l255, n_l601, n_l602, n_l1024, n_l1500, n_l2100, n_l2101, n_l65535, n_l100000, n_l1000000, n_l100000000, i_lt, nI_clamp, nI_leI, nI_eq, nI_1, nI_add, pk_mul, pk_sub, n_in, n_negle, n_legne, n_eqneg, n_negeq, n_nn, n_bit, n_shl1, n_or, zb_e0, zb_e1, zb_r, n_em, zb_T, zb_F, zS_uf1, zS_uf2, zS_ur1, zS_ur2, zS_ur3, zS_ul1, zS_ul2, zS_ul3, z_if0, z_if1, Int.reduceEq, Nat.reduceOr, Nat.or_zero, Nat.zero_or, Bool.false_eq_true, reduceCtorEq, nar0, nar1, nar_zb, eq_self, true_and, and_true, false_and, and_false, or_true, true_or, or_false, false_or, not_true_eq_false, not_false_eq_true, Classical.not_not, true_implies, false_implies, implies_true, iff_true, iff_self, ite_true, ite_false, Nat.reduceEqDiff, Nat.reduceLT, Nat.reduceSub, Nat.add_sub_cancel, Nat.reduceLeDiff, reduceIte, ne_eq, Nat.not_le, PW_ia72, h0, h1, Nat.not_le.mpr hin, hxi, c, c2]
            exact hb
  have := key np 0 (Nat.zero_add np) (fun p hp => absurd hp (Nat.not_lt_zero p)) none
  rw [r32_0, r33_0] at this
  exact this
end AC
