/-! the calm one: the reference -/
theorem n_sbneg2 {a b : Nat} (h : a < b) (hb : b < 1000) : (nI a - nI b ≤ nI 0) = True ∧ (nI a - nI b = nI 0) = False := by
  rw [iI_n, iI_n, iI_n, iI_sub, iI_le (by omega) (by omega), iI_eq (by omega) (by omega)]
  exact ⟨eq_true (by omega), eq_false (by omega)⟩
section MW
variable {sc : zX} {σ : zS} {Q : Option Value → zS → Prop}
theorem mays_w {nv np nl : Nat} (hV : RV σ nv) (hP : RP σ np) (hD : RD σ) (hL : RLo σ nv np nl) (hQ : ∀ f, (∀ p v, p < np → v < nv → f (10 * p + v) = zb (mayH σ nl p v)) → Q none (zur σ 100 f)) : PC sc 164 [.ref 12] σ Q := by
  have p1 := hP.1
  have p3 := hP.2.2.1
  have v1 := hV.1
  have v3 := hV.2.2.1
  have hm : ∀ f i j, i < np → j < nv → ∀ Q, PC sc 159 [.ref 12, .int (nI i), .int (nI j)] (zur σ 100 f) Q ↔ Q (some (.int (zb (mayH σ nl i j)))) (zur σ 100 f) := fun f i j hi hj Q => sp_mayHave12 (sc := sc) (σ := zur σ 100 f) (Q := Q) (p := i) (v := j) ((RV_ur (by unfold VR; omega)).mpr hV) ((RD_ur (by unfold DR; omega)).mpr hD) ((RLo_ur (by unfold LR; omega)).mpr hL) (by omega) (by omega)
  have key : ∀ e i, i + e = np → ∀ f, (∀ p v, p < i → v < nv → f (10 * p + v) = zb (mayH σ nl p v)) → ∀ a, PW sc 164 (zblk 164 1) 2 [some (.ref 12), some (.int (nI i)), a] [] (zur σ 100 f) Q := by
    intro e
    induction e with
    | zero =>
      intro i hi f P a
      rw [show i = np by omega] at P ⊢
      rw [zb_164_1]
      simp (disch := first | exact zl_i | exact zl_r | exact zl_n | omega | exact zlen0 | exact zlen1 | exact zlen2 | exact zlen3 | exact zlen4 | exact zl_l | (unfold scF; omega) | (unfold scR; omega) | (simp only [zS_uf1, zS_uf2, zS_ur1, zS_ur2, Nat.reduceEqDiff, reduceIte, and_false, false_and, and_true, true_and, ite_true, ite_false]; done) | exact zl_n) only [Int.reduceToNat, Nat.reduceAdd, Nat.reduceMul, List.length_nil, List.length_cons, Nat.reduceLeDiff, Nat.zero_le, Option.toList_some, Option.toList_none, List.cons_append, List.nil_append, PW_nil, PW_goto, zl_i, zl_r, zl_n, PW_k0, PW_istore_1, PW_iload_1, PW_aload_0, PW_g774, PW_ic_ge, PW_istore_2, PW_iload_2, PW_g770, PW_g779, PW_k10, PW_imul, PW_iadd, PX_c159, PW_bs100, PW_iinc_2_p1, PW_iinc_1_p1, PW_ret_v zret_164, zb_164_3, zb_164_4, PK_app, n_l0, n_l1, n_l2, n_l3, n_l4, n_l5, n_l8, n_l9, n_l10, n_l15, n_l20, n_l31, n_l40, n_l48, n_l57, n_l59, n_l60, n_l70, n_l99, n_l100, n_l255, n_l601, n_l602, n_l1024, n_l1500, n_l2100, n_l2101, n_l65535, n_l100000, n_l1000000, n_l100000000, i_lt, nI_clamp, nI_leI, nI_eq, nI_1, nI_add, pk_mul, pk_sub, n_in, n_negle, n_legne, n_eqneg, n_negeq, n_nn, n_bit, n_shl1, n_or, zb_e0, zb_e1, zb_r, n_em, zb_T, zb_F, zS_uf1, zS_uf2, zS_ur1, zS_ur2, zS_ur3, zS_ul1, zS_ul2, zS_ul3, z_if0, z_if1, Int.reduceEq, Nat.reduceOr, Nat.or_zero, Nat.zero_or, Bool.false_eq_true, reduceCtorEq, nar0, nar1, nar_zb, eq_self, true_and, and_true, false_and, and_false, or_true, true_or, or_false, false_or, not_true_eq_false, not_false_eq_true, Classical.not_not, true_implies, false_implies, implies_true, iff_true, iff_self, ite_true, ite_false, Nat.reduceEqDiff, Nat.reduceLT, Nat.reduceSub, Nat.add_sub_cancel, Nat.reduceLeDiff, reduceIte, ne_eq, Nat.not_le, p3, Nat.le_refl]
      exact hQ f P
    | succ e ih =>
      intro i hi f P a
      have hin : i < np := by omega
      have key2 : ∀ d j, j + d = nv → ∀ f, (∀ p v, v < nv → (p < i ∨ (p = i ∧ v < j)) → f (10 * p + v) = zb (mayH σ nl p v)) → PW sc 164 (zblk 164 2) 3 [some (.ref 12), some (.int (nI i)), some (.int (nI j))] [] (zur σ 100 f) Q := by
        intro d
        induction d with
        | zero =>
          intro j hj f P
          rw [show j = nv by omega] at P ⊢
          rw [zb_164_2]
          simp (disch := first | exact zl_i | exact zl_r | exact zl_n | omega | exact zlen0 | exact zlen1 | exact zlen2 | exact zlen3 | exact zlen4 | exact zl_l | (unfold scF; omega) | (unfold scR; omega) | (simp only [zS_uf1, zS_uf2, zS_ur1, zS_ur2, Nat.reduceEqDiff, reduceIte, and_false, false_and, and_true, true_and, ite_true, ite_false]; done) | exact zl_n) only [Int.reduceToNat, Nat.reduceAdd, Nat.reduceMul, List.length_nil, List.length_cons, Nat.reduceLeDiff, Nat.zero_le, Option.toList_some, Option.toList_none, List.cons_append, List.nil_append, PW_nil, PW_goto, zl_i, zl_r, zl_n, PW_k0, PW_istore_1, PW_iload_1, PW_aload_0, PW_g774, PW_ic_ge, PW_istore_2, PW_iload_2, PW_g770, PW_g779, PW_k10, PW_imul, PW_iadd, PX_c159, PW_bs100, PW_iinc_2_p1, PW_iinc_1_p1, PW_ret_v zret_164, zb_164_3, zb_164_4, PK_app, n_l0, n_l1, n_l2, n_l3, n_l4, n_l5, n_l8, n_l9, n_l10, n_l15, n_l20, n_l31, n_l40, n_l48, n_l57, n_l59, n_l60, n_l70, n_l99, n_l100, n_l255, n_l601, n_l602, n_l1024, n_l1500, n_l2100, n_l2101, n_l65535, n_l100000, n_l1000000, n_l100000000, i_lt, nI_clamp, nI_leI, nI_eq, nI_1, nI_add, pk_mul, pk_sub, n_in, n_negle, n_legne, n_eqneg, n_negeq, n_nn, n_bit, n_shl1, n_or, zb_e0, zb_e1, zb_r, n_em, zb_T, zb_F, zS_uf1, zS_uf2, zS_ur1, zS_ur2, zS_ur3, zS_ul1, zS_ul2, zS_ul3, z_if0, z_if1, Int.reduceEq, Nat.reduceOr, Nat.or_zero, Nat.zero_or, Bool.false_eq_true, reduceCtorEq, nar0, nar1, nar_zb, eq_self, true_and, and_true, false_and, and_false, or_true, true_or, or_false, false_or, not_true_eq_false, not_false_eq_true, Classical.not_not, true_implies, false_implies, implies_true, iff_true, iff_self, ite_true, ite_false, Nat.reduceEqDiff, Nat.reduceLT, Nat.reduceSub, Nat.add_sub_cancel, Nat.reduceLeDiff, reduceIte, ne_eq, Nat.not_le, v3, Nat.le_refl]
          exact ih (i + 1) (by omega) f (fun p v hp hv => P p v hv (by omega)) _
        | succ d ihd =>
          intro j hj f P
          have hjn : j < nv := by omega
          have m := hm f i j hin hjn
          rw [zb_164_2]
          simp (disch := first | exact zl_i | exact zl_r | exact zl_n | omega | exact zlen0 | exact zlen1 | exact zlen2 | exact zlen3 | exact zlen4 | exact zl_l | (unfold scF; omega) | (unfold scR; omega) | (simp only [zS_uf1, zS_uf2, zS_ur1, zS_ur2, Nat.reduceEqDiff, reduceIte, and_false, false_and, and_true, true_and, ite_true, ite_false]; done) | exact zl_n) only [Int.reduceToNat, Nat.reduceAdd, Nat.reduceMul, List.length_nil, List.length_cons, Nat.reduceLeDiff, Nat.zero_le, Option.toList_some, Option.toList_none, List.cons_append, List.nil_append, PW_nil, PW_goto, zl_i, zl_r, zl_n, PW_k0, PW_istore_1, PW_iload_1, PW_aload_0, PW_g774, PW_ic_ge, PW_istore_2, PW_iload_2, PW_g770, PW_g779, PW_k10, PW_imul, PW_iadd, PX_c159, PW_bs100, PW_iinc_2_p1, PW_iinc_1_p1, PW_ret_v zret_164, zb_164_3, zb_164_4, PK_app, n_l0, n_l1, n_l2, n_l3, n_l4, n_l5, n_l8, n_l9, n_l10, n_l15, n_l20, n_l31, n_l40, n_l48, n_l57, n_l59, n_l60, n_l70, n_l99, n_l100, n_l255, n_l601, n_l602, n_l1024, n_l1500, n_l2100, n_l2101, n_l65535, n_l100000, n_l1000000, n_l100000000, i_lt, nI_clamp, nI_leI, nI_eq, nI_1, nI_add, pk_mul, pk_sub, n_in, n_negle, n_legne, n_eqneg, n_negeq, n_nn, n_bit, n_shl1, n_or, zb_e0, zb_e1, zb_r, n_em, zb_T, zb_F, zS_uf1, zS_uf2, zS_ur1, zS_ur2, zS_ur3, zS_ul1, zS_ul2, zS_ul3, z_if0, z_if1, Int.reduceEq, Nat.reduceOr, Nat.or_zero, Nat.zero_or, Bool.false_eq_true, reduceCtorEq, nar0, nar1, nar_zb, eq_self, true_and, and_true, false_and, and_false, or_true, true_or, or_false, false_or, not_true_eq_false, not_false_eq_true, Classical.not_not, true_implies, false_implies, implies_true, iff_true, iff_self, ite_true, ite_false, Nat.reduceEqDiff, Nat.reduceLT, Nat.reduceSub, Nat.add_sub_cancel, Nat.reduceLeDiff, reduceIte, ne_eq, Nat.not_le, v3, Nat.not_le.mpr hjn, m, PK_app, zur_same]
          refine ihd (j + 1) (by omega) _ (fun p v hv hc => ?_)
          by_cases z : p = i ∧ v = j
          · rw [z.1, z.2, pk_us]
          · rw [pk_un (by omega)]
            exact P p v hv (by omega)
      rw [zb_164_1]
      simp (disch := first | exact zl_i | exact zl_r | exact zl_n | omega | exact zlen0 | exact zlen1 | exact zlen2 | exact zlen3 | exact zlen4 | exact zl_l | (unfold scF; omega) | (unfold scR; omega) | (simp only [zS_uf1, zS_uf2, zS_ur1, zS_ur2, Nat.reduceEqDiff, reduceIte, and_false, false_and, and_true, true_and, ite_true, ite_false]; done) | exact zl_n) only [Int.reduceToNat, Nat.reduceAdd, Nat.reduceMul, List.length_nil, List.length_cons, Nat.reduceLeDiff, Nat.zero_le, Option.toList_some, Option.toList_none, List.cons_append, List.nil_append, PW_nil, PW_goto, zl_i, zl_r, zl_n, PW_k0, PW_istore_1, PW_iload_1, PW_aload_0, PW_g774, PW_ic_ge, PW_istore_2, PW_iload_2, PW_g770, PW_g779, PW_k10, PW_imul, PW_iadd, PX_c159, PW_bs100, PW_iinc_2_p1, PW_iinc_1_p1, PW_ret_v zret_164, zb_164_3, zb_164_4, PK_app, n_l0, n_l1, n_l2, n_l3, n_l4, n_l5, n_l8, n_l9, n_l10, n_l15, n_l20, n_l31, n_l40, n_l48, n_l57, n_l59, n_l60, n_l70, n_l99, n_l100, n_l255, n_l601, n_l602, n_l1024, n_l1500, n_l2100, n_l2101, n_l65535, n_l100000, n_l1000000, n_l100000000, i_lt, nI_clamp, nI_leI, nI_eq, nI_1, nI_add, pk_mul, pk_sub, n_in, n_negle, n_legne, n_eqneg, n_negeq, n_nn, n_bit, n_shl1, n_or, zb_e0, zb_e1, zb_r, n_em, zb_T, zb_F, zS_uf1, zS_uf2, zS_ur1, zS_ur2, zS_ur3, zS_ul1, zS_ul2, zS_ul3, z_if0, z_if1, Int.reduceEq, Nat.reduceOr, Nat.or_zero, Nat.zero_or, Bool.false_eq_true, reduceCtorEq, nar0, nar1, nar_zb, eq_self, true_and, and_true, false_and, and_false, or_true, true_or, or_false, false_or, not_true_eq_false, not_false_eq_true, Classical.not_not, true_implies, false_implies, implies_true, iff_true, iff_self, ite_true, ite_false, Nat.reduceEqDiff, Nat.reduceLT, Nat.reduceSub, Nat.add_sub_cancel, Nat.reduceLeDiff, reduceIte, ne_eq, Nat.not_le, p3, Nat.not_le.mpr hin]
      exact key2 nv 0 (Nat.zero_add nv) f (fun p v hv hc => P p v (by omega) hv)
  rw [PC_164, zb_164_0]
  simp (disch := first | exact zl_i | exact zl_r | exact zl_n | omega | exact zlen0 | exact zlen1 | exact zlen2 | exact zlen3 | exact zlen4 | exact zl_l | (unfold scF; omega) | (unfold scR; omega) | (simp only [zS_uf1, zS_uf2, zS_ur1, zS_ur2, Nat.reduceEqDiff, reduceIte, and_false, false_and, and_true, true_and, ite_true, ite_false]; done) | exact zl_n) only [Int.reduceToNat, Nat.reduceAdd, Nat.reduceMul, List.length_nil, List.length_cons, Nat.reduceLeDiff, Nat.zero_le, Option.toList_some, Option.toList_none, List.cons_append, List.nil_append, PW_nil, PW_goto, zl_i, zl_r, zl_n, PW_k0, PW_istore_1, PW_iload_1, PW_aload_0, PW_g774, PW_ic_ge, PW_istore_2, PW_iload_2, PW_g770, PW_g779, PW_k10, PW_imul, PW_iadd, PX_c159, PW_bs100, PW_iinc_2_p1, PW_iinc_1_p1, PW_ret_v zret_164, zb_164_3, zb_164_4, PK_app, n_l0, n_l1, n_l2, n_l3, n_l4, n_l5, n_l8, n_l9, n_l10, n_l15, n_l20, n_l31, n_l40, n_l48, n_l57, n_l59, n_l60, n_l70, n_l99, n_l100, n_l255, n_l601, n_l602, n_l1024, n_l1500, n_l2100, n_l2101, n_l65535, n_l100000, n_l1000000, n_l100000000, i_lt, nI_clamp, nI_leI, nI_eq, nI_1, nI_add, pk_mul, pk_sub, n_in, n_negle, n_legne, n_eqneg, n_negeq, n_nn, n_bit, n_shl1, n_or, zb_e0, zb_e1, zb_r, n_em, zb_T, zb_F, zS_uf1, zS_uf2, zS_ur1, zS_ur2, zS_ur3, zS_ul1, zS_ul2, zS_ul3, z_if0, z_if1, Int.reduceEq, Nat.reduceOr, Nat.or_zero, Nat.zero_or, Bool.false_eq_true, reduceCtorEq, nar0, nar1, nar_zb, eq_self, true_and, and_true, false_and, and_false, or_true, true_or, or_false, false_or, not_true_eq_false, not_false_eq_true, Classical.not_not, true_implies, false_implies, implies_true, iff_true, iff_self, ite_true, ite_false, Nat.reduceEqDiff, Nat.reduceLT, Nat.reduceSub, Nat.add_sub_cancel, Nat.reduceLeDiff, reduceIte, ne_eq, Nat.not_le]
  have e := key np 0 (Nat.zero_add np) (σ.2.1 100) (fun p v hp => absurd hp (Nat.not_lt_zero p)) none
  rw [zur_id] at e
  exact e
end MW
/-- what the reference knows once it has found who may -/
def rfF (S : zS) (np nv : Nat) (t : Nat → Nat → Nat) (rk : Nat → Nat) : Prop := S.1 12 6 = nI np ∧ S.1 12 2 = nI nv ∧ (∀ p, p < np → S.2.1 96 p = nI (rk p) ∧ rk p ≤ 99) ∧ (∀ p, p < np → ∀ v, v < nv → S.2.1 100 (10 * p + v) = zb (0 < t p v) ∧ (0 < t p v → S.2.1 97 (10 * p + v) = nI (t p v)) ∧ t p v ≤ 99)
def rcI (np nv : Nat) (t : Nat → Nat → Nat) (rk : Nat → Nat) (A : Nat → Prop) (L : Nat → Nat) (a kp le : Nat → Int32) : Prop :=
  (∀ p v, p < np → v < nv → a (10 * p + v) = zb (A (10 * p + v))) ∧ (∀ p v, p < np → v < nv → A (10 * p + v) → 0 < t p v) ∧ (∀ p v u, p < np → v < nv → u < nv → A (10 * p + v) → 0 < t p u → cm_bt t p u v → A (10 * p + u)) ∧
  (∀ p v, p < np → v < nv → A (10 * p + v) → ∃ q, q < np ∧ L q = v ∧ (q = p ∨ cm_ah rk q p)) ∧ bl_ok np nv t L ∧ (∀ p, p < np → L p ≠ 10 → A (10 * p + L p)) ∧ (∀ p, p < np → le p = vo (-nI 9) (L p)) ∧
  (∀ v, v < nv → (kp v = -nI 9 ∧ ∀ p, p < np → L p ≠ v) ∨ ∃ q, q < np ∧ kp v = nI q ∧ L q = v)
section RC2
variable {np nv : Nat} {t : Nat → Nat → Nat} {rk L : Nat → Nat} {A : Nat → Prop} {a kp le : Nat → Int32}
/-- what asking alone changes -/
theorem rc_ask {p v : Nat} (hnv : nv ≤ 10) (h : rcI np nv t rk A L a kp le) (hp : p < np) (hb : bsl (fun v => 0 < t p v ∧ ¬ A (10 * p + v)) (t p) nv = some v) :
    (∀ q u, q < np → u < nv → upd a (10 * p + v) (nI 1) (10 * q + u) = zb (10 * q + u = 10 * p + v ∨ A (10 * q + u))) ∧ (∀ q u, q < np → u < nv → (10 * q + u = 10 * p + v ∨ A (10 * q + u)) → 0 < t q u) ∧ (∀ q u w, q < np → u < nv → w < nv → (10 * q + u = 10 * p + v ∨ A (10 * q + u)) → 0 < t q w → cm_bt t q w u → (10 * q + w = 10 * p + v ∨ A (10 * q + w))) := by
  obtain ⟨h1, h2, h3, -⟩ := h
  obtain ⟨b1, ⟨b2, b3⟩, b4⟩ := bsl_s hb
  refine ⟨fun q u hq hu => ?_, fun q u hq hu z => ?_, fun q u w hq hu hw z ht hc => ?_⟩
  · by_cases e : 10 * q + u = 10 * p + v
    · rw [e, pk_us, zb_t (Or.inl rfl)]
      exact rfl
    · rw [pk_un e, h1 q u hq hu]
      exact zb_congr ⟨Or.inr, fun z => z.elim (fun w => absurd w e) id⟩
  · rcases z with z | z
    · have e1 : q = p := by omega
      have e2 : u = v := by omega
      rw [e1, e2]; exact b2
    · exact h2 q u hq hu z
  · rcases z with z | z
    · have e1 : q = p := by omega
      have e2 : u = v := by omega
      subst e1
      subst e2
      by_cases y : A (10 * q + w)
      · exact Or.inr y
      · exfalso
        have ne : w ≠ u := fun x => by
          rw [x] at hc
          unfold cm_bt at hc
          omega
        have := b4 w hw ⟨ht, y⟩ ne
        unfold cm_bt at hc
        omega
    · exact Or.inr (h3 q u w hq hu hw z ht hc)
theorem rc_rej {p v q : Nat} (hnv : nv ≤ 10) (h : rcI np nv t rk A L a kp le) (hp : p < np) (hb : bsl (fun v => 0 < t p v ∧ ¬ A (10 * p + v)) (t p) nv = some v) (hq : q < np) (hl : L q = v) (ha : cm_ah rk q p) : rcI np nv t rk (fun y => y = 10 * p + v ∨ A y) L (upd a (10 * p + v) (nI 1)) kp le := by
  obtain ⟨a1, a2, a3⟩ := rc_ask hnv h hp hb
  obtain ⟨h1, h2, h3, h4, h5, h6, h7, h8⟩ := h
  refine ⟨a1, a2, a3, fun r u hr hu z => ?_, h5, fun r hr n => Or.inr (h6 r hr n), h7, h8⟩
  rcases z with z | z
  · have b1 := (bsl_s hb).1
    have e1 : r = p := by omega
    have e2 : u = v := by omega
    rw [e1, e2]
    exact ⟨q, hq, hl, Or.inr ha⟩
  · exact h4 r u hr hu z
theorem rc_get {p v : Nat} {le' : Nat → Int32} (hnp : np ≤ 10) (hnv : nv ≤ 10) (h : rcI np nv t rk A L a kp le) (hp : p < np) (hb : bsl (fun v => 0 < t p v ∧ ¬ A (10 * p + v)) (t p) nv = some v) (lp : L p = 10) (ha : ∀ q, q < np → L q = v → cm_ah rk p q) (hle : ∀ r, r < np → le' r = vo (-nI 9) (if r = p then v else if L r = v then 10 else L r)) :
    rcI np nv t rk (fun y => y = 10 * p + v ∨ A y) (fun r => if r = p then v else if L r = v then 10 else L r) (upd a (10 * p + v) (nI 1)) (upd kp v (nI p)) le' := by
  obtain ⟨a1, a2, a3⟩ := rc_ask hnv h hp hb
  obtain ⟨h1, h2, h3, h4, h5, h6, h7, h8⟩ := h
  obtain ⟨b1, ⟨b2, b3⟩, b4⟩ := bsl_s hb
  have Lp : (if p = p then v else if L p = v then 10 else L p) = v := if_pos rfl
  have Lk : ∀ q u, L q = u → u < nv → u ≠ v → (if q = p then v else if L q = v then 10 else L q) = u := fun q u e hu ne => by
    have z : q ≠ p := fun z => by rw [z, lp] at e; omega
    rw [if_neg z, if_neg (fun w => ne (e.symm.trans w))]
    exact e
  refine ⟨a1, a2, a3, fun r u hr hu z => ?_, ⟨fun r hr => ?_, fun r q hr hq ne n10 e => ?_⟩, fun r hr n => ?_, hle, fun u hu => ?_⟩
  · rcases z with z | z
    · have e1 : r = p := by omega
      have e2 : u = v := by omega
      rw [e1, e2]
      exact ⟨p, hp, Lp, Or.inl rfl⟩
    · obtain ⟨q, q1, q2, q3⟩ := h4 r u hr hu z
      by_cases y : u = v
      · subst y
        have k := ha q q1 q2
        refine ⟨p, hp, Lp, Or.inr ?_⟩
        rcases q3 with q3 | q3
        · rw [← q3]; exact k
        · exact cm_tr k q3
      · exact ⟨q, q1, Lk q u q2 hu y, q3⟩
  · show (if r = p then v else if L r = v then 10 else L r) = 10 ∨ ((if r = p then v else if L r = v then 10 else L r) < nv ∧ 0 < t r (if r = p then v else if L r = v then 10 else L r))
    by_cases z : r = p
    · subst z
      rw [if_pos rfl]
      exact Or.inr ⟨b1, b2⟩
    · rw [if_neg z]
      by_cases y : L r = v
      · rw [if_pos y]; exact Or.inl rfl
      · rw [if_neg y]
        exact h5.1 r hr
  · have e' : (if r = p then v else if L r = v then 10 else L r) = (if q = p then v else if L q = v then 10 else L q) := e
    have n' : (if r = p then v else if L r = v then 10 else L r) ≠ 10 := n10
    by_cases z : r = p
    · rw [if_pos z, if_neg (fun w => ne (z.trans w.symm))] at e'
      by_cases y : L q = v
      · rw [if_pos y] at e'; omega
      · rw [if_neg y] at e'; exact y e'.symm
    · rw [if_neg z] at e' n'
      by_cases x : L r = v
      · rw [if_pos x] at n'; exact n' rfl
      · rw [if_neg x] at e' n'
        by_cases y : q = p
        · rw [if_pos y] at e'; exact x e'
        · rw [if_neg y] at e'
          by_cases w : L q = v
          · rw [if_pos w] at e'; exact n' e'
          · rw [if_neg w] at e'
            exact h5.2 r q hr hq ne n' e'
  · have n' : (if r = p then v else if L r = v then 10 else L r) ≠ 10 := n
    show 10 * r + (if r = p then v else if L r = v then 10 else L r) = 10 * p + v ∨ A (10 * r + (if r = p then v else if L r = v then 10 else L r))
    by_cases z : r = p
    · rw [if_pos z, z]; exact Or.inl rfl
    · rw [if_neg z] at n' ⊢
      by_cases y : L r = v
      · rw [if_pos y] at n'; exact absurd rfl n'
      · rw [if_neg y] at n' ⊢
        exact Or.inr (h6 r hr n')
  · by_cases z : u = v
    · subst z
      exact Or.inr ⟨p, hp, pk_us, Lp⟩
    · rcases h8 u hu with y | ⟨q, q1, q2, q3⟩
      · refine Or.inl ⟨by rw [pk_un z]; exact y.1, fun q hq => ?_⟩
        show (if q = p then v else if L q = v then 10 else L q) ≠ u
        by_cases w : q = p
        · rw [if_pos w]; exact fun x => z x.symm
        · rw [if_neg w]
          by_cases x : L q = v
          · rw [if_pos x]; omega
          · rw [if_neg x]; exact y.2 q hq
      · exact Or.inr ⟨q, q1, by rw [pk_un z]; exact q2, Lk q u q3 hu z⟩
theorem rc_end (hnv : nv ≤ 10) (h : rcI np nv t rk A L a kp le) (hq : ∀ p, p < np → L p ≠ 10 ∨ ∀ v, v < nv → 0 < t p v → A (10 * p + v)) : cm_calm np nv t rk L := by
  obtain ⟨h1, h2, h3, h4, h5, h6, h7, h8⟩ := h
  refine ⟨h5, fun p v hp hv ht hc => ?_⟩
  have hA : A (10 * p + v) ∧ L p ≠ v := by
    by_cases z : L p = 10
    · rcases hq p hp with w | w
      · exact absurd z w
      · exact ⟨w v hv ht, by omega⟩
    · rcases h5.1 p hp with w | w
      · exact absurd w z
      · have hb : cm_bt t p v (L p) := hc.elim (fun x => absurd x z) id
        refine ⟨h3 p (L p) v hp w.1 hv (h6 p hp z) ht hb, fun x => ?_⟩
        rw [x] at hb
        unfold cm_bt at hb
        omega
  obtain ⟨q, q1, q2, q3⟩ := h4 p v hp hv hA.1
  refine ⟨q, q1, q2, q3.elim (fun x => ?_) id⟩
  rw [x] at q2
  exact absurd q2 hA.2
end RC2
section NX
variable {sc : zX} {σ : zS} {Q : Option Value → zS → Prop}
theorem sp_likes {p v k a b : Nat} (hp : p < 10) (hv : v < 10) (hk : k < 10) (ha : σ.2.1 97 (10 * p + v) = nI a) (hb : σ.2.1 97 (10 * p + k) = nI b) (a9 : a ≤ 99) (b9 : b ≤ 99) (hkv : k < v) : PC sc 168 [.ref 12, .int (nI p), .int (nI v), .int (nI k)] σ Q ↔ Q (some (.int (zb (b < a)))) σ := by
  rw [PC_168, zb_168_0]
  rcases Nat.lt_trichotomy a b with l | l | l
  · obtain ⟨s1, s2⟩ := n_sbneg2 l (by omega)
    rw [zb_f (show ¬ b < a by omega)]
    simp (disch := first | exact zl_i | exact zl_r | exact zl_n | omega | exact zlen0 | exact zlen1 | exact zlen2 | exact zlen3 | exact zlen4 | exact zl_l | (unfold scF; omega) | (unfold scR; omega) | (simp only [zS_uf1, zS_uf2, zS_ur1, zS_ur2, Nat.reduceEqDiff, reduceIte, and_false, false_and, and_true, true_and, ite_true, ite_false]; done) | exact zl_n) only [Int.reduceToNat, Nat.reduceAdd, Nat.reduceMul, List.length_nil, List.length_cons, Nat.reduceLeDiff, Nat.zero_le, Option.toList_some, Option.toList_none, List.cons_append, List.nil_append, PW_nil, PW_goto, zl_i, zl_r, zl_n, PW_aload_0, PW_g776, PW_k10, PW_iload_1, PW_imul, PW_iload_2, PW_iadd, PW_ia97, PW_iload_3, PW_isub, PW_istore_4, PW_iload_4, PW_if_gt, PW_if_ne, PW_ic_ge, PW_k1, PW_k0, PW_ret_z zret_168, zb_168_1, zb_168_2, zb_168_3, PK_app, n_l0, n_l1, n_l2, n_l3, n_l4, n_l5, n_l8, n_l9, n_l10, n_l15, n_l20, n_l31, n_l40, n_l48, n_l57, n_l59, n_l60, n_l70, n_l99, n_l100, n_l255, n_l601, n_l602, n_l1024, n_l1500, n_l2100, n_l2101, n_l65535, n_l100000, n_l1000000, n_l100000000, i_lt, nI_clamp, nI_leI, nI_eq, nI_1, nI_add, pk_mul, pk_sub, n_in, n_negle, n_legne, n_eqneg, n_negeq, n_nn, n_bit, n_shl1, n_or, zb_e0, zb_e1, zb_r, n_em, zb_T, zb_F, zS_uf1, zS_uf2, zS_ur1, zS_ur2, zS_ur3, zS_ul1, zS_ul2, zS_ul3, z_if0, z_if1, Int.reduceEq, Nat.reduceOr, Nat.or_zero, Nat.zero_or, Bool.false_eq_true, reduceCtorEq, nar0, nar1, nar_zb, eq_self, true_and, and_true, false_and, and_false, or_true, true_or, or_false, false_or, not_true_eq_false, not_false_eq_true, Classical.not_not, true_implies, false_implies, implies_true, iff_true, iff_self, ite_true, ite_false, Nat.reduceEqDiff, Nat.reduceLT, Nat.reduceSub, Nat.add_sub_cancel, Nat.reduceLeDiff, reduceIte, ne_eq, Nat.not_le, ha, hb, s1, s2]
  · subst l
    rw [zb_f (show ¬ a < a by omega)]
    simp (disch := first | exact zl_i | exact zl_r | exact zl_n | omega | exact zlen0 | exact zlen1 | exact zlen2 | exact zlen3 | exact zlen4 | exact zl_l | (unfold scF; omega) | (unfold scR; omega) | (simp only [zS_uf1, zS_uf2, zS_ur1, zS_ur2, Nat.reduceEqDiff, reduceIte, and_false, false_and, and_true, true_and, ite_true, ite_false]; done) | exact zl_n) only [Int.reduceToNat, Nat.reduceAdd, Nat.reduceMul, List.length_nil, List.length_cons, Nat.reduceLeDiff, Nat.zero_le, Option.toList_some, Option.toList_none, List.cons_append, List.nil_append, PW_nil, PW_goto, zl_i, zl_r, zl_n, PW_aload_0, PW_g776, PW_k10, PW_iload_1, PW_imul, PW_iload_2, PW_iadd, PW_ia97, PW_iload_3, PW_isub, PW_istore_4, PW_iload_4, PW_if_gt, PW_if_ne, PW_ic_ge, PW_k1, PW_k0, PW_ret_z zret_168, zb_168_1, zb_168_2, zb_168_3, PK_app, n_l0, n_l1, n_l2, n_l3, n_l4, n_l5, n_l8, n_l9, n_l10, n_l15, n_l20, n_l31, n_l40, n_l48, n_l57, n_l59, n_l60, n_l70, n_l99, n_l100, n_l255, n_l601, n_l602, n_l1024, n_l1500, n_l2100, n_l2101, n_l65535, n_l100000, n_l1000000, n_l100000000, i_lt, nI_clamp, nI_leI, nI_eq, nI_1, nI_add, pk_mul, pk_sub, n_in, n_negle, n_legne, n_eqneg, n_negeq, n_nn, n_bit, n_shl1, n_or, zb_e0, zb_e1, zb_r, n_em, zb_T, zb_F, zS_uf1, zS_uf2, zS_ur1, zS_ur2, zS_ur3, zS_ul1, zS_ul2, zS_ul3, z_if0, z_if1, Int.reduceEq, Nat.reduceOr, Nat.or_zero, Nat.zero_or, Bool.false_eq_true, reduceCtorEq, nar0, nar1, nar_zb, eq_self, true_and, and_true, false_and, and_false, or_true, true_or, or_false, false_or, not_true_eq_false, not_false_eq_true, Classical.not_not, true_implies, false_implies, implies_true, iff_true, iff_self, ite_true, ite_false, Nat.reduceEqDiff, Nat.reduceLT, Nat.reduceSub, Nat.add_sub_cancel, Nat.reduceLeDiff, reduceIte, ne_eq, Nat.not_le, ha, hb, Nat.le_refl, Nat.sub_self, show k ≤ v by omega]
  · rw [zb_t l]
    simp (disch := first | exact zl_i | exact zl_r | exact zl_n | omega | exact zlen0 | exact zlen1 | exact zlen2 | exact zlen3 | exact zlen4 | exact zl_l | (unfold scF; omega) | (unfold scR; omega) | (simp only [zS_uf1, zS_uf2, zS_ur1, zS_ur2, Nat.reduceEqDiff, reduceIte, and_false, false_and, and_true, true_and, ite_true, ite_false]; done) | exact zl_n) only [Int.reduceToNat, Nat.reduceAdd, Nat.reduceMul, List.length_nil, List.length_cons, Nat.reduceLeDiff, Nat.zero_le, Option.toList_some, Option.toList_none, List.cons_append, List.nil_append, PW_nil, PW_goto, zl_i, zl_r, zl_n, PW_aload_0, PW_g776, PW_k10, PW_iload_1, PW_imul, PW_iload_2, PW_iadd, PW_ia97, PW_iload_3, PW_isub, PW_istore_4, PW_iload_4, PW_if_gt, PW_if_ne, PW_ic_ge, PW_k1, PW_k0, PW_ret_z zret_168, zb_168_1, zb_168_2, zb_168_3, PK_app, n_l0, n_l1, n_l2, n_l3, n_l4, n_l5, n_l8, n_l9, n_l10, n_l15, n_l20, n_l31, n_l40, n_l48, n_l57, n_l59, n_l60, n_l70, n_l99, n_l100, n_l255, n_l601, n_l602, n_l1024, n_l1500, n_l2100, n_l2101, n_l65535, n_l100000, n_l1000000, n_l100000000, i_lt, nI_clamp, nI_leI, nI_eq, nI_1, nI_add, pk_mul, pk_sub, n_in, n_negle, n_legne, n_eqneg, n_negeq, n_nn, n_bit, n_shl1, n_or, zb_e0, zb_e1, zb_r, n_em, zb_T, zb_F, zS_uf1, zS_uf2, zS_ur1, zS_ur2, zS_ur3, zS_ul1, zS_ul2, zS_ul3, z_if0, z_if1, Int.reduceEq, Nat.reduceOr, Nat.or_zero, Nat.zero_or, Bool.false_eq_true, reduceCtorEq, nar0, nar1, nar_zb, eq_self, true_and, and_true, false_and, and_false, or_true, true_or, or_false, false_or, not_true_eq_false, not_false_eq_true, Classical.not_not, true_implies, false_implies, implies_true, iff_true, iff_self, ite_true, ite_false, Nat.reduceEqDiff, Nat.reduceLT, Nat.reduceSub, Nat.add_sub_cancel, Nat.reduceLeDiff, reduceIte, ne_eq, Nat.not_le, ha, hb, show ¬ a - b ≤ 0 by omega]
theorem sp_nextOf {np nv p : Nat} {t : Nat → Nat → Nat} {rk : Nat → Nat} {A : Nat → Prop} (hnp : np ≤ 10) (hnv : nv ≤ 10) (hF : rfF σ np nv t rk) (hp : p < np) (hA : ∀ v, v < nv → σ.2.1 102 (10 * p + v) = zb (A (10 * p + v))) : PC sc 170 [.ref 12, .int (nI p)] σ Q ↔ Q (some (.int (oi (-nI 9) (bsl (fun v => 0 < t p v ∧ ¬ A (10 * p + v)) (t p) nv)))) σ := by
  obtain ⟨f1, f2, f3, f4⟩ := hF
  rw [PC_170, zb_170_0]
  simp (disch := first | exact zl_i | exact zl_r | exact zl_n | omega | exact zlen0 | exact zlen1 | exact zlen2 | exact zlen3 | exact zlen4 | exact zl_l | (unfold scF; omega) | (unfold scR; omega) | (simp only [zS_uf1, zS_uf2, zS_ur1, zS_ur2, Nat.reduceEqDiff, reduceIte, and_false, false_and, and_true, true_and, ite_true, ite_false]; done) | exact zl_n) only [Int.reduceToNat, Nat.reduceAdd, Nat.reduceMul, List.length_nil, List.length_cons, Nat.reduceLeDiff, Nat.zero_le, Option.toList_some, Option.toList_none, List.cons_append, List.nil_append, PW_nil, PW_goto, zl_i, zl_r, zl_n, PW_km9, PW_istore_2, PW_k0, PW_istore_3, PW_iload_3, PW_aload_0, PW_g770, PW_ic_ge, PW_g779, PW_k10, PW_iload_1, PW_imul, PW_iadd, PW_ba100, PW_ba102, PW_if_eq, PW_g781, PW_if_ne, PW_iload_2, PW_ic_eq, PX_c168, PW_iinc_3_p1, PW_ret_i zret_170, zb_170_2, zb_170_3, zb_170_4, PK_app, n_l0, n_l1, n_l2, n_l3, n_l4, n_l5, n_l8, n_l9, n_l10, n_l15, n_l20, n_l31, n_l40, n_l48, n_l57, n_l59, n_l60, n_l70, n_l99, n_l100, n_l255, n_l601, n_l602, n_l1024, n_l1500, n_l2100, n_l2101, n_l65535, n_l100000, n_l1000000, n_l100000000, i_lt, nI_clamp, nI_leI, nI_eq, nI_1, nI_add, pk_mul, pk_sub, n_in, n_negle, n_legne, n_eqneg, n_negeq, n_nn, n_bit, n_shl1, n_or, zb_e0, zb_e1, zb_r, n_em, zb_T, zb_F, zS_uf1, zS_uf2, zS_ur1, zS_ur2, zS_ur3, zS_ul1, zS_ul2, zS_ul3, z_if0, z_if1, Int.reduceEq, Nat.reduceOr, Nat.or_zero, Nat.zero_or, Bool.false_eq_true, reduceCtorEq, nar0, nar1, nar_zb, eq_self, true_and, and_true, false_and, and_false, or_true, true_or, or_false, false_or, not_true_eq_false, not_false_eq_true, Classical.not_not, true_implies, false_implies, implies_true, iff_true, iff_self, ite_true, ite_false, Nat.reduceEqDiff, Nat.reduceLT, Nat.reduceSub, Nat.add_sub_cancel, Nat.reduceLeDiff, reduceIte, ne_eq, Nat.not_le]
  refine ((lp_all nv (fun i => PW sc 170 (zblk 170 1) 2 [some (.ref 12), some (.int (nI p)), some (.int (oi (-nI 9) (bsl (fun v => 0 < t p v ∧ ¬ A (10 * p + v)) (t p) i))), some (.int (nI i))] [] (σ) Q) (fun i hi => ?_)).trans ?_)
  · conv => lhs; rw [zb_170_1]
    obtain ⟨r1, r2, r3⟩ := f4 p hp i hi
    have hai := hA i hi
    by_cases c1 : 0 < t p i
    · have c1' := eq_true c1
      by_cases c2 : A (10 * p + i)
      · have c2' := eq_true c2
        rw [bsl_f (c := fun v => 0 < t p v ∧ ¬ A (10 * p + v)) (fun z => z.2 c2)]
        simp (disch := first | exact zl_i | exact zl_r | exact zl_n | omega | exact zlen0 | exact zlen1 | exact zlen2 | exact zlen3 | exact zlen4 | exact zl_l | (unfold scF; omega) | (unfold scR; omega) | (simp only [zS_uf1, zS_uf2, zS_ur1, zS_ur2, Nat.reduceEqDiff, reduceIte, and_false, false_and, and_true, true_and, ite_true, ite_false]; done) | exact zl_n) only [Int.reduceToNat, Nat.reduceAdd, Nat.reduceMul, List.length_nil, List.length_cons, Nat.reduceLeDiff, Nat.zero_le, Option.toList_some, Option.toList_none, List.cons_append, List.nil_append, PW_nil, PW_goto, zl_i, zl_r, zl_n, PW_km9, PW_istore_2, PW_k0, PW_istore_3, PW_iload_3, PW_aload_0, PW_g770, PW_ic_ge, PW_g779, PW_k10, PW_iload_1, PW_imul, PW_iadd, PW_ba100, PW_ba102, PW_if_eq, PW_g781, PW_if_ne, PW_iload_2, PW_ic_eq, PX_c168, PW_iinc_3_p1, PW_ret_i zret_170, zb_170_2, zb_170_3, zb_170_4, PK_app, n_l0, n_l1, n_l2, n_l3, n_l4, n_l5, n_l8, n_l9, n_l10, n_l15, n_l20, n_l31, n_l40, n_l48, n_l57, n_l59, n_l60, n_l70, n_l99, n_l100, n_l255, n_l601, n_l602, n_l1024, n_l1500, n_l2100, n_l2101, n_l65535, n_l100000, n_l1000000, n_l100000000, i_lt, nI_clamp, nI_leI, nI_eq, nI_1, nI_add, pk_mul, pk_sub, n_in, n_negle, n_legne, n_eqneg, n_negeq, n_nn, n_bit, n_shl1, n_or, zb_e0, zb_e1, zb_r, n_em, zb_T, zb_F, zS_uf1, zS_uf2, zS_ur1, zS_ur2, zS_ur3, zS_ul1, zS_ul2, zS_ul3, z_if0, z_if1, Int.reduceEq, Nat.reduceOr, Nat.or_zero, Nat.zero_or, Bool.false_eq_true, reduceCtorEq, nar0, nar1, nar_zb, eq_self, true_and, and_true, false_and, and_false, or_true, true_or, or_false, false_or, not_true_eq_false, not_false_eq_true, Classical.not_not, true_implies, false_implies, implies_true, iff_true, iff_self, ite_true, ite_false, Nat.reduceEqDiff, Nat.reduceLT, Nat.reduceSub, Nat.add_sub_cancel, Nat.reduceLeDiff, reduceIte, ne_eq, Nat.not_le, f2, Nat.not_le.mpr hi, r1, hai, c1', c2']
      · have c2' := eq_false c2
        cases e : bsl (fun v => 0 < t p v ∧ ¬ A (10 * p + v)) (t p) i with
        | none =>
          rw [bsl_t (c := fun v => 0 < t p v ∧ ¬ A (10 * p + v)) ⟨c1, c2⟩ (fun k hk => by rw [e] at hk; cases hk)]
          simp (disch := first | exact zl_i | exact zl_r | exact zl_n | omega | exact zlen0 | exact zlen1 | exact zlen2 | exact zlen3 | exact zlen4 | exact zl_l | (unfold scF; omega) | (unfold scR; omega) | (simp only [zS_uf1, zS_uf2, zS_ur1, zS_ur2, Nat.reduceEqDiff, reduceIte, and_false, false_and, and_true, true_and, ite_true, ite_false]; done) | exact zl_n) only [Int.reduceToNat, Nat.reduceAdd, Nat.reduceMul, List.length_nil, List.length_cons, Nat.reduceLeDiff, Nat.zero_le, Option.toList_some, Option.toList_none, List.cons_append, List.nil_append, PW_nil, PW_goto, zl_i, zl_r, zl_n, PW_km9, PW_istore_2, PW_k0, PW_istore_3, PW_iload_3, PW_aload_0, PW_g770, PW_ic_ge, PW_g779, PW_k10, PW_iload_1, PW_imul, PW_iadd, PW_ba100, PW_ba102, PW_if_eq, PW_g781, PW_if_ne, PW_iload_2, PW_ic_eq, PX_c168, PW_iinc_3_p1, PW_ret_i zret_170, zb_170_2, zb_170_3, zb_170_4, PK_app, n_l0, n_l1, n_l2, n_l3, n_l4, n_l5, n_l8, n_l9, n_l10, n_l15, n_l20, n_l31, n_l40, n_l48, n_l57, n_l59, n_l60, n_l70, n_l99, n_l100, n_l255, n_l601, n_l602, n_l1024, n_l1500, n_l2100, n_l2101, n_l65535, n_l100000, n_l1000000, n_l100000000, i_lt, nI_clamp, nI_leI, nI_eq, nI_1, nI_add, pk_mul, pk_sub, n_in, n_negle, n_legne, n_eqneg, n_negeq, n_nn, n_bit, n_shl1, n_or, zb_e0, zb_e1, zb_r, n_em, zb_T, zb_F, zS_uf1, zS_uf2, zS_ur1, zS_ur2, zS_ur3, zS_ul1, zS_ul2, zS_ul3, z_if0, z_if1, Int.reduceEq, Nat.reduceOr, Nat.or_zero, Nat.zero_or, Bool.false_eq_true, reduceCtorEq, nar0, nar1, nar_zb, eq_self, true_and, and_true, false_and, and_false, or_true, true_or, or_false, false_or, not_true_eq_false, not_false_eq_true, Classical.not_not, true_implies, false_implies, implies_true, iff_true, iff_self, ite_true, ite_false, Nat.reduceEqDiff, Nat.reduceLT, Nat.reduceSub, Nat.add_sub_cancel, Nat.reduceLeDiff, reduceIte, ne_eq, Nat.not_le, f2, Nat.not_le.mpr hi, r1, hai, c1', c2', oi_n, oi_s]
        | some k =>
          obtain ⟨k1, ⟨k2, k3⟩, k4⟩ := bsl_s e
          obtain ⟨-, q2, q3⟩ := f4 p hp k (by omega)
          have sl := fun Q => sp_likes (sc := sc) (σ := σ) (Q := Q) (p := p) (v := i) (k := k) (by omega) (by omega) (by omega) (r2 c1) (q2 k2) r3 q3 k1
          by_cases l : t p k < t p i
          · rw [bsl_t (c := fun v => 0 < t p v ∧ ¬ A (10 * p + v)) ⟨c1, c2⟩ (fun k' hk' => by rw [e] at hk'; cases hk'; exact l)]
            have l' := eq_true l
            simp (disch := first | exact zl_i | exact zl_r | exact zl_n | omega | exact zlen0 | exact zlen1 | exact zlen2 | exact zlen3 | exact zlen4 | exact zl_l | (unfold scF; omega) | (unfold scR; omega) | (simp only [zS_uf1, zS_uf2, zS_ur1, zS_ur2, Nat.reduceEqDiff, reduceIte, and_false, false_and, and_true, true_and, ite_true, ite_false]; done) | exact zl_n) only [Int.reduceToNat, Nat.reduceAdd, Nat.reduceMul, List.length_nil, List.length_cons, Nat.reduceLeDiff, Nat.zero_le, Option.toList_some, Option.toList_none, List.cons_append, List.nil_append, PW_nil, PW_goto, zl_i, zl_r, zl_n, PW_km9, PW_istore_2, PW_k0, PW_istore_3, PW_iload_3, PW_aload_0, PW_g770, PW_ic_ge, PW_g779, PW_k10, PW_iload_1, PW_imul, PW_iadd, PW_ba100, PW_ba102, PW_if_eq, PW_g781, PW_if_ne, PW_iload_2, PW_ic_eq, PX_c168, PW_iinc_3_p1, PW_ret_i zret_170, zb_170_2, zb_170_3, zb_170_4, PK_app, n_l0, n_l1, n_l2, n_l3, n_l4, n_l5, n_l8, n_l9, n_l10, n_l15, n_l20, n_l31, n_l40, n_l48, n_l57, n_l59, n_l60, n_l70, n_l99, n_l100, n_l255, n_l601, n_l602, n_l1024, n_l1500, n_l2100, n_l2101, n_l65535, n_l100000, n_l1000000, n_l100000000, i_lt, nI_clamp, nI_leI, nI_eq, nI_1, nI_add, pk_mul, pk_sub, n_in, n_negle, n_legne, n_eqneg, n_negeq, n_nn, n_bit, n_shl1, n_or, zb_e0, zb_e1, zb_r, n_em, zb_T, zb_F, zS_uf1, zS_uf2, zS_ur1, zS_ur2, zS_ur3, zS_ul1, zS_ul2, zS_ul3, z_if0, z_if1, Int.reduceEq, Nat.reduceOr, Nat.or_zero, Nat.zero_or, Bool.false_eq_true, reduceCtorEq, nar0, nar1, nar_zb, eq_self, true_and, and_true, false_and, and_false, or_true, true_or, or_false, false_or, not_true_eq_false, not_false_eq_true, Classical.not_not, true_implies, false_implies, implies_true, iff_true, iff_self, ite_true, ite_false, Nat.reduceEqDiff, Nat.reduceLT, Nat.reduceSub, Nat.add_sub_cancel, Nat.reduceLeDiff, reduceIte, ne_eq, Nat.not_le, f2, Nat.not_le.mpr hi, r1, hai, c1', c2', oi_s, sl, l', PK_app]
          · rw [bsl_f2 e (by omega), e]
            have l' := eq_false l
            simp (disch := first | exact zl_i | exact zl_r | exact zl_n | omega | exact zlen0 | exact zlen1 | exact zlen2 | exact zlen3 | exact zlen4 | exact zl_l | (unfold scF; omega) | (unfold scR; omega) | (simp only [zS_uf1, zS_uf2, zS_ur1, zS_ur2, Nat.reduceEqDiff, reduceIte, and_false, false_and, and_true, true_and, ite_true, ite_false]; done) | exact zl_n) only [Int.reduceToNat, Nat.reduceAdd, Nat.reduceMul, List.length_nil, List.length_cons, Nat.reduceLeDiff, Nat.zero_le, Option.toList_some, Option.toList_none, List.cons_append, List.nil_append, PW_nil, PW_goto, zl_i, zl_r, zl_n, PW_km9, PW_istore_2, PW_k0, PW_istore_3, PW_iload_3, PW_aload_0, PW_g770, PW_ic_ge, PW_g779, PW_k10, PW_iload_1, PW_imul, PW_iadd, PW_ba100, PW_ba102, PW_if_eq, PW_g781, PW_if_ne, PW_iload_2, PW_ic_eq, PX_c168, PW_iinc_3_p1, PW_ret_i zret_170, zb_170_2, zb_170_3, zb_170_4, PK_app, n_l0, n_l1, n_l2, n_l3, n_l4, n_l5, n_l8, n_l9, n_l10, n_l15, n_l20, n_l31, n_l40, n_l48, n_l57, n_l59, n_l60, n_l70, n_l99, n_l100, n_l255, n_l601, n_l602, n_l1024, n_l1500, n_l2100, n_l2101, n_l65535, n_l100000, n_l1000000, n_l100000000, i_lt, nI_clamp, nI_leI, nI_eq, nI_1, nI_add, pk_mul, pk_sub, n_in, n_negle, n_legne, n_eqneg, n_negeq, n_nn, n_bit, n_shl1, n_or, zb_e0, zb_e1, zb_r, n_em, zb_T, zb_F, zS_uf1, zS_uf2, zS_ur1, zS_ur2, zS_ur3, zS_ul1, zS_ul2, zS_ul3, z_if0, z_if1, Int.reduceEq, Nat.reduceOr, Nat.or_zero, Nat.zero_or, Bool.false_eq_true, reduceCtorEq, nar0, nar1, nar_zb, eq_self, true_and, and_true, false_and, and_false, or_true, true_or, or_false, false_or, not_true_eq_false, not_false_eq_true, Classical.not_not, true_implies, false_implies, implies_true, iff_true, iff_self, ite_true, ite_false, Nat.reduceEqDiff, Nat.reduceLT, Nat.reduceSub, Nat.add_sub_cancel, Nat.reduceLeDiff, reduceIte, ne_eq, Nat.not_le, f2, Nat.not_le.mpr hi, r1, hai, c1', c2', oi_s, sl, l', PK_app]
    · have c1' := eq_false c1
      rw [bsl_f (c := fun v => 0 < t p v ∧ ¬ A (10 * p + v)) (fun z => c1 z.1)]
      simp (disch := first | exact zl_i | exact zl_r | exact zl_n | omega | exact zlen0 | exact zlen1 | exact zlen2 | exact zlen3 | exact zlen4 | exact zl_l | (unfold scF; omega) | (unfold scR; omega) | (simp only [zS_uf1, zS_uf2, zS_ur1, zS_ur2, Nat.reduceEqDiff, reduceIte, and_false, false_and, and_true, true_and, ite_true, ite_false]; done) | exact zl_n) only [Int.reduceToNat, Nat.reduceAdd, Nat.reduceMul, List.length_nil, List.length_cons, Nat.reduceLeDiff, Nat.zero_le, Option.toList_some, Option.toList_none, List.cons_append, List.nil_append, PW_nil, PW_goto, zl_i, zl_r, zl_n, PW_km9, PW_istore_2, PW_k0, PW_istore_3, PW_iload_3, PW_aload_0, PW_g770, PW_ic_ge, PW_g779, PW_k10, PW_iload_1, PW_imul, PW_iadd, PW_ba100, PW_ba102, PW_if_eq, PW_g781, PW_if_ne, PW_iload_2, PW_ic_eq, PX_c168, PW_iinc_3_p1, PW_ret_i zret_170, zb_170_2, zb_170_3, zb_170_4, PK_app, n_l0, n_l1, n_l2, n_l3, n_l4, n_l5, n_l8, n_l9, n_l10, n_l15, n_l20, n_l31, n_l40, n_l48, n_l57, n_l59, n_l60, n_l70, n_l99, n_l100, n_l255, n_l601, n_l602, n_l1024, n_l1500, n_l2100, n_l2101, n_l65535, n_l100000, n_l1000000, n_l100000000, i_lt, nI_clamp, nI_leI, nI_eq, nI_1, nI_add, pk_mul, pk_sub, n_in, n_negle, n_legne, n_eqneg, n_negeq, n_nn, n_bit, n_shl1, n_or, zb_e0, zb_e1, zb_r, n_em, zb_T, zb_F, zS_uf1, zS_uf2, zS_ur1, zS_ur2, zS_ur3, zS_ul1, zS_ul2, zS_ul3, z_if0, z_if1, Int.reduceEq, Nat.reduceOr, Nat.or_zero, Nat.zero_or, Bool.false_eq_true, reduceCtorEq, nar0, nar1, nar_zb, eq_self, true_and, and_true, false_and, and_false, or_true, true_or, or_false, false_or, not_true_eq_false, not_false_eq_true, Classical.not_not, true_implies, false_implies, implies_true, iff_true, iff_self, ite_true, ite_false, Nat.reduceEqDiff, Nat.reduceLT, Nat.reduceSub, Nat.add_sub_cancel, Nat.reduceLeDiff, reduceIte, ne_eq, Nat.not_le, f2, Nat.not_le.mpr hi, r1, c1']
  · rw [zb_170_1]
    simp (disch := first | exact zl_i | exact zl_r | exact zl_n | omega | exact zlen0 | exact zlen1 | exact zlen2 | exact zlen3 | exact zlen4 | exact zl_l | (unfold scF; omega) | (unfold scR; omega) | (simp only [zS_uf1, zS_uf2, zS_ur1, zS_ur2, Nat.reduceEqDiff, reduceIte, and_false, false_and, and_true, true_and, ite_true, ite_false]; done) | exact zl_n) only [Int.reduceToNat, Nat.reduceAdd, Nat.reduceMul, List.length_nil, List.length_cons, Nat.reduceLeDiff, Nat.zero_le, Option.toList_some, Option.toList_none, List.cons_append, List.nil_append, PW_nil, PW_goto, zl_i, zl_r, zl_n, PW_km9, PW_istore_2, PW_k0, PW_istore_3, PW_iload_3, PW_aload_0, PW_g770, PW_ic_ge, PW_g779, PW_k10, PW_iload_1, PW_imul, PW_iadd, PW_ba100, PW_ba102, PW_if_eq, PW_g781, PW_if_ne, PW_iload_2, PW_ic_eq, PX_c168, PW_iinc_3_p1, PW_ret_i zret_170, zb_170_2, zb_170_3, zb_170_4, PK_app, n_l0, n_l1, n_l2, n_l3, n_l4, n_l5, n_l8, n_l9, n_l10, n_l15, n_l20, n_l31, n_l40, n_l48, n_l57, n_l59, n_l60, n_l70, n_l99, n_l100, n_l255, n_l601, n_l602, n_l1024, n_l1500, n_l2100, n_l2101, n_l65535, n_l100000, n_l1000000, n_l100000000, i_lt, nI_clamp, nI_leI, nI_eq, nI_1, nI_add, pk_mul, pk_sub, n_in, n_negle, n_legne, n_eqneg, n_negeq, n_nn, n_bit, n_shl1, n_or, zb_e0, zb_e1, zb_r, n_em, zb_T, zb_F, zS_uf1, zS_uf2, zS_ur1, zS_ur2, zS_ur3, zS_ul1, zS_ul2, zS_ul3, z_if0, z_if1, Int.reduceEq, Nat.reduceOr, Nat.or_zero, Nat.zero_or, Bool.false_eq_true, reduceCtorEq, nar0, nar1, nar_zb, eq_self, true_and, and_true, false_and, and_false, or_true, true_or, or_false, false_or, not_true_eq_false, not_false_eq_true, Classical.not_not, true_implies, false_implies, implies_true, iff_true, iff_self, ite_true, ite_false, Nat.reduceEqDiff, Nat.reduceLT, Nat.reduceSub, Nat.add_sub_cancel, Nat.reduceLeDiff, reduceIte, ne_eq, Nat.not_le, f2, Nat.le_refl]
theorem calm12_w {np nv : Nat} {t : Nat → Nat → Nat} {rk : Nat → Nat} (hnp : np ≤ 10) (hnv : nv ≤ 10) (hF : rfF σ np nv t rk)
    (hQ : ∀ L S, Fr σ S → cm_calm np nv t rk L → (∀ p, p < np → S.2.1 101 p = vo (-nI 9) (L p)) → Q none S) : PW sc 171 (zblk 171 1) 2 [some (.ref 12), some (.int (nI 0)), none, none, none] [] (σ) Q := by
  have f1 := hF.1
  have hF' : ∀ a kp le, rfF (zur (zur (zur σ 102 a) 103 kp) 101 le) np nv t rk := fun a kp le => hF
  have FR : ∀ a kp le, Fr σ (zur (zur (zur σ 102 a) 103 kp) 101 le) := fun a kp le => ((Fr.refl.ur (by unfold scR; omega)).ur (by unfold scR; omega)).ur (by unfold scR; omega)
  have main : ∀ w, ∀ A L a kp le, rcI np nv t rk A L a kp le → 100 - cnt A 100 < w → ∀ b2 b3 b4, PW sc 171 (zblk 171 5) 6 [some (.ref 12), some (.int (nI 1)), b2, b3, b4] [] (zur (zur (zur σ 102 a) 103 kp) 101 le) Q := by
    intro w
    induction w with
    | zero => intro A L a kp le I h; exact absurd h (Nat.not_lt_zero _)
    | succ w ihw =>
      intro A0 L0 a0 kp0 le0 I0 hw b2 b3 b4
      have rnd : ∀ e p, p + e = np → ∀ A L a kp le m, rcI np nv t rk A L a kp le → ((m = 0 ∧ ∀ q, q < p → L q ≠ 10 ∨ ∀ v, v < nv → 0 < t q v → A (10 * q + v)) ∨ (m = 1 ∧ cnt A0 100 < cnt A 100)) → cnt A0 100 ≤ cnt A 100 → ∀ b3 b4, PW sc 171 (zblk 171 6) 7 [some (.ref 12), some (.int (nI m)), some (.int (nI p)), b3, b4] [] (zur (zur (zur σ 102 a) 103 kp) 101 le) Q := by
        intro e
        induction e with
        | zero =>
          intro p hpe A L a kp le m I hm hc b3 b4
          rw [show p = np by omega] at hm ⊢
          rw [zb_171_6]
          rcases hm with ⟨rfl, hm⟩ | ⟨rfl, hm⟩
          · simp (disch := first | exact zl_i | exact zl_r | exact zl_n | omega | exact zlen0 | exact zlen1 | exact zlen2 | exact zlen3 | exact zlen4 | exact zl_l | (unfold scF; omega) | (unfold scR; omega) | (simp only [zS_uf1, zS_uf2, zS_ur1, zS_ur2, Nat.reduceEqDiff, reduceIte, and_false, false_and, and_true, true_and, ite_true, ite_false]; done) | exact zl_n) only [Int.reduceToNat, Nat.reduceAdd, Nat.reduceMul, List.length_nil, List.length_cons, Nat.reduceLeDiff, Nat.zero_le, Option.toList_some, Option.toList_none, List.cons_append, List.nil_append, PW_nil, PW_goto, zl_i, zl_r, zl_n, PW_aload_0, PX_c164, PW_k0, PW_istore_1, PW_iload_1, PW_k100, PW_ic_ge, PW_g781, PW_bs102, PW_iinc_1_p1, PW_k10, PW_g782, PW_km9, PW_is101, PW_is103, PW_g780, PW_k1, PW_if_eq, PW_istore_2, PW_iload_2, PW_g774, PW_ia101, PW_ia103, PW_ic_ne, PX_c170, PW_istore_3, PW_iload_3, PW_imul, PW_iadd, PW_istore_4, PW_iload_4, PW_ic_eq, PX_c169, PW_iinc_2_p1, PW_ret_v zret_171, zb_171_2, zb_171_4, zb_171_7, zb_171_8, zb_171_9, zb_171_10, zb_171_11, zb_171_12, zb_171_13, zb_171_14, PK_app, n_l0, n_l1, n_l2, n_l3, n_l4, n_l5, n_l8, n_l9, n_l10, n_l15, n_l20, n_l31, n_l40, n_l48, n_l57, n_l59, n_l60, n_l70, n_l99, n_l100, n_l255, n_l601, n_l602, n_l1024, n_l1500, n_l2100, n_l2101, n_l65535, n_l100000, n_l1000000, n_l100000000, i_lt, nI_clamp, nI_leI, nI_eq, nI_1, nI_add, pk_mul, pk_sub, n_in, n_negle, n_legne, n_eqneg, n_negeq, n_nn, n_bit, n_shl1, n_or, zb_e0, zb_e1, zb_r, n_em, zb_T, zb_F, zS_uf1, zS_uf2, zS_ur1, zS_ur2, zS_ur3, zS_ul1, zS_ul2, zS_ul3, z_if0, z_if1, Int.reduceEq, Nat.reduceOr, Nat.or_zero, Nat.zero_or, Bool.false_eq_true, reduceCtorEq, nar0, nar1, nar_zb, eq_self, true_and, and_true, false_and, and_false, or_true, true_or, or_false, false_or, not_true_eq_false, not_false_eq_true, Classical.not_not, true_implies, false_implies, implies_true, iff_true, iff_self, ite_true, ite_false, Nat.reduceEqDiff, Nat.reduceLT, Nat.reduceSub, Nat.add_sub_cancel, Nat.reduceLeDiff, reduceIte, ne_eq, Nat.not_le, f1, Nat.le_refl]
            rw [zb_171_5]
            simp (disch := first | exact zl_i | exact zl_r | exact zl_n | omega | exact zlen0 | exact zlen1 | exact zlen2 | exact zlen3 | exact zlen4 | exact zl_l | (unfold scF; omega) | (unfold scR; omega) | (simp only [zS_uf1, zS_uf2, zS_ur1, zS_ur2, Nat.reduceEqDiff, reduceIte, and_false, false_and, and_true, true_and, ite_true, ite_false]; done) | exact zl_n) only [Int.reduceToNat, Nat.reduceAdd, Nat.reduceMul, List.length_nil, List.length_cons, Nat.reduceLeDiff, Nat.zero_le, Option.toList_some, Option.toList_none, List.cons_append, List.nil_append, PW_nil, PW_goto, zl_i, zl_r, zl_n, PW_aload_0, PX_c164, PW_k0, PW_istore_1, PW_iload_1, PW_k100, PW_ic_ge, PW_g781, PW_bs102, PW_iinc_1_p1, PW_k10, PW_g782, PW_km9, PW_is101, PW_is103, PW_g780, PW_k1, PW_if_eq, PW_istore_2, PW_iload_2, PW_g774, PW_ia101, PW_ia103, PW_ic_ne, PX_c170, PW_istore_3, PW_iload_3, PW_imul, PW_iadd, PW_istore_4, PW_iload_4, PW_ic_eq, PX_c169, PW_iinc_2_p1, PW_ret_v zret_171, zb_171_2, zb_171_4, zb_171_7, zb_171_8, zb_171_9, zb_171_10, zb_171_11, zb_171_12, zb_171_13, zb_171_14, PK_app, n_l0, n_l1, n_l2, n_l3, n_l4, n_l5, n_l8, n_l9, n_l10, n_l15, n_l20, n_l31, n_l40, n_l48, n_l57, n_l59, n_l60, n_l70, n_l99, n_l100, n_l255, n_l601, n_l602, n_l1024, n_l1500, n_l2100, n_l2101, n_l65535, n_l100000, n_l1000000, n_l100000000, i_lt, nI_clamp, nI_leI, nI_eq, nI_1, nI_add, pk_mul, pk_sub, n_in, n_negle, n_legne, n_eqneg, n_negeq, n_nn, n_bit, n_shl1, n_or, zb_e0, zb_e1, zb_r, n_em, zb_T, zb_F, zS_uf1, zS_uf2, zS_ur1, zS_ur2, zS_ur3, zS_ul1, zS_ul2, zS_ul3, z_if0, z_if1, Int.reduceEq, Nat.reduceOr, Nat.or_zero, Nat.zero_or, Bool.false_eq_true, reduceCtorEq, nar0, nar1, nar_zb, eq_self, true_and, and_true, false_and, and_false, or_true, true_or, or_false, false_or, not_true_eq_false, not_false_eq_true, Classical.not_not, true_implies, false_implies, implies_true, iff_true, iff_self, ite_true, ite_false, Nat.reduceEqDiff, Nat.reduceLT, Nat.reduceSub, Nat.add_sub_cancel, Nat.reduceLeDiff, reduceIte, ne_eq, Nat.not_le]
            exact hQ L _ (FR a kp le) (rc_end hnv I hm) I.2.2.2.2.2.2.1
          · simp (disch := first | exact zl_i | exact zl_r | exact zl_n | omega | exact zlen0 | exact zlen1 | exact zlen2 | exact zlen3 | exact zlen4 | exact zl_l | (unfold scF; omega) | (unfold scR; omega) | (simp only [zS_uf1, zS_uf2, zS_ur1, zS_ur2, Nat.reduceEqDiff, reduceIte, and_false, false_and, and_true, true_and, ite_true, ite_false]; done) | exact zl_n) only [Int.reduceToNat, Nat.reduceAdd, Nat.reduceMul, List.length_nil, List.length_cons, Nat.reduceLeDiff, Nat.zero_le, Option.toList_some, Option.toList_none, List.cons_append, List.nil_append, PW_nil, PW_goto, zl_i, zl_r, zl_n, PW_aload_0, PX_c164, PW_k0, PW_istore_1, PW_iload_1, PW_k100, PW_ic_ge, PW_g781, PW_bs102, PW_iinc_1_p1, PW_k10, PW_g782, PW_km9, PW_is101, PW_is103, PW_g780, PW_k1, PW_if_eq, PW_istore_2, PW_iload_2, PW_g774, PW_ia101, PW_ia103, PW_ic_ne, PX_c170, PW_istore_3, PW_iload_3, PW_imul, PW_iadd, PW_istore_4, PW_iload_4, PW_ic_eq, PX_c169, PW_iinc_2_p1, PW_ret_v zret_171, zb_171_2, zb_171_4, zb_171_7, zb_171_8, zb_171_9, zb_171_10, zb_171_11, zb_171_12, zb_171_13, zb_171_14, PK_app, n_l0, n_l1, n_l2, n_l3, n_l4, n_l5, n_l8, n_l9, n_l10, n_l15, n_l20, n_l31, n_l40, n_l48, n_l57, n_l59, n_l60, n_l70, n_l99, n_l100, n_l255, n_l601, n_l602, n_l1024, n_l1500, n_l2100, n_l2101, n_l65535, n_l100000, n_l1000000, n_l100000000, i_lt, nI_clamp, nI_leI, nI_eq, nI_1, nI_add, pk_mul, pk_sub, n_in, n_negle, n_legne, n_eqneg, n_negeq, n_nn, n_bit, n_shl1, n_or, zb_e0, zb_e1, zb_r, n_em, zb_T, zb_F, zS_uf1, zS_uf2, zS_ur1, zS_ur2, zS_ur3, zS_ul1, zS_ul2, zS_ul3, z_if0, z_if1, Int.reduceEq, Nat.reduceOr, Nat.or_zero, Nat.zero_or, Bool.false_eq_true, reduceCtorEq, nar0, nar1, nar_zb, eq_self, true_and, and_true, false_and, and_false, or_true, true_or, or_false, false_or, not_true_eq_false, not_false_eq_true, Classical.not_not, true_implies, false_implies, implies_true, iff_true, iff_self, ite_true, ite_false, Nat.reduceEqDiff, Nat.reduceLT, Nat.reduceSub, Nat.add_sub_cancel, Nat.reduceLeDiff, reduceIte, ne_eq, Nat.not_le, f1, Nat.le_refl]
            have h100 : cnt A 100 ≤ 100 := cnt_le 100
            exact ihw A L a kp le I (by omega) _ _ _
        | succ e ih =>
          intro p hpe A L a kp le m I hm hc b3 b4
          have hp : p < np := by omega
          have lep := I.2.2.2.2.2.2.1 p hp
          have quiet : (L p ≠ 10 ∨ ∀ v, v < nv → 0 < t p v → A (10 * p + v)) → ((m = 0 ∧ ∀ q, q < p + 1 → L q ≠ 10 ∨ ∀ v, v < nv → 0 < t q v → A (10 * q + v)) ∨ (m = 1 ∧ cnt A0 100 < cnt A 100)) := fun z => by
            rcases hm with ⟨h1, h2⟩ | h
            · refine Or.inl ⟨h1, fun q hq => ?_⟩
              by_cases y : q = p
              · rw [y]; exact z
              · exact h2 q (by omega)
            · exact Or.inr h
          rw [zb_171_6]
          by_cases l10 : L p = 10
          · rw [l10, vo_n] at lep
            have sn := fun Q => sp_nextOf (sc := sc) (Q := Q) (σ := zur (zur (zur σ 102 a) 103 kp) 101 le) (A := A) hnp hnv (hF' a kp le) hp (fun v hv => I.1 p v hp hv)
            cases eb : bsl (fun v => 0 < t p v ∧ ¬ A (10 * p + v)) (t p) nv with
            | none =>
              rw [eb] at sn
              simp (disch := first | exact zl_i | exact zl_r | exact zl_n | omega | exact zlen0 | exact zlen1 | exact zlen2 | exact zlen3 | exact zlen4 | exact zl_l | (unfold scF; omega) | (unfold scR; omega) | (simp only [zS_uf1, zS_uf2, zS_ur1, zS_ur2, Nat.reduceEqDiff, reduceIte, and_false, false_and, and_true, true_and, ite_true, ite_false]; done) | exact zl_n) only [Int.reduceToNat, Nat.reduceAdd, Nat.reduceMul, List.length_nil, List.length_cons, Nat.reduceLeDiff, Nat.zero_le, Option.toList_some, Option.toList_none, List.cons_append, List.nil_append, PW_nil, PW_goto, zl_i, zl_r, zl_n, PW_aload_0, PX_c164, PW_k0, PW_istore_1, PW_iload_1, PW_k100, PW_ic_ge, PW_g781, PW_bs102, PW_iinc_1_p1, PW_k10, PW_g782, PW_km9, PW_is101, PW_is103, PW_g780, PW_k1, PW_if_eq, PW_istore_2, PW_iload_2, PW_g774, PW_ia101, PW_ia103, PW_ic_ne, PX_c170, PW_istore_3, PW_iload_3, PW_imul, PW_iadd, PW_istore_4, PW_iload_4, PW_ic_eq, PX_c169, PW_iinc_2_p1, PW_ret_v zret_171, zb_171_2, zb_171_4, zb_171_7, zb_171_8, zb_171_9, zb_171_10, zb_171_11, zb_171_12, zb_171_13, zb_171_14, PK_app, n_l0, n_l1, n_l2, n_l3, n_l4, n_l5, n_l8, n_l9, n_l10, n_l15, n_l20, n_l31, n_l40, n_l48, n_l57, n_l59, n_l60, n_l70, n_l99, n_l100, n_l255, n_l601, n_l602, n_l1024, n_l1500, n_l2100, n_l2101, n_l65535, n_l100000, n_l1000000, n_l100000000, i_lt, nI_clamp, nI_leI, nI_eq, nI_1, nI_add, pk_mul, pk_sub, n_in, n_negle, n_legne, n_eqneg, n_negeq, n_nn, n_bit, n_shl1, n_or, zb_e0, zb_e1, zb_r, n_em, zb_T, zb_F, zS_uf1, zS_uf2, zS_ur1, zS_ur2, zS_ur3, zS_ul1, zS_ul2, zS_ul3, z_if0, z_if1, Int.reduceEq, Nat.reduceOr, Nat.or_zero, Nat.zero_or, Bool.false_eq_true, reduceCtorEq, nar0, nar1, nar_zb, eq_self, true_and, and_true, false_and, and_false, or_true, true_or, or_false, false_or, not_true_eq_false, not_false_eq_true, Classical.not_not, true_implies, false_implies, implies_true, iff_true, iff_self, ite_true, ite_false, Nat.reduceEqDiff, Nat.reduceLT, Nat.reduceSub, Nat.add_sub_cancel, Nat.reduceLeDiff, reduceIte, ne_eq, Nat.not_le, f1, Nat.not_le.mpr hp, lep, sn, PK_app, oi_n]
              exact ih (p + 1) (by omega) A L a kp le m I (quiet (Or.inr (fun v hv ht => Classical.byContradiction (fun z => bsl_n eb v hv ⟨ht, z⟩)))) hc _ _
            | some v =>
              rw [eb] at sn
              obtain ⟨v1, ⟨v2, v3⟩, v4⟩ := bsl_s eb
              have hc1 : cnt (fun y => y = 10 * p + v ∨ A y) 100 = cnt A 100 + 1 := cnt_one (c := A) (x := 10 * p + v) (by omega) v3 (Or.inl rfl) (fun j _ ne => ⟨fun z => z.elim (fun y => absurd y ne) id, Or.inr⟩)
              have ih1 := fun L' kp' le' I' => ih (p + 1) (by omega) (fun y => y = 10 * p + v ∨ A y) L' (upd a (10 * p + v) (nI 1)) kp' le' 1 I' (Or.inr ⟨rfl, by omega⟩) (by omega)
              rcases I.2.2.2.2.2.2.2 v v1 with ⟨k1, k2⟩ | ⟨q, q1, q2, q3⟩
              · have g := rc_get (le' := upd le p (nI v)) hnp hnv I hp eb l10 (fun q hq z => absurd z (k2 q hq)) (fun r hr => by
                  by_cases z : r = p
                  · rw [z, pk_us, if_pos rfl, vo_s (by omega)]
                  · rw [pk_un z, if_neg z, if_neg (k2 r hr)]
                    exact I.2.2.2.2.2.2.1 r hr)
                simp (disch := first | exact zl_i | exact zl_r | exact zl_n | omega | exact zlen0 | exact zlen1 | exact zlen2 | exact zlen3 | exact zlen4 | exact zl_l | (unfold scF; omega) | (unfold scR; omega) | (simp only [zS_uf1, zS_uf2, zS_ur1, zS_ur2, Nat.reduceEqDiff, reduceIte, and_false, false_and, and_true, true_and, ite_true, ite_false]; done) | exact zl_n) only [Int.reduceToNat, Nat.reduceAdd, Nat.reduceMul, List.length_nil, List.length_cons, Nat.reduceLeDiff, Nat.zero_le, Option.toList_some, Option.toList_none, List.cons_append, List.nil_append, PW_nil, PW_goto, zl_i, zl_r, zl_n, PW_aload_0, PX_c164, PW_k0, PW_istore_1, PW_iload_1, PW_k100, PW_ic_ge, PW_g781, PW_bs102, PW_iinc_1_p1, PW_k10, PW_g782, PW_km9, PW_is101, PW_is103, PW_g780, PW_k1, PW_if_eq, PW_istore_2, PW_iload_2, PW_g774, PW_ia101, PW_ia103, PW_ic_ne, PX_c170, PW_istore_3, PW_iload_3, PW_imul, PW_iadd, PW_istore_4, PW_iload_4, PW_ic_eq, PX_c169, PW_iinc_2_p1, PW_ret_v zret_171, zb_171_2, zb_171_4, zb_171_7, zb_171_8, zb_171_9, zb_171_10, zb_171_11, zb_171_12, zb_171_13, zb_171_14, PK_app, n_l0, n_l1, n_l2, n_l3, n_l4, n_l5, n_l8, n_l9, n_l10, n_l15, n_l20, n_l31, n_l40, n_l48, n_l57, n_l59, n_l60, n_l70, n_l99, n_l100, n_l255, n_l601, n_l602, n_l1024, n_l1500, n_l2100, n_l2101, n_l65535, n_l100000, n_l1000000, n_l100000000, i_lt, nI_clamp, nI_leI, nI_eq, nI_1, nI_add, pk_mul, pk_sub, n_in, n_negle, n_legne, n_eqneg, n_negeq, n_nn, n_bit, n_shl1, n_or, zb_e0, zb_e1, zb_r, n_em, zb_T, zb_F, zS_uf1, zS_uf2, zS_ur1, zS_ur2, zS_ur3, zS_ul1, zS_ul2, zS_ul3, z_if0, z_if1, Int.reduceEq, Nat.reduceOr, Nat.or_zero, Nat.zero_or, Bool.false_eq_true, reduceCtorEq, nar0, nar1, nar_zb, eq_self, true_and, and_true, false_and, and_false, or_true, true_or, or_false, false_or, not_true_eq_false, not_false_eq_true, Classical.not_not, true_implies, false_implies, implies_true, iff_true, iff_self, ite_true, ite_false, Nat.reduceEqDiff, Nat.reduceLT, Nat.reduceSub, Nat.add_sub_cancel, Nat.reduceLeDiff, reduceIte, ne_eq, Nat.not_le, f1, Nat.not_le.mpr hp, lep, sn, PK_app, oi_s, k1, zur_same, zur_sw, zur_sw2]
                exact ih1 _ _ _ g _ _
              · have qp : q ≠ p := fun z => by rw [z, l10] at q3; omega
                have sa := fun a Q => sp_isAhead12 (sc := sc) (σ := zur (zur (zur σ 102 a) 103 kp) 101 le) (Q := Q) (p := p) (h := q) (by omega) (by omega)
                obtain ⟨r1, r2⟩ := hF.2.2.1 p hp
                obtain ⟨r3, r4⟩ := hF.2.2.1 q q1
                have ea : ahd (σ.2.1 96) p q ↔ cm_ah rk p q := by
                  unfold ahd cm_ah
                  rw [r1, r3, nI_leI (by omega) (by omega), nI_eq (by omega) (by omega)]
                  omega
                have sa' : ∀ a Q, PC sc 169 [.ref 12, .int (nI p), .int (nI q)] (zur (zur (zur σ 102 a) 103 kp) 101 le) Q ↔ Q (some (.int (zb (cm_ah rk p q)))) (zur (zur (zur σ 102 a) 103 kp) 101 le) := fun a Q => by
                  rw [← zb_congr ea]
                  exact sa a Q
                by_cases ca : cm_ah rk p q
                · have g := rc_get (le' := upd (upd le q (-nI 9)) p (nI v)) hnp hnv I hp eb l10 (fun r hr z => by
                    have er : r = q := Classical.byContradiction (fun y => I.2.2.2.2.1.2 r q hr q1 y (by omega) (by omega))
                    rw [er]; exact ca) (fun r hr => by
                    by_cases z : r = p
                    · rw [z, pk_us, if_pos rfl, vo_s (by omega)]
                    · rw [pk_un z, if_neg z]
                      by_cases y : r = q
                      · rw [y, pk_us, if_pos q3, vo_n]
                      · rw [pk_un y, if_neg (fun x => I.2.2.2.2.1.2 r q hr q1 y (by omega) (by omega))]
                        exact I.2.2.2.2.2.2.1 r hr)
                  have ca' := eq_true ca
                  simp (disch := first | exact zl_i | exact zl_r | exact zl_n | omega | exact zlen0 | exact zlen1 | exact zlen2 | exact zlen3 | exact zlen4 | exact zl_l | (unfold scF; omega) | (unfold scR; omega) | (simp only [zS_uf1, zS_uf2, zS_ur1, zS_ur2, Nat.reduceEqDiff, reduceIte, and_false, false_and, and_true, true_and, ite_true, ite_false]; done) | exact zl_n) only [Int.reduceToNat, Nat.reduceAdd, Nat.reduceMul, List.length_nil, List.length_cons, Nat.reduceLeDiff, Nat.zero_le, Option.toList_some, Option.toList_none, List.cons_append, List.nil_append, PW_nil, PW_goto, zl_i, zl_r, zl_n, PW_aload_0, PX_c164, PW_k0, PW_istore_1, PW_iload_1, PW_k100, PW_ic_ge, PW_g781, PW_bs102, PW_iinc_1_p1, PW_k10, PW_g782, PW_km9, PW_is101, PW_is103, PW_g780, PW_k1, PW_if_eq, PW_istore_2, PW_iload_2, PW_g774, PW_ia101, PW_ia103, PW_ic_ne, PX_c170, PW_istore_3, PW_iload_3, PW_imul, PW_iadd, PW_istore_4, PW_iload_4, PW_ic_eq, PX_c169, PW_iinc_2_p1, PW_ret_v zret_171, zb_171_2, zb_171_4, zb_171_7, zb_171_8, zb_171_9, zb_171_10, zb_171_11, zb_171_12, zb_171_13, zb_171_14, PK_app, n_l0, n_l1, n_l2, n_l3, n_l4, n_l5, n_l8, n_l9, n_l10, n_l15, n_l20, n_l31, n_l40, n_l48, n_l57, n_l59, n_l60, n_l70, n_l99, n_l100, n_l255, n_l601, n_l602, n_l1024, n_l1500, n_l2100, n_l2101, n_l65535, n_l100000, n_l1000000, n_l100000000, i_lt, nI_clamp, nI_leI, nI_eq, nI_1, nI_add, pk_mul, pk_sub, n_in, n_negle, n_legne, n_eqneg, n_negeq, n_nn, n_bit, n_shl1, n_or, zb_e0, zb_e1, zb_r, n_em, zb_T, zb_F, zS_uf1, zS_uf2, zS_ur1, zS_ur2, zS_ur3, zS_ul1, zS_ul2, zS_ul3, z_if0, z_if1, Int.reduceEq, Nat.reduceOr, Nat.or_zero, Nat.zero_or, Bool.false_eq_true, reduceCtorEq, nar0, nar1, nar_zb, eq_self, true_and, and_true, false_and, and_false, or_true, true_or, or_false, false_or, not_true_eq_false, not_false_eq_true, Classical.not_not, true_implies, false_implies, implies_true, iff_true, iff_self, ite_true, ite_false, Nat.reduceEqDiff, Nat.reduceLT, Nat.reduceSub, Nat.add_sub_cancel, Nat.reduceLeDiff, reduceIte, ne_eq, Nat.not_le, f1, Nat.not_le.mpr hp, lep, sn, PK_app, oi_s, q2, zur_same, zur_sw, zur_sw2, sa', ca']
                  exact ih1 _ _ _ g _ _
                · have g := rc_rej hnv I hp eb q1 q3 (cm_tot qp.symm ca)
                  have ca' := eq_false ca
                  simp (disch := first | exact zl_i | exact zl_r | exact zl_n | omega | exact zlen0 | exact zlen1 | exact zlen2 | exact zlen3 | exact zlen4 | exact zl_l | (unfold scF; omega) | (unfold scR; omega) | (simp only [zS_uf1, zS_uf2, zS_ur1, zS_ur2, Nat.reduceEqDiff, reduceIte, and_false, false_and, and_true, true_and, ite_true, ite_false]; done) | exact zl_n) only [Int.reduceToNat, Nat.reduceAdd, Nat.reduceMul, List.length_nil, List.length_cons, Nat.reduceLeDiff, Nat.zero_le, Option.toList_some, Option.toList_none, List.cons_append, List.nil_append, PW_nil, PW_goto, zl_i, zl_r, zl_n, PW_aload_0, PX_c164, PW_k0, PW_istore_1, PW_iload_1, PW_k100, PW_ic_ge, PW_g781, PW_bs102, PW_iinc_1_p1, PW_k10, PW_g782, PW_km9, PW_is101, PW_is103, PW_g780, PW_k1, PW_if_eq, PW_istore_2, PW_iload_2, PW_g774, PW_ia101, PW_ia103, PW_ic_ne, PX_c170, PW_istore_3, PW_iload_3, PW_imul, PW_iadd, PW_istore_4, PW_iload_4, PW_ic_eq, PX_c169, PW_iinc_2_p1, PW_ret_v zret_171, zb_171_2, zb_171_4, zb_171_7, zb_171_8, zb_171_9, zb_171_10, zb_171_11, zb_171_12, zb_171_13, zb_171_14, PK_app, n_l0, n_l1, n_l2, n_l3, n_l4, n_l5, n_l8, n_l9, n_l10, n_l15, n_l20, n_l31, n_l40, n_l48, n_l57, n_l59, n_l60, n_l70, n_l99, n_l100, n_l255, n_l601, n_l602, n_l1024, n_l1500, n_l2100, n_l2101, n_l65535, n_l100000, n_l1000000, n_l100000000, i_lt, nI_clamp, nI_leI, nI_eq, nI_1, nI_add, pk_mul, pk_sub, n_in, n_negle, n_legne, n_eqneg, n_negeq, n_nn, n_bit, n_shl1, n_or, zb_e0, zb_e1, zb_r, n_em, zb_T, zb_F, zS_uf1, zS_uf2, zS_ur1, zS_ur2, zS_ur3, zS_ul1, zS_ul2, zS_ul3, z_if0, z_if1, Int.reduceEq, Nat.reduceOr, Nat.or_zero, Nat.zero_or, Bool.false_eq_true, reduceCtorEq, nar0, nar1, nar_zb, eq_self, true_and, and_true, false_and, and_false, or_true, true_or, or_false, false_or, not_true_eq_false, not_false_eq_true, Classical.not_not, true_implies, false_implies, implies_true, iff_true, iff_self, ite_true, ite_false, Nat.reduceEqDiff, Nat.reduceLT, Nat.reduceSub, Nat.add_sub_cancel, Nat.reduceLeDiff, reduceIte, ne_eq, Nat.not_le, f1, Nat.not_le.mpr hp, lep, sn, PK_app, oi_s, q2, zur_same, zur_sw, zur_sw2, sa', ca']
                  exact ih1 _ _ _ g _ _
          · rw [vo_s l10] at lep
            have lb := I.2.2.2.2.1.1 p hp
            simp (disch := first | exact zl_i | exact zl_r | exact zl_n | omega | exact zlen0 | exact zlen1 | exact zlen2 | exact zlen3 | exact zlen4 | exact zl_l | (unfold scF; omega) | (unfold scR; omega) | (simp only [zS_uf1, zS_uf2, zS_ur1, zS_ur2, Nat.reduceEqDiff, reduceIte, and_false, false_and, and_true, true_and, ite_true, ite_false]; done) | exact zl_n) only [Int.reduceToNat, Nat.reduceAdd, Nat.reduceMul, List.length_nil, List.length_cons, Nat.reduceLeDiff, Nat.zero_le, Option.toList_some, Option.toList_none, List.cons_append, List.nil_append, PW_nil, PW_goto, zl_i, zl_r, zl_n, PW_aload_0, PX_c164, PW_k0, PW_istore_1, PW_iload_1, PW_k100, PW_ic_ge, PW_g781, PW_bs102, PW_iinc_1_p1, PW_k10, PW_g782, PW_km9, PW_is101, PW_is103, PW_g780, PW_k1, PW_if_eq, PW_istore_2, PW_iload_2, PW_g774, PW_ia101, PW_ia103, PW_ic_ne, PX_c170, PW_istore_3, PW_iload_3, PW_imul, PW_iadd, PW_istore_4, PW_iload_4, PW_ic_eq, PX_c169, PW_iinc_2_p1, PW_ret_v zret_171, zb_171_2, zb_171_4, zb_171_7, zb_171_8, zb_171_9, zb_171_10, zb_171_11, zb_171_12, zb_171_13, zb_171_14, PK_app, n_l0, n_l1, n_l2, n_l3, n_l4, n_l5, n_l8, n_l9, n_l10, n_l15, n_l20, n_l31, n_l40, n_l48, n_l57, n_l59, n_l60, n_l70, n_l99, n_l100, n_l255, n_l601, n_l602, n_l1024, n_l1500, n_l2100, n_l2101, n_l65535, n_l100000, n_l1000000, n_l100000000, i_lt, nI_clamp, nI_leI, nI_eq, nI_1, nI_add, pk_mul, pk_sub, n_in, n_negle, n_legne, n_eqneg, n_negeq, n_nn, n_bit, n_shl1, n_or, zb_e0, zb_e1, zb_r, n_em, zb_T, zb_F, zS_uf1, zS_uf2, zS_ur1, zS_ur2, zS_ur3, zS_ul1, zS_ul2, zS_ul3, z_if0, z_if1, Int.reduceEq, Nat.reduceOr, Nat.or_zero, Nat.zero_or, Bool.false_eq_true, reduceCtorEq, nar0, nar1, nar_zb, eq_self, true_and, and_true, false_and, and_false, or_true, true_or, or_false, false_or, not_true_eq_false, not_false_eq_true, Classical.not_not, true_implies, false_implies, implies_true, iff_true, iff_self, ite_true, ite_false, Nat.reduceEqDiff, Nat.reduceLT, Nat.reduceSub, Nat.add_sub_cancel, Nat.reduceLeDiff, reduceIte, ne_eq, Nat.not_le, f1, Nat.not_le.mpr hp, lep]
            exact ih (p + 1) (by omega) A L a kp le m I (quiet (Or.inl l10)) hc _ _
      rw [zb_171_5]
      simp (disch := first | exact zl_i | exact zl_r | exact zl_n | omega | exact zlen0 | exact zlen1 | exact zlen2 | exact zlen3 | exact zlen4 | exact zl_l | (unfold scF; omega) | (unfold scR; omega) | (simp only [zS_uf1, zS_uf2, zS_ur1, zS_ur2, Nat.reduceEqDiff, reduceIte, and_false, false_and, and_true, true_and, ite_true, ite_false]; done) | exact zl_n) only [Int.reduceToNat, Nat.reduceAdd, Nat.reduceMul, List.length_nil, List.length_cons, Nat.reduceLeDiff, Nat.zero_le, Option.toList_some, Option.toList_none, List.cons_append, List.nil_append, PW_nil, PW_goto, zl_i, zl_r, zl_n, PW_aload_0, PX_c164, PW_k0, PW_istore_1, PW_iload_1, PW_k100, PW_ic_ge, PW_g781, PW_bs102, PW_iinc_1_p1, PW_k10, PW_g782, PW_km9, PW_is101, PW_is103, PW_g780, PW_k1, PW_if_eq, PW_istore_2, PW_iload_2, PW_g774, PW_ia101, PW_ia103, PW_ic_ne, PX_c170, PW_istore_3, PW_iload_3, PW_imul, PW_iadd, PW_istore_4, PW_iload_4, PW_ic_eq, PX_c169, PW_iinc_2_p1, PW_ret_v zret_171, zb_171_2, zb_171_4, zb_171_7, zb_171_8, zb_171_9, zb_171_10, zb_171_11, zb_171_12, zb_171_13, zb_171_14, PK_app, n_l0, n_l1, n_l2, n_l3, n_l4, n_l5, n_l8, n_l9, n_l10, n_l15, n_l20, n_l31, n_l40, n_l48, n_l57, n_l59, n_l60, n_l70, n_l99, n_l100, n_l255, n_l601, n_l602, n_l1024, n_l1500, n_l2100, n_l2101, n_l65535, n_l100000, n_l1000000, n_l100000000, i_lt, nI_clamp, nI_leI, nI_eq, nI_1, nI_add, pk_mul, pk_sub, n_in, n_negle, n_legne, n_eqneg, n_negeq, n_nn, n_bit, n_shl1, n_or, zb_e0, zb_e1, zb_r, n_em, zb_T, zb_F, zS_uf1, zS_uf2, zS_ur1, zS_ur2, zS_ur3, zS_ul1, zS_ul2, zS_ul3, z_if0, z_if1, Int.reduceEq, Nat.reduceOr, Nat.or_zero, Nat.zero_or, Bool.false_eq_true, reduceCtorEq, nar0, nar1, nar_zb, eq_self, true_and, and_true, false_and, and_false, or_true, true_or, or_false, false_or, not_true_eq_false, not_false_eq_true, Classical.not_not, true_implies, false_implies, implies_true, iff_true, iff_self, ite_true, ite_false, Nat.reduceEqDiff, Nat.reduceLT, Nat.reduceSub, Nat.add_sub_cancel, Nat.reduceLeDiff, reduceIte, ne_eq, Nat.not_le]
      exact rnd np 0 (Nat.zero_add np) A0 L0 a0 kp0 le0 0 I0 (Or.inl ⟨rfl, fun q hq => absurd hq (Nat.not_lt_zero q)⟩) (Nat.le_refl _) _ _
  have l2 : ∀ a, (∀ x, x < 100 → a x = nI 0) → PW sc 171 (zblk 171 3) 4 [some (.ref 12), some (.int (nI 0)), none, none, none] [] (zur σ 102 a) Q := by
    intro a ha
    have ez : zur (zur (zur σ 102 a) 103 (w107 (fun _ => -nI 9) (σ.2.1 103) 0)) 101 (w107 (fun _ => -nI 9) (σ.2.1 101) 0) = zur σ 102 a := by
      rw [w107_0, w107_0]
      have e1 : zur (zur σ 102 a) 103 (σ.2.1 103) = zur σ 102 a := zur_id
      rw [e1]
      exact zur_id
    rw [← ez]
    refine (lp_all 10 (fun i => PW sc 171 (zblk 171 3) 4 [some (.ref 12), some (.int (nI i)), none, none, none] [] (zur (zur (zur σ 102 a) 103 (w107 (fun _ => -nI 9) (σ.2.1 103) i)) 101 (w107 (fun _ => -nI 9) (σ.2.1 101) i)) Q) (fun i hi => ?_)).mpr ?_
    · conv => lhs; rw [zb_171_3]
      have e3 : upd (w107 (fun _ => -nI 9) (σ.2.1 103) i) i (-nI 9) = w107 (fun _ => -nI 9) (σ.2.1 103) (i + 1) := w107_s
      have e1 : upd (w107 (fun _ => -nI 9) (σ.2.1 101) i) i (-nI 9) = w107 (fun _ => -nI 9) (σ.2.1 101) (i + 1) := w107_s
      simp (disch := first | exact zl_i | exact zl_r | exact zl_n | omega | exact zlen0 | exact zlen1 | exact zlen2 | exact zlen3 | exact zlen4 | exact zl_l | (unfold scF; omega) | (unfold scR; omega) | (simp only [zS_uf1, zS_uf2, zS_ur1, zS_ur2, Nat.reduceEqDiff, reduceIte, and_false, false_and, and_true, true_and, ite_true, ite_false]; done) | exact zl_n) only [Int.reduceToNat, Nat.reduceAdd, Nat.reduceMul, List.length_nil, List.length_cons, Nat.reduceLeDiff, Nat.zero_le, Option.toList_some, Option.toList_none, List.cons_append, List.nil_append, PW_nil, PW_goto, zl_i, zl_r, zl_n, PW_aload_0, PX_c164, PW_k0, PW_istore_1, PW_iload_1, PW_k100, PW_ic_ge, PW_g781, PW_bs102, PW_iinc_1_p1, PW_k10, PW_g782, PW_km9, PW_is101, PW_is103, PW_g780, PW_k1, PW_if_eq, PW_istore_2, PW_iload_2, PW_g774, PW_ia101, PW_ia103, PW_ic_ne, PX_c170, PW_istore_3, PW_iload_3, PW_imul, PW_iadd, PW_istore_4, PW_iload_4, PW_ic_eq, PX_c169, PW_iinc_2_p1, PW_ret_v zret_171, zb_171_2, zb_171_4, zb_171_7, zb_171_8, zb_171_9, zb_171_10, zb_171_11, zb_171_12, zb_171_13, zb_171_14, PK_app, n_l0, n_l1, n_l2, n_l3, n_l4, n_l5, n_l8, n_l9, n_l10, n_l15, n_l20, n_l31, n_l40, n_l48, n_l57, n_l59, n_l60, n_l70, n_l99, n_l100, n_l255, n_l601, n_l602, n_l1024, n_l1500, n_l2100, n_l2101, n_l65535, n_l100000, n_l1000000, n_l100000000, i_lt, nI_clamp, nI_leI, nI_eq, nI_1, nI_add, pk_mul, pk_sub, n_in, n_negle, n_legne, n_eqneg, n_negeq, n_nn, n_bit, n_shl1, n_or, zb_e0, zb_e1, zb_r, n_em, zb_T, zb_F, zS_uf1, zS_uf2, zS_ur1, zS_ur2, zS_ur3, zS_ul1, zS_ul2, zS_ul3, z_if0, z_if1, Int.reduceEq, Nat.reduceOr, Nat.or_zero, Nat.zero_or, Bool.false_eq_true, reduceCtorEq, nar0, nar1, nar_zb, eq_self, true_and, and_true, false_and, and_false, or_true, true_or, or_false, false_or, not_true_eq_false, not_false_eq_true, Classical.not_not, true_implies, false_implies, implies_true, iff_true, iff_self, ite_true, ite_false, Nat.reduceEqDiff, Nat.reduceLT, Nat.reduceSub, Nat.add_sub_cancel, Nat.reduceLeDiff, reduceIte, ne_eq, Nat.not_le, show ¬ 10 ≤ i by omega, zur_same, zur_sw, e3, e1]
    · rw [zb_171_3]
      simp (disch := first | exact zl_i | exact zl_r | exact zl_n | omega | exact zlen0 | exact zlen1 | exact zlen2 | exact zlen3 | exact zlen4 | exact zl_l | (unfold scF; omega) | (unfold scR; omega) | (simp only [zS_uf1, zS_uf2, zS_ur1, zS_ur2, Nat.reduceEqDiff, reduceIte, and_false, false_and, and_true, true_and, ite_true, ite_false]; done) | exact zl_n) only [Int.reduceToNat, Nat.reduceAdd, Nat.reduceMul, List.length_nil, List.length_cons, Nat.reduceLeDiff, Nat.zero_le, Option.toList_some, Option.toList_none, List.cons_append, List.nil_append, PW_nil, PW_goto, zl_i, zl_r, zl_n, PW_aload_0, PX_c164, PW_k0, PW_istore_1, PW_iload_1, PW_k100, PW_ic_ge, PW_g781, PW_bs102, PW_iinc_1_p1, PW_k10, PW_g782, PW_km9, PW_is101, PW_is103, PW_g780, PW_k1, PW_if_eq, PW_istore_2, PW_iload_2, PW_g774, PW_ia101, PW_ia103, PW_ic_ne, PX_c170, PW_istore_3, PW_iload_3, PW_imul, PW_iadd, PW_istore_4, PW_iload_4, PW_ic_eq, PX_c169, PW_iinc_2_p1, PW_ret_v zret_171, zb_171_2, zb_171_4, zb_171_7, zb_171_8, zb_171_9, zb_171_10, zb_171_11, zb_171_12, zb_171_13, zb_171_14, PK_app, n_l0, n_l1, n_l2, n_l3, n_l4, n_l5, n_l8, n_l9, n_l10, n_l15, n_l20, n_l31, n_l40, n_l48, n_l57, n_l59, n_l60, n_l70, n_l99, n_l100, n_l255, n_l601, n_l602, n_l1024, n_l1500, n_l2100, n_l2101, n_l65535, n_l100000, n_l1000000, n_l100000000, i_lt, nI_clamp, nI_leI, nI_eq, nI_1, nI_add, pk_mul, pk_sub, n_in, n_negle, n_legne, n_eqneg, n_negeq, n_nn, n_bit, n_shl1, n_or, zb_e0, zb_e1, zb_r, n_em, zb_T, zb_F, zS_uf1, zS_uf2, zS_ur1, zS_ur2, zS_ur3, zS_ul1, zS_ul2, zS_ul3, z_if0, z_if1, Int.reduceEq, Nat.reduceOr, Nat.or_zero, Nat.zero_or, Bool.false_eq_true, reduceCtorEq, nar0, nar1, nar_zb, eq_self, true_and, and_true, false_and, and_false, or_true, true_or, or_false, false_or, not_true_eq_false, not_false_eq_true, Classical.not_not, true_implies, false_implies, implies_true, iff_true, iff_self, ite_true, ite_false, Nat.reduceEqDiff, Nat.reduceLT, Nat.reduceSub, Nat.add_sub_cancel, Nat.reduceLeDiff, reduceIte, ne_eq, Nat.not_le, Nat.le_refl]
      refine main 101 (fun _ => False) (fun _ => 10) a _ _ ⟨fun p v hp hv => ?_, fun _ _ _ _ z => z.elim, fun _ _ _ _ _ _ z => z.elim, fun _ _ _ _ z => z.elim, ⟨fun _ _ => Or.inl rfl, fun _ _ _ _ _ n => absurd rfl n⟩, fun _ _ n => absurd rfl n, fun p hp => ?_, fun v hv => Or.inl ⟨if_pos (by omega), fun _ _ => ?_⟩⟩ (by omega) _ _ _
      · rw [ha _ (by omega)]
        exact (zb_f (fun z => z)).symm
      · rw [vo_n]
        exact if_pos (by omega)
      · show 10 ≠ v
        omega
  have ez : zur σ 102 (w107 (fun _ => nI 0) (σ.2.1 102) 0) = σ := by
    rw [w107_0]
    exact zur_id
  have l1 : PW sc 171 (zblk 171 1) 2 [some (.ref 12), some (.int (nI 0)), none, none, none] [] (zur σ 102 (w107 (fun _ => nI 0) (σ.2.1 102) 0)) Q := by
    refine (lp_all 100 (fun i => PW sc 171 (zblk 171 1) 2 [some (.ref 12), some (.int (nI i)), none, none, none] [] (zur σ 102 (w107 (fun _ => nI 0) (σ.2.1 102) i)) Q) (fun i hi => ?_)).mpr ?_
    · conv => lhs; rw [zb_171_1]
      have e2 : upd (w107 (fun _ => nI 0) (σ.2.1 102) i) i (nI 0) = w107 (fun _ => nI 0) (σ.2.1 102) (i + 1) := w107_s
      simp (disch := first | exact zl_i | exact zl_r | exact zl_n | omega | exact zlen0 | exact zlen1 | exact zlen2 | exact zlen3 | exact zlen4 | exact zl_l | (unfold scF; omega) | (unfold scR; omega) | (simp only [zS_uf1, zS_uf2, zS_ur1, zS_ur2, Nat.reduceEqDiff, reduceIte, and_false, false_and, and_true, true_and, ite_true, ite_false]; done) | exact zl_n) only [Int.reduceToNat, Nat.reduceAdd, Nat.reduceMul, List.length_nil, List.length_cons, Nat.reduceLeDiff, Nat.zero_le, Option.toList_some, Option.toList_none, List.cons_append, List.nil_append, PW_nil, PW_goto, zl_i, zl_r, zl_n, PW_aload_0, PX_c164, PW_k0, PW_istore_1, PW_iload_1, PW_k100, PW_ic_ge, PW_g781, PW_bs102, PW_iinc_1_p1, PW_k10, PW_g782, PW_km9, PW_is101, PW_is103, PW_g780, PW_k1, PW_if_eq, PW_istore_2, PW_iload_2, PW_g774, PW_ia101, PW_ia103, PW_ic_ne, PX_c170, PW_istore_3, PW_iload_3, PW_imul, PW_iadd, PW_istore_4, PW_iload_4, PW_ic_eq, PX_c169, PW_iinc_2_p1, PW_ret_v zret_171, zb_171_2, zb_171_4, zb_171_7, zb_171_8, zb_171_9, zb_171_10, zb_171_11, zb_171_12, zb_171_13, zb_171_14, PK_app, n_l0, n_l1, n_l2, n_l3, n_l4, n_l5, n_l8, n_l9, n_l10, n_l15, n_l20, n_l31, n_l40, n_l48, n_l57, n_l59, n_l60, n_l70, n_l99, n_l100, n_l255, n_l601, n_l602, n_l1024, n_l1500, n_l2100, n_l2101, n_l65535, n_l100000, n_l1000000, n_l100000000, i_lt, nI_clamp, nI_leI, nI_eq, nI_1, nI_add, pk_mul, pk_sub, n_in, n_negle, n_legne, n_eqneg, n_negeq, n_nn, n_bit, n_shl1, n_or, zb_e0, zb_e1, zb_r, n_em, zb_T, zb_F, zS_uf1, zS_uf2, zS_ur1, zS_ur2, zS_ur3, zS_ul1, zS_ul2, zS_ul3, z_if0, z_if1, Int.reduceEq, Nat.reduceOr, Nat.or_zero, Nat.zero_or, Bool.false_eq_true, reduceCtorEq, nar0, nar1, nar_zb, eq_self, true_and, and_true, false_and, and_false, or_true, true_or, or_false, false_or, not_true_eq_false, not_false_eq_true, Classical.not_not, true_implies, false_implies, implies_true, iff_true, iff_self, ite_true, ite_false, Nat.reduceEqDiff, Nat.reduceLT, Nat.reduceSub, Nat.add_sub_cancel, Nat.reduceLeDiff, reduceIte, ne_eq, Nat.not_le, show ¬ 100 ≤ i by omega, zur_same, e2]
    · rw [zb_171_1]
      simp (disch := first | exact zl_i | exact zl_r | exact zl_n | omega | exact zlen0 | exact zlen1 | exact zlen2 | exact zlen3 | exact zlen4 | exact zl_l | (unfold scF; omega) | (unfold scR; omega) | (simp only [zS_uf1, zS_uf2, zS_ur1, zS_ur2, Nat.reduceEqDiff, reduceIte, and_false, false_and, and_true, true_and, ite_true, ite_false]; done) | exact zl_n) only [Int.reduceToNat, Nat.reduceAdd, Nat.reduceMul, List.length_nil, List.length_cons, Nat.reduceLeDiff, Nat.zero_le, Option.toList_some, Option.toList_none, List.cons_append, List.nil_append, PW_nil, PW_goto, zl_i, zl_r, zl_n, PW_aload_0, PX_c164, PW_k0, PW_istore_1, PW_iload_1, PW_k100, PW_ic_ge, PW_g781, PW_bs102, PW_iinc_1_p1, PW_k10, PW_g782, PW_km9, PW_is101, PW_is103, PW_g780, PW_k1, PW_if_eq, PW_istore_2, PW_iload_2, PW_g774, PW_ia101, PW_ia103, PW_ic_ne, PX_c170, PW_istore_3, PW_iload_3, PW_imul, PW_iadd, PW_istore_4, PW_iload_4, PW_ic_eq, PX_c169, PW_iinc_2_p1, PW_ret_v zret_171, zb_171_2, zb_171_4, zb_171_7, zb_171_8, zb_171_9, zb_171_10, zb_171_11, zb_171_12, zb_171_13, zb_171_14, PK_app, n_l0, n_l1, n_l2, n_l3, n_l4, n_l5, n_l8, n_l9, n_l10, n_l15, n_l20, n_l31, n_l40, n_l48, n_l57, n_l59, n_l60, n_l70, n_l99, n_l100, n_l255, n_l601, n_l602, n_l1024, n_l1500, n_l2100, n_l2101, n_l65535, n_l100000, n_l1000000, n_l100000000, i_lt, nI_clamp, nI_leI, nI_eq, nI_1, nI_add, pk_mul, pk_sub, n_in, n_negle, n_legne, n_eqneg, n_negeq, n_nn, n_bit, n_shl1, n_or, zb_e0, zb_e1, zb_r, n_em, zb_T, zb_F, zS_uf1, zS_uf2, zS_ur1, zS_ur2, zS_ur3, zS_ul1, zS_ul2, zS_ul3, z_if0, z_if1, Int.reduceEq, Nat.reduceOr, Nat.or_zero, Nat.zero_or, Bool.false_eq_true, reduceCtorEq, nar0, nar1, nar_zb, eq_self, true_and, and_true, false_and, and_false, or_true, true_or, or_false, false_or, not_true_eq_false, not_false_eq_true, Classical.not_not, true_implies, false_implies, implies_true, iff_true, iff_self, ite_true, ite_false, Nat.reduceEqDiff, Nat.reduceLT, Nat.reduceSub, Nat.add_sub_cancel, Nat.reduceLeDiff, reduceIte, ne_eq, Nat.not_le, Nat.le_refl]
      exact l2 _ (fun x hx => if_pos hx)
  rw [ez] at l1
  exact l1
end NX
