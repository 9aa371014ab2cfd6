/-! the class's calls: spread, plane, over, all trips on one day -/
theorem pcd_le {x : Int32} : pcd x ≤ 2 := by
  unfold pcd
  split
  · omega
  · split <;> omega
theorem ix_ex {c : Nat → Prop} {i : Nat} : ∀ {n : Nat}, i < cnt c n → c (ix c n i) ∧ ix c n i < n ∧ cnt c (ix c n i) = i
  | 0, q => absurd q (Nat.not_lt_zero i)
  | n + 1, q => by
    by_cases z : c n ∧ cnt c n = i
    · have e : ix c (n + 1) i = n := cif_t z
      rw [e]
      exact ⟨z.1, by omega, z.2⟩
    · have e : ix c (n + 1) i = ix c n i := cif_f z
      have q' : i < cnt c n := by
        by_cases k : c n
        · rw [cnt_t k] at q
          have : ¬ cnt c n = i := fun w => z ⟨k, w⟩
          omega
        · rw [cnt_f k] at q; exact q
      obtain ⟨a, b, d⟩ := ix_ex q'
      rw [e]
      exact ⟨a, by omega, d⟩
section DYX
variable {V D B W : Nat → Int32} {d : Int32} {n : Nat}
theorem dX_of (h : trp V D B W n) {j : Nat} (hj : j < dM D d n) : ∃ t v, t < n ∧ onD D d t ∧ tj D d n j = t ∧ v < 10 ∧ V t = nI v ∧ W v = nI (dX V D W d n j) ∧ dX V D W d n j ≤ 1000000 ∧ cnt (onD D d) t = dM D d n - 1 - j := by
  obtain ⟨a, b, e⟩ := ix_ex (c := onD D d) (n := n) (i := dM D d n - 1 - j) (by have : dM D d n = cnt (onD D d) n := rfl; omega)
  obtain ⟨⟨v, v1, v2⟩, _⟩ := h.2.1 _ b
  obtain ⟨w, w1, w2⟩ := h.2.2.2 v v1
  refine ⟨_, v, b, a, rfl, v1, v2, ?_, ?_, e⟩
  · unfold dX tj
    rw [v2, n_cl (by omega), w2, n_cl (by omega)]
  · unfold dX tj
    rw [v2, n_cl (by omega), w2, n_cl (by omega)]
    exact w1
end DYX
theorem ldn_0 {P X : Nat → Nat} : ∀ k, ldn P X 0 k = 0
  | 0 => rfl
  | k + 1 => (ldn_l (Nat.pow_pos (by omega))).trans (ldn_0 k)
noncomputable def wF (σ : zS) (P X : Nat → Nat) (m k : Nat) : zS := zuf (zuf (wS σ P X m) 9 10 (nI k)) 9 9 (rkM X m (ins P m k))
def eq9 (σ τ : zS) : Prop := (∀ c j, ¬ c = 9 ∨ j ≤ 4 → τ.1 c j = σ.1 c j) ∧ (∀ a, ¬ a = 76 → ¬ a = 77 → τ.2.1 a = σ.2.1 a) ∧ τ.2.1 76 0 = nI 0 ∧ τ.2.2 = σ.2.2
theorem eq9_rf {σ : zS} (h : σ.2.1 76 0 = nI 0) : eq9 σ σ := ⟨fun _ _ _ => rfl, fun _ _ _ => rfl, h, rfl⟩
theorem eq9_tr {σ τ υ : zS} (h : eq9 σ τ) (k : eq9 τ υ) : eq9 σ υ := ⟨fun c j q => (k.1 c j q).trans (h.1 c j q), fun a p q => (k.2.1 a p q).trans (h.2.1 a p q), k.2.2.1, k.2.2.2.trans h.2.2.2⟩
theorem eq9_wF {σ : zS} {P X : Nat → Nat} {m k : Nat} : eq9 σ (wF σ P X m k) := by
  unfold wF wS
  refine ⟨fun c j q => ?_, fun a p q => ?_, ?_, rfl⟩
  · simp only [zS_uf1, zS_ur1]
    rw [if_neg (by omega), if_neg (by omega), if_neg (by omega), if_neg (by omega)]
  · simp only [zS_uf2, zS_ur2]
    rw [if_neg p, if_neg q]
  · simp only [zS_uf2, zS_ur2, if_true]
    unfold lrow
    rw [if_pos (Nat.pow_pos (by omega)), ldn_0]
def TR (σ : zS) (n : Nat) (V D B W : Nat → Int32) : Prop := σ.2.1 73 = V ∧ σ.2.1 74 = D ∧ σ.2.1 75 = B ∧ σ.2.1 80 = W ∧ σ.1 9 3 = nI n ∧ σ.2.1 76 0 = nI 0 ∧ trp V D B W n ∧ ∀ t, t < n → D t = nI 9
theorem TR.e9 {σ τ : zS} {n : Nat} {V D B W : Nat → Int32} (h : TR σ n V D B W) (k : eq9 σ τ) : TR τ n V D B W := by
  obtain ⟨h1, h2, h3, h4, h5, h6, h7, h8⟩ := h
  obtain ⟨k1, k2, k3, k4⟩ := k
  exact ⟨by rw [k2 _ (by omega) (by omega)]; exact h1, by rw [k2 _ (by omega) (by omega)]; exact h2, by rw [k2 _ (by omega) (by omega)]; exact h3, by rw [k2 _ (by omega) (by omega)]; exact h4, by rw [k1 _ _ (Or.inr (by omega))]; exact h5, k3, h7, h8⟩
section DN
variable {n : Nat} {V D B W : Nat → Int32}
theorem dN_cnt (h : ∀ t, t < n → D t = nI 9) {t : Nat} (ht : t ≤ n) : cnt (onD D (nI 9)) t = t := cnt_all (fun j hj => h j (by omega))
theorem dN_M (h : ∀ t, t < n → D t = nI 9) : dM D (nI 9) n = n := dN_cnt h (Nat.le_refl n)
theorem dN_tj (h : ∀ t, t < n → D t = nI 9) {j : Nat} (hj : j < n) : tj D (nI 9) n j = n - 1 - j := by
  unfold tj
  rw [dN_M h]
  have := ix_of (c := onD D (nI 9)) (h (n - 1 - j) (by omega)) (n := n) (by omega)
  rw [dN_cnt h (by omega)] at this
  exact this
variable {sc : zX} {σ : zS} {Q : Option Value → zS → Prop}
theorem wg_9 {d : Int32} (T : TR σ n V D B W) : ∃ k, k < 2 ^ frn (dP D B d n) (dM D d n) ∧ nx (wok (dP D B d n) (dM D d n)) (rkM (dX V D W d n) (dM D d n)) (2 ^ dM D d n) = some (ins (dP D B d n) (dM D d n) k) ∧ ∀ Q, PC sc 28 [.ref 9, .int d, .ref 10] σ Q ↔ Q none (wF σ (dP D B d n) (dX V D W d n) (dM D d n) k) := by
  obtain ⟨h1, h2, h3, h4, h5, h6, h7, h8⟩ := T
  subst h1 h2 h3 h4
  have hX : ∀ j, j < dM (σ.2.1 74) d n → dX (σ.2.1 73) (σ.2.1 74) (σ.2.1 80) d n j ≤ 1000000 := fun j hj => by
    obtain ⟨t, v, t1, t2, t3, t4, t5, t6, t7, t8⟩ := dX_of h7 (d := d) (j := j) hj
    exact t7
  obtain ⟨k, k1, k2, k3, k4⟩ := risk_same (σ := σ) (P := dP (σ.2.1 74) (σ.2.1 75) d n) (X := dX (σ.2.1 73) (σ.2.1 74) (σ.2.1 80) d n) (dM_le h7 (d := d)) (fun j => pcd_le) hX
  refine ⟨k, k1, k3, fun Q => ?_⟩
  have s := sp_weigh (sc := sc) (σ := σ) (Q := Q) (d := d) h6 h5 h7 rfl rfl rfl k2
  rw [k4] at s
  exact s
theorem sp_spread (T : TR σ n V D B W) {d b : Nat} (hd : d ≤ 100000) (hb : nx (wok (dP D B (nI d) n) (dM D (nI d) n)) (rkM (dX V D W (nI d) n) (dM D (nI d) n)) (2 ^ dM D (nI d) n) = some b) (hQ : ∀ τ, eq9 σ τ → Q (some (.int (rkM (dX V D W (nI d) n) (dM D (nI d) n) b))) τ) : PC sc 43 [.ref 11, .int (nI d)] σ Q := by
  obtain ⟨k, k1, k2, k3⟩ := wg_9 (sc := sc) (d := nI d) T
  rw [hb] at k2
  have hb' : b = ins (dP D B (nI d) n) (dM D (nI d) n) k := Option.some.inj k2
  have hq := hQ _ (eq9_wF (P := dP D B (nI d) n) (X := dX V D W (nI d) n) (m := dM D (nI d) n) (k := k))
  have e : (wF σ (dP D B (nI d) n) (dX V D W (nI d) n) (dM D (nI d) n) k).1 9 9 = rkM (dX V D W (nI d) n) (dM D (nI d) n) b := by rw [hb']; rfl
  generalize wF σ (dP D B (nI d) n) (dX V D W (nI d) n) (dM D (nI d) n) k = S at *
  rw [PC_43, zb_43_0]
  simp (disch := first | exact zl_i | exact zl_r | exact zl_n | omega | exact zlen0 | exact zlen1 | exact zlen2 | exact zlen3 | exact zlen4 | exact zl_l | (simp only [zS_uf1, zS_uf2, zS_ur1, zS_ur2, Nat.reduceEqDiff, reduceIte, and_false, false_and, and_true, true_and, ite_true, ite_false]; done) | exact zl_n) only [Int.reduceToNat, Nat.reduceAdd, Nat.reduceMul, List.length_nil, List.length_cons, Nat.reduceLeDiff, Nat.zero_le, Option.toList_some, Option.toList_none, List.cons_append, List.nil_append, PW_nil, PW_goto, zl_i, zl_r, zl_n, PW_iload_1, PW_k0, PW_k100000, PX_c55, PW_if_ne, PW_km2, PW_ret_i zret_43, PW_aload_0, PW_g709, PW_g704, PX_c28, PW_g585, zb_43_1, PK_app, n_l6, n_l7, n_l12, n_l13, n_l14, n_l16, n_l21, n_l22, n_l25, n_l28, n_l29, n_l30, n_l33, n_l35, n_l36, n_l50, n_l55, n_l61, n_l63, n_l64, n_l101, n_l1000, n_l2147483647, n_l0, n_l1, n_l2, n_l3, n_l4, n_l5, n_l8, n_l9, n_l10, n_l15, n_l20, n_l31, n_l40, n_l48, n_l57, n_l59, n_l60, n_l70, n_l99, n_l100, n_l255, n_l601, n_l602, n_l1024, n_l1500, n_l2100, n_l2101, n_l65535, n_l100000, n_l1000000, n_l100000000, i_lt, nI_clamp, nI_leI, nI_eq, nI_1, nI_add, pk_mul, pk_sub, n_in, n_negle, n_legne, n_eqneg, n_negeq, n_nn, n_bit, n_shl1, n_or, zb_e0, zb_e1, zb_r, n_em, zb_T, zb_F, zS_uf1, zS_uf2, zS_ur1, zS_ur2, zS_ur3, zS_ul1, zS_ul2, zS_ul3, z_if0, z_if1, Int.reduceEq, Nat.reduceOr, Nat.or_zero, Nat.zero_or, Bool.false_eq_true, reduceCtorEq, nar0, nar1, nar_zb, eq_self, true_and, and_true, false_and, and_false, or_true, true_or, or_false, false_or, not_true_eq_false, not_false_eq_true, Classical.not_not, true_implies, false_implies, implies_true, iff_true, iff_self, ite_true, ite_false, Nat.reduceEqDiff, Nat.reduceLT, Nat.reduceSub, Nat.add_sub_cancel, Nat.reduceLeDiff, reduceIte, ne_eq, Nat.not_le, sp_within, hd, Nat.zero_le, k3, e]
  exact hq
theorem sp_plane (T : TR σ n V D B W) {t b : Nat} (ht : t < n) (hb : nx (wok (dP D B (nI 9) n) n) (rkM (dX V D W (nI 9) n) n) (2 ^ n) = some b) (hQ : ∀ τ, eq9 σ τ → Q (some (.int (zb (b.testBit (n - 1 - t) = true)))) τ) : PC sc 44 [.ref 11, .int (nI t)] σ Q := by
  obtain ⟨k, k1, k2, k3⟩ := wg_9 (sc := sc) (d := nI 9) T
  obtain ⟨h1, h2, h3, h4, h5, h6, h7, h8⟩ := T
  have hn40 : n ≤ 40 := h7.1
  have hM := dN_M (D := D) h8
  have hM10 : n ≤ 10 := by
    have := dM_le h7 (d := nI 9)
    rw [hM] at this
    exact this
  rw [hM] at k1 k2 k3
  rw [hb] at k2
  have hb' : b = ins (dP D B (nI 9) n) n k := Option.some.inj k2
  have hE := eq9_wF (σ := σ) (P := dP D B (nI 9) n) (X := dX V D W (nI 9) n) (m := n) (k := k)
  have hq := hQ _ hE
  have e10 : (wF σ (dP D B (nI 9) n) (dX V D W (nI 9) n) n k).1 9 10 = nI k := rfl
  generalize wF σ (dP D B (nI 9) n) (dX V D W (nI 9) n) n k = S at *
  have s3 : S.1 9 3 = nI n := by rw [hE.1 _ _ (Or.inr (by omega))]; exact h5
  have s74 : S.2.1 74 = D := by rw [hE.2.1 _ (by omega) (by omega)]; exact h2
  have s75 : S.2.1 75 = B := by rw [hE.2.1 _ (by omega) (by omega)]; exact h3
  have hDt := h8 t ht
  have sp := fun Q => sp_planeOf (sc := sc) (σ := S) (Q := Q) (t := t) (n := n) (m := n) (k := k) (P := dP D B (nI 9) n) s3 ht hn40 (by rw [s75]; exact (h7.2.1 t ht).2.2) (by rw [s74, hDt, hM]) hM10 (by rw [s74, s75, hDt]) k1 e10
  rw [s74, hDt, dN_cnt h8 (by omega), ← hb'] at sp
  have e74 : σ.2.1 74 t = nI 9 := by rw [h2]; exact hDt
  rw [PC_44, zb_44_0]
  simp (disch := first | exact zl_i | exact zl_r | exact zl_n | omega | exact zlen0 | exact zlen1 | exact zlen2 | exact zlen3 | exact zlen4 | exact zl_l | (simp only [zS_uf1, zS_uf2, zS_ur1, zS_ur2, Nat.reduceEqDiff, reduceIte, and_false, false_and, and_true, true_and, ite_true, ite_false]; done) | exact zl_n) only [Int.reduceToNat, Nat.reduceAdd, Nat.reduceMul, List.length_nil, List.length_cons, Nat.reduceLeDiff, Nat.zero_le, Option.toList_some, Option.toList_none, List.cons_append, List.nil_append, PW_nil, PW_goto, zl_i, zl_r, zl_n, PW_aload_0, PW_g709, PW_iload_1, PX_c25, PW_if_ne, PW_km1, PW_ret_i zret_44, PW_g577, PW_ia74, PW_g704, PX_c28, PX_c32, zb_44_1, PK_app, n_l6, n_l7, n_l12, n_l13, n_l14, n_l16, n_l21, n_l22, n_l25, n_l28, n_l29, n_l30, n_l33, n_l35, n_l36, n_l50, n_l55, n_l61, n_l63, n_l64, n_l101, n_l1000, n_l2147483647, n_l0, n_l1, n_l2, n_l3, n_l4, n_l5, n_l8, n_l9, n_l10, n_l15, n_l20, n_l31, n_l40, n_l48, n_l57, n_l59, n_l60, n_l70, n_l99, n_l100, n_l255, n_l601, n_l602, n_l1024, n_l1500, n_l2100, n_l2101, n_l65535, n_l100000, n_l1000000, n_l100000000, i_lt, nI_clamp, nI_leI, nI_eq, nI_1, nI_add, pk_mul, pk_sub, n_in, n_negle, n_legne, n_eqneg, n_negeq, n_nn, n_bit, n_shl1, n_or, zb_e0, zb_e1, zb_r, n_em, zb_T, zb_F, zS_uf1, zS_uf2, zS_ur1, zS_ur2, zS_ur3, zS_ul1, zS_ul2, zS_ul3, z_if0, z_if1, Int.reduceEq, Nat.reduceOr, Nat.or_zero, Nat.zero_or, Bool.false_eq_true, reduceCtorEq, nar0, nar1, nar_zb, eq_self, true_and, and_true, false_and, and_false, or_true, true_or, or_false, false_or, not_true_eq_false, not_false_eq_true, Classical.not_not, true_implies, false_implies, implies_true, iff_true, iff_self, ite_true, ite_false, Nat.reduceEqDiff, Nat.reduceLT, Nat.reduceSub, Nat.add_sub_cancel, Nat.reduceLeDiff, reduceIte, ne_eq, Nat.not_le, sp_knows9, h5, show ¬ n ≤ t by omega, Nat.zero_le, e74, k3, sp]
  exact hq
theorem sp_over (T : TR σ n V D B W) {b : Nat} {l : Int32} (hl : σ.1 9 4 = l) (hl0 : nI 0 ≤ l) (hb : nx (wok (dP D B (nI 9) n) n) (rkM (dX V D W (nI 9) n) n) (2 ^ n) = some b) (hQ : ∀ τ, eq9 σ τ → Q (some (.int (zb (¬ rkM (dX V D W (nI 9) n) n b ≤ l)))) τ) : PC sc 33 [.ref 9, .ref 10] σ Q := by
  obtain ⟨k, k1, k2, k3⟩ := wg_9 (sc := sc) (d := nI 9) T
  have T' := T
  obtain ⟨h1, h2, h3, h4, h5, h6, h7, h8⟩ := T
  have hn40 : n ≤ 40 := h7.1
  have hM := dN_M (D := D) h8
  rw [hM] at k1 k2 k3
  rw [hb] at k2
  have hb' : b = ins (dP D B (nI 9) n) n k := Option.some.inj k2
  by_cases h0 : n = 0
  · have hq := hQ σ (eq9_rf h6)
    have e : rkM (dX V D W (nI 9) n) n b = nI 0 := by
      rw [h0]
      rfl
    rw [e, zb_f (fun z => z hl0)] at hq
    rw [PC_33, zb_33_0]
    simp (disch := first | exact zl_i | exact zl_r | exact zl_n | omega | exact zlen0 | exact zlen1 | exact zlen2 | exact zlen3 | exact zlen4 | exact zl_l | (simp only [zS_uf1, zS_uf2, zS_ur1, zS_ur2, Nat.reduceEqDiff, reduceIte, and_false, false_and, and_true, true_and, ite_true, ite_false]; done) | exact zl_n) only [Int.reduceToNat, Nat.reduceAdd, Nat.reduceMul, List.length_nil, List.length_cons, Nat.reduceLeDiff, Nat.zero_le, Option.toList_some, Option.toList_none, List.cons_append, List.nil_append, PW_nil, PW_goto, zl_i, zl_r, zl_n, PW_k0, PW_istore_2, PW_istore_3, PW_iload_3, PW_aload_0, PW_g579, PW_ic_ge, PX_c34, PW_if_eq, PW_g577, PW_ia74, PW_aload_1, PX_c28, PW_g585, PW_g580, PW_ic_le, PW_iinc_2_p1, PW_iinc_3_p1, PW_iload_2, PW_ret_i zret_33, zb_33_2, zb_33_3, PK_app, n_l6, n_l7, n_l12, n_l13, n_l14, n_l16, n_l21, n_l22, n_l25, n_l28, n_l29, n_l30, n_l33, n_l35, n_l36, n_l50, n_l55, n_l61, n_l63, n_l64, n_l101, n_l1000, n_l2147483647, n_l0, n_l1, n_l2, n_l3, n_l4, n_l5, n_l8, n_l9, n_l10, n_l15, n_l20, n_l31, n_l40, n_l48, n_l57, n_l59, n_l60, n_l70, n_l99, n_l100, n_l255, n_l601, n_l602, n_l1024, n_l1500, n_l2100, n_l2101, n_l65535, n_l100000, n_l1000000, n_l100000000, i_lt, nI_clamp, nI_leI, nI_eq, nI_1, nI_add, pk_mul, pk_sub, n_in, n_negle, n_legne, n_eqneg, n_negeq, n_nn, n_bit, n_shl1, n_or, zb_e0, zb_e1, zb_r, n_em, zb_T, zb_F, zS_uf1, zS_uf2, zS_ur1, zS_ur2, zS_ur3, zS_ul1, zS_ul2, zS_ul3, z_if0, z_if1, Int.reduceEq, Nat.reduceOr, Nat.or_zero, Nat.zero_or, Bool.false_eq_true, reduceCtorEq, nar0, nar1, nar_zb, eq_self, true_and, and_true, false_and, and_false, or_true, true_or, or_false, false_or, not_true_eq_false, not_false_eq_true, Classical.not_not, true_implies, false_implies, implies_true, iff_true, iff_self, ite_true, ite_false, Nat.reduceEqDiff, Nat.reduceLT, Nat.reduceSub, Nat.add_sub_cancel, Nat.reduceLeDiff, reduceIte, ne_eq, Nat.not_le]
    rw [zb_33_1]
    simp (disch := first | exact zl_i | exact zl_r | exact zl_n | omega | exact zlen0 | exact zlen1 | exact zlen2 | exact zlen3 | exact zlen4 | exact zl_l | (simp only [zS_uf1, zS_uf2, zS_ur1, zS_ur2, Nat.reduceEqDiff, reduceIte, and_false, false_and, and_true, true_and, ite_true, ite_false]; done) | exact zl_n) only [Int.reduceToNat, Nat.reduceAdd, Nat.reduceMul, List.length_nil, List.length_cons, Nat.reduceLeDiff, Nat.zero_le, Option.toList_some, Option.toList_none, List.cons_append, List.nil_append, PW_nil, PW_goto, zl_i, zl_r, zl_n, PW_k0, PW_istore_2, PW_istore_3, PW_iload_3, PW_aload_0, PW_g579, PW_ic_ge, PX_c34, PW_if_eq, PW_g577, PW_ia74, PW_aload_1, PX_c28, PW_g585, PW_g580, PW_ic_le, PW_iinc_2_p1, PW_iinc_3_p1, PW_iload_2, PW_ret_i zret_33, zb_33_2, zb_33_3, PK_app, n_l6, n_l7, n_l12, n_l13, n_l14, n_l16, n_l21, n_l22, n_l25, n_l28, n_l29, n_l30, n_l33, n_l35, n_l36, n_l50, n_l55, n_l61, n_l63, n_l64, n_l101, n_l1000, n_l2147483647, n_l0, n_l1, n_l2, n_l3, n_l4, n_l5, n_l8, n_l9, n_l10, n_l15, n_l20, n_l31, n_l40, n_l48, n_l57, n_l59, n_l60, n_l70, n_l99, n_l100, n_l255, n_l601, n_l602, n_l1024, n_l1500, n_l2100, n_l2101, n_l65535, n_l100000, n_l1000000, n_l100000000, i_lt, nI_clamp, nI_leI, nI_eq, nI_1, nI_add, pk_mul, pk_sub, n_in, n_negle, n_legne, n_eqneg, n_negeq, n_nn, n_bit, n_shl1, n_or, zb_e0, zb_e1, zb_r, n_em, zb_T, zb_F, zS_uf1, zS_uf2, zS_ur1, zS_ur2, zS_ur3, zS_ul1, zS_ul2, zS_ul3, z_if0, z_if1, Int.reduceEq, Nat.reduceOr, Nat.or_zero, Nat.zero_or, Bool.false_eq_true, reduceCtorEq, nar0, nar1, nar_zb, eq_self, true_and, and_true, false_and, and_false, or_true, true_or, or_false, false_or, not_true_eq_false, not_false_eq_true, Classical.not_not, true_implies, false_implies, implies_true, iff_true, iff_self, ite_true, ite_false, Nat.reduceEqDiff, Nat.reduceLT, Nat.reduceSub, Nat.add_sub_cancel, Nat.reduceLeDiff, reduceIte, ne_eq, Nat.not_le, h5, h0, Nat.le_refl]
    exact hq
  · have hE := eq9_wF (σ := σ) (P := dP D B (nI 9) n) (X := dX V D W (nI 9) n) (m := n) (k := k)
    have hq := hQ _ hE
    have e9 : (wF σ (dP D B (nI 9) n) (dX V D W (nI 9) n) n k).1 9 9 = rkM (dX V D W (nI 9) n) n b := by rw [hb']; rfl
    generalize wF σ (dP D B (nI 9) n) (dX V D W (nI 9) n) n k = S at *
    have s3 : S.1 9 3 = nI n := by rw [hE.1 _ _ (Or.inr (by omega))]; exact h5
    have s4 : S.1 9 4 = l := by rw [hE.1 _ _ (Or.inr (by omega))]; exact hl
    have s74 : S.2.1 74 = D := by rw [hE.2.1 _ (by omega) (by omega)]; exact h2
    have e74 : σ.2.1 74 0 = nI 9 := by rw [h2]; exact h8 0 (by omega)
    have f0 := fun Q => sp_isFirst (sc := sc) (σ := σ) (Q := Q) (i := 0) h5 (by omega) hn40 h2
    rw [zb_t (show fstD D 0 from fun ⟨j, hj, _⟩ => absurd hj (Nat.not_lt_zero j))] at f0
    rw [PC_33, zb_33_0]
    simp (disch := first | exact zl_i | exact zl_r | exact zl_n | omega | exact zlen0 | exact zlen1 | exact zlen2 | exact zlen3 | exact zlen4 | exact zl_l | (simp only [zS_uf1, zS_uf2, zS_ur1, zS_ur2, Nat.reduceEqDiff, reduceIte, and_false, false_and, and_true, true_and, ite_true, ite_false]; done) | exact zl_n) only [Int.reduceToNat, Nat.reduceAdd, Nat.reduceMul, List.length_nil, List.length_cons, Nat.reduceLeDiff, Nat.zero_le, Option.toList_some, Option.toList_none, List.cons_append, List.nil_append, PW_nil, PW_goto, zl_i, zl_r, zl_n, PW_k0, PW_istore_2, PW_istore_3, PW_iload_3, PW_aload_0, PW_g579, PW_ic_ge, PX_c34, PW_if_eq, PW_g577, PW_ia74, PW_aload_1, PX_c28, PW_g585, PW_g580, PW_ic_le, PW_iinc_2_p1, PW_iinc_3_p1, PW_iload_2, PW_ret_i zret_33, zb_33_2, zb_33_3, PK_app, n_l6, n_l7, n_l12, n_l13, n_l14, n_l16, n_l21, n_l22, n_l25, n_l28, n_l29, n_l30, n_l33, n_l35, n_l36, n_l50, n_l55, n_l61, n_l63, n_l64, n_l101, n_l1000, n_l2147483647, n_l0, n_l1, n_l2, n_l3, n_l4, n_l5, n_l8, n_l9, n_l10, n_l15, n_l20, n_l31, n_l40, n_l48, n_l57, n_l59, n_l60, n_l70, n_l99, n_l100, n_l255, n_l601, n_l602, n_l1024, n_l1500, n_l2100, n_l2101, n_l65535, n_l100000, n_l1000000, n_l100000000, i_lt, nI_clamp, nI_leI, nI_eq, nI_1, nI_add, pk_mul, pk_sub, n_in, n_negle, n_legne, n_eqneg, n_negeq, n_nn, n_bit, n_shl1, n_or, zb_e0, zb_e1, zb_r, n_em, zb_T, zb_F, zS_uf1, zS_uf2, zS_ur1, zS_ur2, zS_ur3, zS_ul1, zS_ul2, zS_ul3, z_if0, z_if1, Int.reduceEq, Nat.reduceOr, Nat.or_zero, Nat.zero_or, Bool.false_eq_true, reduceCtorEq, nar0, nar1, nar_zb, eq_self, true_and, and_true, false_and, and_false, or_true, true_or, or_false, false_or, not_true_eq_false, not_false_eq_true, Classical.not_not, true_implies, false_implies, implies_true, iff_true, iff_self, ite_true, ite_false, Nat.reduceEqDiff, Nat.reduceLT, Nat.reduceSub, Nat.add_sub_cancel, Nat.reduceLeDiff, reduceIte, ne_eq, Nat.not_le]
    rw [zb_33_1]
    have key : ∀ x : Int32, PW sc 33 (zblk 33 1) 2 [some (.ref 9), some (.ref 10), some (.int (x)), some (.int (nI 1))] [] (S) Q ↔ Q (some (.int x)) S := fun x => by
      have lp := lp_all (n - 1) (fun i => PW sc 33 (zblk 33 1) 2 [some (.ref 9), some (.ref 10), some (.int (x)), some (.int (nI (1 + i)))] [] (S) Q) (fun i hi => by
        have f1 := fun Q => sp_isFirst (sc := sc) (σ := S) (Q := Q) (i := 1 + i) s3 (by omega) hn40 s74
        rw [zb_f (show ¬ fstD D (1 + i) from fun z => z ⟨0, by omega, by rw [h8 0 (by omega), h8 (1 + i) (by omega)]⟩)] at f1
        rw [show 1 + (i + 1) = 1 + i + 1 by omega]
        conv => lhs; rw [zb_33_1]
        simp (disch := first | exact zl_i | exact zl_r | exact zl_n | omega | exact zlen0 | exact zlen1 | exact zlen2 | exact zlen3 | exact zlen4 | exact zl_l | (simp only [zS_uf1, zS_uf2, zS_ur1, zS_ur2, Nat.reduceEqDiff, reduceIte, and_false, false_and, and_true, true_and, ite_true, ite_false]; done) | exact zl_n) only [Int.reduceToNat, Nat.reduceAdd, Nat.reduceMul, List.length_nil, List.length_cons, Nat.reduceLeDiff, Nat.zero_le, Option.toList_some, Option.toList_none, List.cons_append, List.nil_append, PW_nil, PW_goto, zl_i, zl_r, zl_n, PW_k0, PW_istore_2, PW_istore_3, PW_iload_3, PW_aload_0, PW_g579, PW_ic_ge, PX_c34, PW_if_eq, PW_g577, PW_ia74, PW_aload_1, PX_c28, PW_g585, PW_g580, PW_ic_le, PW_iinc_2_p1, PW_iinc_3_p1, PW_iload_2, PW_ret_i zret_33, zb_33_2, zb_33_3, PK_app, n_l6, n_l7, n_l12, n_l13, n_l14, n_l16, n_l21, n_l22, n_l25, n_l28, n_l29, n_l30, n_l33, n_l35, n_l36, n_l50, n_l55, n_l61, n_l63, n_l64, n_l101, n_l1000, n_l2147483647, n_l0, n_l1, n_l2, n_l3, n_l4, n_l5, n_l8, n_l9, n_l10, n_l15, n_l20, n_l31, n_l40, n_l48, n_l57, n_l59, n_l60, n_l70, n_l99, n_l100, n_l255, n_l601, n_l602, n_l1024, n_l1500, n_l2100, n_l2101, n_l65535, n_l100000, n_l1000000, n_l100000000, i_lt, nI_clamp, nI_leI, nI_eq, nI_1, nI_add, pk_mul, pk_sub, n_in, n_negle, n_legne, n_eqneg, n_negeq, n_nn, n_bit, n_shl1, n_or, zb_e0, zb_e1, zb_r, n_em, zb_T, zb_F, zS_uf1, zS_uf2, zS_ur1, zS_ur2, zS_ur3, zS_ul1, zS_ul2, zS_ul3, z_if0, z_if1, Int.reduceEq, Nat.reduceOr, Nat.or_zero, Nat.zero_or, Bool.false_eq_true, reduceCtorEq, nar0, nar1, nar_zb, eq_self, true_and, and_true, false_and, and_false, or_true, true_or, or_false, false_or, not_true_eq_false, not_false_eq_true, Classical.not_not, true_implies, false_implies, implies_true, iff_true, iff_self, ite_true, ite_false, Nat.reduceEqDiff, Nat.reduceLT, Nat.reduceSub, Nat.add_sub_cancel, Nat.reduceLeDiff, reduceIte, ne_eq, Nat.not_le, s3, show ¬ n ≤ 1 + i by omega, f1])
      refine lp.trans ?_
      rw [show 1 + (n - 1) = n by omega, zb_33_1]
      simp (disch := first | exact zl_i | exact zl_r | exact zl_n | omega | exact zlen0 | exact zlen1 | exact zlen2 | exact zlen3 | exact zlen4 | exact zl_l | (simp only [zS_uf1, zS_uf2, zS_ur1, zS_ur2, Nat.reduceEqDiff, reduceIte, and_false, false_and, and_true, true_and, ite_true, ite_false]; done) | exact zl_n) only [Int.reduceToNat, Nat.reduceAdd, Nat.reduceMul, List.length_nil, List.length_cons, Nat.reduceLeDiff, Nat.zero_le, Option.toList_some, Option.toList_none, List.cons_append, List.nil_append, PW_nil, PW_goto, zl_i, zl_r, zl_n, PW_k0, PW_istore_2, PW_istore_3, PW_iload_3, PW_aload_0, PW_g579, PW_ic_ge, PX_c34, PW_if_eq, PW_g577, PW_ia74, PW_aload_1, PX_c28, PW_g585, PW_g580, PW_ic_le, PW_iinc_2_p1, PW_iinc_3_p1, PW_iload_2, PW_ret_i zret_33, zb_33_2, zb_33_3, PK_app, n_l6, n_l7, n_l12, n_l13, n_l14, n_l16, n_l21, n_l22, n_l25, n_l28, n_l29, n_l30, n_l33, n_l35, n_l36, n_l50, n_l55, n_l61, n_l63, n_l64, n_l101, n_l1000, n_l2147483647, n_l0, n_l1, n_l2, n_l3, n_l4, n_l5, n_l8, n_l9, n_l10, n_l15, n_l20, n_l31, n_l40, n_l48, n_l57, n_l59, n_l60, n_l70, n_l99, n_l100, n_l255, n_l601, n_l602, n_l1024, n_l1500, n_l2100, n_l2101, n_l65535, n_l100000, n_l1000000, n_l100000000, i_lt, nI_clamp, nI_leI, nI_eq, nI_1, nI_add, pk_mul, pk_sub, n_in, n_negle, n_legne, n_eqneg, n_negeq, n_nn, n_bit, n_shl1, n_or, zb_e0, zb_e1, zb_r, n_em, zb_T, zb_F, zS_uf1, zS_uf2, zS_ur1, zS_ur2, zS_ur3, zS_ul1, zS_ul2, zS_ul3, z_if0, z_if1, Int.reduceEq, Nat.reduceOr, Nat.or_zero, Nat.zero_or, Bool.false_eq_true, reduceCtorEq, nar0, nar1, nar_zb, eq_self, true_and, and_true, false_and, and_false, or_true, true_or, or_false, false_or, not_true_eq_false, not_false_eq_true, Classical.not_not, true_implies, false_implies, implies_true, iff_true, iff_self, ite_true, ite_false, Nat.reduceEqDiff, Nat.reduceLT, Nat.reduceSub, Nat.add_sub_cancel, Nat.reduceLeDiff, reduceIte, ne_eq, Nat.not_le, s3, Nat.le_refl]
    by_cases c : rkM (dX V D W (nI 9) n) n b ≤ l
    · rw [zb_f (fun z => z c)] at hq
      simp (disch := first | exact zl_i | exact zl_r | exact zl_n | omega | exact zlen0 | exact zlen1 | exact zlen2 | exact zlen3 | exact zlen4 | exact zl_l | (simp only [zS_uf1, zS_uf2, zS_ur1, zS_ur2, Nat.reduceEqDiff, reduceIte, and_false, false_and, and_true, true_and, ite_true, ite_false]; done) | exact zl_n) only [Int.reduceToNat, Nat.reduceAdd, Nat.reduceMul, List.length_nil, List.length_cons, Nat.reduceLeDiff, Nat.zero_le, Option.toList_some, Option.toList_none, List.cons_append, List.nil_append, PW_nil, PW_goto, zl_i, zl_r, zl_n, PW_k0, PW_istore_2, PW_istore_3, PW_iload_3, PW_aload_0, PW_g579, PW_ic_ge, PX_c34, PW_if_eq, PW_g577, PW_ia74, PW_aload_1, PX_c28, PW_g585, PW_g580, PW_ic_le, PW_iinc_2_p1, PW_iinc_3_p1, PW_iload_2, PW_ret_i zret_33, zb_33_2, zb_33_3, PK_app, n_l6, n_l7, n_l12, n_l13, n_l14, n_l16, n_l21, n_l22, n_l25, n_l28, n_l29, n_l30, n_l33, n_l35, n_l36, n_l50, n_l55, n_l61, n_l63, n_l64, n_l101, n_l1000, n_l2147483647, n_l0, n_l1, n_l2, n_l3, n_l4, n_l5, n_l8, n_l9, n_l10, n_l15, n_l20, n_l31, n_l40, n_l48, n_l57, n_l59, n_l60, n_l70, n_l99, n_l100, n_l255, n_l601, n_l602, n_l1024, n_l1500, n_l2100, n_l2101, n_l65535, n_l100000, n_l1000000, n_l100000000, i_lt, nI_clamp, nI_leI, nI_eq, nI_1, nI_add, pk_mul, pk_sub, n_in, n_negle, n_legne, n_eqneg, n_negeq, n_nn, n_bit, n_shl1, n_or, zb_e0, zb_e1, zb_r, n_em, zb_T, zb_F, zS_uf1, zS_uf2, zS_ur1, zS_ur2, zS_ur3, zS_ul1, zS_ul2, zS_ul3, z_if0, z_if1, Int.reduceEq, Nat.reduceOr, Nat.or_zero, Nat.zero_or, Bool.false_eq_true, reduceCtorEq, nar0, nar1, nar_zb, eq_self, true_and, and_true, false_and, and_false, or_true, true_or, or_false, false_or, not_true_eq_false, not_false_eq_true, Classical.not_not, true_implies, false_implies, implies_true, iff_true, iff_self, ite_true, ite_false, Nat.reduceEqDiff, Nat.reduceLT, Nat.reduceSub, Nat.add_sub_cancel, Nat.reduceLeDiff, reduceIte, ne_eq, Nat.not_le, h5, h0, show ¬ n ≤ 0 by omega, show 0 < n by omega, f0, e74, k3, e9, s4, c, key]
      exact hq
    · rw [zb_t c] at hq
      simp (disch := first | exact zl_i | exact zl_r | exact zl_n | omega | exact zlen0 | exact zlen1 | exact zlen2 | exact zlen3 | exact zlen4 | exact zl_l | (simp only [zS_uf1, zS_uf2, zS_ur1, zS_ur2, Nat.reduceEqDiff, reduceIte, and_false, false_and, and_true, true_and, ite_true, ite_false]; done) | exact zl_n) only [Int.reduceToNat, Nat.reduceAdd, Nat.reduceMul, List.length_nil, List.length_cons, Nat.reduceLeDiff, Nat.zero_le, Option.toList_some, Option.toList_none, List.cons_append, List.nil_append, PW_nil, PW_goto, zl_i, zl_r, zl_n, PW_k0, PW_istore_2, PW_istore_3, PW_iload_3, PW_aload_0, PW_g579, PW_ic_ge, PX_c34, PW_if_eq, PW_g577, PW_ia74, PW_aload_1, PX_c28, PW_g585, PW_g580, PW_ic_le, PW_iinc_2_p1, PW_iinc_3_p1, PW_iload_2, PW_ret_i zret_33, zb_33_2, zb_33_3, PK_app, n_l6, n_l7, n_l12, n_l13, n_l14, n_l16, n_l21, n_l22, n_l25, n_l28, n_l29, n_l30, n_l33, n_l35, n_l36, n_l50, n_l55, n_l61, n_l63, n_l64, n_l101, n_l1000, n_l2147483647, n_l0, n_l1, n_l2, n_l3, n_l4, n_l5, n_l8, n_l9, n_l10, n_l15, n_l20, n_l31, n_l40, n_l48, n_l57, n_l59, n_l60, n_l70, n_l99, n_l100, n_l255, n_l601, n_l602, n_l1024, n_l1500, n_l2100, n_l2101, n_l65535, n_l100000, n_l1000000, n_l100000000, i_lt, nI_clamp, nI_leI, nI_eq, nI_1, nI_add, pk_mul, pk_sub, n_in, n_negle, n_legne, n_eqneg, n_negeq, n_nn, n_bit, n_shl1, n_or, zb_e0, zb_e1, zb_r, n_em, zb_T, zb_F, zS_uf1, zS_uf2, zS_ur1, zS_ur2, zS_ur3, zS_ul1, zS_ul2, zS_ul3, z_if0, z_if1, Int.reduceEq, Nat.reduceOr, Nat.or_zero, Nat.zero_or, Bool.false_eq_true, reduceCtorEq, nar0, nar1, nar_zb, eq_self, true_and, and_true, false_and, and_false, or_true, true_or, or_false, false_or, not_true_eq_false, not_false_eq_true, Classical.not_not, true_implies, false_implies, implies_true, iff_true, iff_self, ite_true, ite_false, Nat.reduceEqDiff, Nat.reduceLT, Nat.reduceSub, Nat.add_sub_cancel, Nat.reduceLeDiff, reduceIte, ne_eq, Nat.not_le, h5, h0, show ¬ n ≤ 0 by omega, show 0 < n by omega, f0, e74, k3, e9, s4, c, key]
      exact hq
end DN
