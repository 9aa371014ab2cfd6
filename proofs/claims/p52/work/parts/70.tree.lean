/-! rows of rings laid against one another -/
def iI (z : Int) : Int32 := Int32.ofInt z
theorem iI_n (n : Nat) : nI n = iI (n : Int) := Int32.ofInt_eq_ofNat.symm
theorem iI_add {a b : Int} : iI a + iI b = iI (a + b) := (Int32.ofInt_add a b).symm
theorem iI_sub {a b : Int} : iI a - iI b = iI (a - b) := (Int32.ofInt_sub a b).symm
theorem iI_neg {a : Int} : -iI a = iI (-a) := (Int32.ofInt_neg a).symm
theorem iI_toInt {a : Int} (h : -2147483648 ≤ a ∧ a < 2147483648) : (iI a).toInt = a := Int32.toInt_ofInt_of_le h.1 h.2
theorem iI_le {a b : Int} (ha : -2147483648 ≤ a ∧ a < 2147483648) (hb : -2147483648 ≤ b ∧ b < 2147483648) : iI a ≤ iI b ↔ a ≤ b := by
  rw [Int32.le_iff_toInt_le, iI_toInt ha, iI_toInt hb]
def z_mn (x y : Int32) : Int32 := if y < x then y else x
def z_mx (x y : Int32) : Int32 := if x < y then y else x
theorem z_mn_i {a b : Int} (ha : -2147483648 ≤ a ∧ a < 2147483648) (hb : -2147483648 ≤ b ∧ b < 2147483648) : z_mn (iI a) (iI b) = iI (min a b) := by
  unfold z_mn
  split
  · rename_i h
    rw [i_lt, iI_le ha hb] at h
    rw [Int.min_eq_right (by omega)]
  · rename_i h
    rw [i_lt, iI_le ha hb] at h
    rw [Int.min_eq_left (by omega)]
theorem z_mx_i {a b : Int} (ha : -2147483648 ≤ a ∧ a < 2147483648) (hb : -2147483648 ≤ b ∧ b < 2147483648) : z_mx (iI a) (iI b) = iI (max a b) := by
  unfold z_mx
  split
  · rename_i h
    rw [i_lt, iI_le hb ha] at h
    rw [Int.max_eq_right (by omega)]
  · rename_i h
    rw [i_lt, iI_le hb ha] at h
    rw [Int.max_eq_left (by omega)]
theorem PM_min {sc : zX} {mt nb : Nat} {is : List Instr} {L : zL} {st : List Value} {σ : zS} {Q : Option Value → zS → Prop} {x y : Int32} (h : st.length ≤ 4) : PW sc mt (.invokestatic 997 :: is) nb L (.int y :: .int x :: st) σ Q ↔ PW sc mt is nb L (.int (z_mn x y) :: st) σ Q := PW_min h
theorem PM_max {sc : zX} {mt nb : Nat} {is : List Instr} {L : zL} {st : List Value} {σ : zS} {Q : Option Value → zS → Prop} {x y : Int32} (h : st.length ≤ 4) : PW sc mt (.invokestatic 998 :: is) nb L (.int y :: .int x :: st) σ Q ↔ PW sc mt is nb L (.int (z_mx x y) :: st) σ Q := PW_max h
theorem cnt_ext {c : Nat → Prop} {a : Nat} : ∀ {d : Nat}, (∀ j, a ≤ j → j < a + d → ¬ c j) → cnt c (a + d) = cnt c a
  | 0, _ => rfl
  | d + 1, h => by
    show cnt c (a + d + 1) = _
    rw [cnt_f (h (a + d) (by omega) (by omega)), cnt_ext (fun j h1 h2 => h j h1 (by omega))]
/-- rise of two widths -/
def rs (x y : Int32) : Int32 := if x = y then 0 else if y ≤ x then -1 else 1
def tr_J (L M : Nat) (k : Int) (j : Nat) : Prop := j + 1 < L ∧ 0 ≤ k + j ∧ k + j + 1 < M
def tr_A (R G : Nat → Int32) (k : Int) (j : Nat) : Prop := rs (R j) (R (j + 1)) = rs (G (k + j).toNat) (G ((k + j).toNat + 1))
def tr_a (R G : Nat → Int32) (L M : Nat) (k : Int) (j : Nat) : Prop := tr_J L M k j ∧ tr_A R G k j
def tr_u (R G : Nat → Int32) (L M : Nat) (k : Int) (j : Nat) : Prop := tr_J L M k j ∧ ¬ tr_A R G k j
section TR
variable {sc : zX} {σ : zS} {Q : Option Value → zS → Prop}
theorem sp_rise {a n b j : Nat} (ha : zarc sc.2.2 a = some (0, n, b)) (hj : j + 1 < n) (hn : n ≤ 60) : PC sc 11 [.ref a, .int (nI j)] σ Q ↔ Q (some (.int (rs (σ.2.1 a j) (σ.2.1 a (j + 1))))) σ := by
  rw [PC_11, zb_11_0]
  simp (disch := first | exact zl_i | exact zl_r | exact zl_n | omega | exact zlen0 | exact zlen1 | exact zlen2 | exact zlen3 | exact zlen4 | exact zl_l | (simp only [zS_uf1, zS_uf2, zS_ur1, zS_ur2, Nat.reduceEqDiff, reduceIte, and_false, false_and, and_true, true_and, ite_true, ite_false]; done) | exact zl_n) only [Int.reduceToNat, Nat.reduceAdd, Nat.reduceMul, List.length_nil, List.length_cons, Nat.reduceLeDiff, Nat.zero_le, Option.toList_some, Option.toList_none, List.cons_append, List.nil_append, PW_nil, PW_goto, zl_i, zl_r, zl_n, PW_aload_0, PW_iload_1, PW_k1, PW_iadd, PW_ic_ne, PW_k0, PW_ret_i zret_11, PW_ic_ge, PW_km1, zb_11_1, zb_11_2, zb_11_3, PK_app, n_l0, n_l1, n_l2, n_l3, n_l4, n_l5, n_l8, n_l9, n_l10, n_l15, n_l20, n_l31, n_l40, n_l48, n_l57, n_l59, n_l60, n_l70, n_l99, n_l100, n_l255, n_l601, n_l602, n_l1024, n_l1500, n_l2100, n_l2101, n_l65535, n_l100000, n_l1000000, n_l100000000, i_lt, nI_clamp, nI_leI, nI_eq, nI_1, nI_add, pk_mul, pk_sub, n_in, n_negle, n_legne, n_eqneg, n_negeq, n_nn, n_bit, n_shl1, n_or, zb_e0, zb_e1, zb_r, n_em, zb_T, zb_F, zS_uf1, zS_uf2, zS_ur1, zS_ur2, zS_ur3, zS_ul1, zS_ul2, zS_ul3, z_if0, z_if1, Int.reduceEq, Nat.reduceOr, Nat.or_zero, Nat.zero_or, Bool.false_eq_true, reduceCtorEq, nar0, nar1, nar_zb, eq_self, true_and, and_true, false_and, and_false, or_true, true_or, or_false, false_or, not_true_eq_false, not_false_eq_true, Classical.not_not, true_implies, false_implies, implies_true, iff_true, iff_self, ite_true, ite_false, Nat.reduceEqDiff, Nat.reduceLT, Nat.reduceSub, Nat.add_sub_cancel, Nat.reduceLeDiff, reduceIte, ne_eq, Nat.not_le, PW_iald ha]
  unfold rs
  by_cases c1 : σ.2.1 a j = σ.2.1 a (j + 1) <;> by_cases c2 : σ.2.1 a (j + 1) ≤ σ.2.1 a j <;> simp only [c1, c2, n_l0, n_l1, n_l2, n_l3, n_l4, n_l5, n_l8, n_l9, n_l10, n_l15, n_l20, n_l31, n_l40, n_l48, n_l57, n_l59, n_l60, n_l70, n_l99, n_l100, n_l255, n_l601, n_l602, n_l1024, n_l1500, n_l2100, n_l2101, n_l65535, n_l100000, n_l1000000, n_l100000000, i_lt, nI_clamp, nI_leI, nI_eq, nI_1, nI_add, pk_mul, pk_sub, n_in, n_negle, n_legne, n_eqneg, n_negeq, n_nn, n_bit, n_shl1, n_or, zb_e0, zb_e1, zb_r, n_em, zb_T, zb_F, zS_uf1, zS_uf2, zS_ur1, zS_ur2, zS_ur3, zS_ul1, zS_ul2, zS_ul3, z_if0, z_if1, Int.reduceEq, Nat.reduceOr, Nat.or_zero, Nat.zero_or, Bool.false_eq_true, reduceCtorEq, nar0, nar1, nar_zb, eq_self, true_and, and_true, false_and, and_false, or_true, true_or, or_false, false_or, not_true_eq_false, not_false_eq_true, Classical.not_not, true_implies, false_implies, implies_true, iff_true, iff_self, ite_true, ite_false, Nat.reduceEqDiff, Nat.reduceLT, Nat.reduceSub, Nat.add_sub_cancel, Nat.reduceLeDiff, reduceIte, ne_eq, Nat.not_le]
theorem sp_layOn {a g na ng ba bg L M : Nat} {k : Int} (ha : zarc sc.2.2 a = some (0, na, ba)) (hg : zarc sc.2.2 g = some (0, ng, bg)) (hL : L ≤ na) (hM : M ≤ ng) (hna : na ≤ 60) (hng : ng ≤ 60) (hk : -60 ≤ k ∧ k ≤ 60) :
    PC sc 10 [.ref 6, .ref a, .int (nI L), .int (iI k), .ref g, .int (nI M)] σ Q ↔ Q none (zuf (zuf σ 6 3 (nI (cnt (tr_a (σ.2.1 a) (σ.2.1 g) L M k) L))) 6 4 (nI (cnt (tr_u (σ.2.1 a) (σ.2.1 g) L M k) L))) := by
  have h6 : z_mn (nI L) (nI M - iI k) - nI 1 = iI (min (L : Int) (M - k) - 1) := by
    rw [iI_n, iI_n, iI_n, iI_sub, z_mn_i (by omega) (by omega), iI_sub]
    rfl
  have h7 : z_mx (nI 0) (-iI k) = nI (max 0 (-k)).toNat := by
    rw [iI_n, iI_n, iI_neg, z_mx_i (by omega) (by omega)]
    congr 1
    omega
  generalize hR : σ.2.1 a = R
  generalize hG : σ.2.1 g = G
  rw [PC_10, zb_10_0]
  simp (disch := first | exact zl_i | exact zl_r | exact zl_n | omega | exact zlen0 | exact zlen1 | exact zlen2 | exact zlen3 | exact zlen4 | exact zl_l | (simp only [zS_uf1, zS_uf2, zS_ur1, zS_ur2, Nat.reduceEqDiff, reduceIte, and_false, false_and, and_true, true_and, ite_true, ite_false]; done) | exact zl_n) only [Int.reduceToNat, Nat.reduceAdd, Nat.reduceMul, List.length_nil, List.length_cons, Nat.reduceLeDiff, Nat.zero_le, Option.toList_some, Option.toList_none, List.cons_append, List.nil_append, PW_nil, PW_goto, zl_i, zl_r, zl_n, PW_aload_0, PW_k0, PW_p387, PW_p388, PW_iload_2, PW_iload_5, PW_iload_3, PW_isub, PM_min, PW_k1, PW_istore_6, PW_ineg, PM_max, PW_istore_7, PW_iload_7, PW_iload_6, PW_ic_ge, PW_aload_1, PX_c11, PW_aload_4, PW_iadd, PW_ic_ne, PW_dup_i, PW_dup_r, PW_g387, PW_g388, PW_iinc_7_p1, PW_ret_v zret_10, zb_10_2, zb_10_3, zb_10_4, PK_app, n_l0, n_l1, n_l2, n_l3, n_l4, n_l5, n_l8, n_l9, n_l10, n_l15, n_l20, n_l31, n_l40, n_l48, n_l57, n_l59, n_l60, n_l70, n_l99, n_l100, n_l255, n_l601, n_l602, n_l1024, n_l1500, n_l2100, n_l2101, n_l65535, n_l100000, n_l1000000, n_l100000000, i_lt, nI_clamp, nI_leI, nI_eq, nI_1, nI_add, pk_mul, pk_sub, n_in, n_negle, n_legne, n_eqneg, n_negeq, n_nn, n_bit, n_shl1, n_or, zb_e0, zb_e1, zb_r, n_em, zb_T, zb_F, zS_uf1, zS_uf2, zS_ur1, zS_ur2, zS_ur3, zS_ul1, zS_ul2, zS_ul3, z_if0, z_if1, Int.reduceEq, Nat.reduceOr, Nat.or_zero, Nat.zero_or, Bool.false_eq_true, reduceCtorEq, nar0, nar1, nar_zb, eq_self, true_and, and_true, false_and, and_false, or_true, true_or, or_false, false_or, not_true_eq_false, not_false_eq_true, Classical.not_not, true_implies, false_implies, implies_true, iff_true, iff_self, ite_true, ite_false, Nat.reduceEqDiff, Nat.reduceLT, Nat.reduceSub, Nat.add_sub_cancel, Nat.reduceLeDiff, reduceIte, ne_eq, Nat.not_le, h6, h7]
  generalize he : min (L : Int) (M - k) - 1 = e
  generalize hj0 : (max 0 (-k)).toNat = j0
  have key := lp_all (e - j0).toNat (fun d => PW sc 10 (zblk 10 1) 2 [some (.ref 6), some (.ref (a)), some (.int (nI L)), some (.int (iI k)), some (.ref (g)), some (.int (nI M)), some (.int (iI e)), some (.int (nI (j0 + d)))] [] (zuf (zuf σ 6 3 (nI (cnt (tr_a R G L M k) (j0 + d)))) 6 4 (nI (cnt (tr_u R G L M k) (j0 + d)))) Q) (fun d hd => by
    have hJ : tr_J L M k (j0 + d) := ⟨by omega, by omega, by omega⟩
    have hc : (iI e ≤ nI (j0 + d)) = False := by
      rw [iI_n, iI_le (by omega) (by omega)]
      apply eq_false
      omega
    have hki : iI k + nI (j0 + d) = nI (k + ((j0 + d : Nat) : Int)).toNat := by
      rw [iI_n, iI_n, iI_add]
      congr 1
      omega
    have hm : (k + ((j0 + d : Nat) : Int)).toNat + 1 < M := by
      have := hJ.2
      omega
    have r1 := fun τ Q => sp_rise (sc := sc) (σ := τ) (Q := Q) ha (j := j0 + d) (by omega) hna
    have r2 := fun τ Q => sp_rise (sc := sc) (σ := τ) (Q := Q) hg (j := (k + ((j0 + d : Nat) : Int)).toNat) (by omega) hng
    conv => lhs; rw [zb_10_1]
    by_cases q : tr_A R G k (j0 + d)
    · have q2 := q
      unfold tr_A at q2
      rw [show j0 + (d + 1) = j0 + d + 1 from rfl, cnt_t (c := tr_a R G L M k) ⟨hJ, q⟩, cnt_f (c := tr_u R G L M k) (fun z => z.2 q)]
      simp (disch := first | exact zl_i | exact zl_r | exact zl_n | omega | exact zlen0 | exact zlen1 | exact zlen2 | exact zlen3 | exact zlen4 | exact zl_l | (simp only [zS_uf1, zS_uf2, zS_ur1, zS_ur2, Nat.reduceEqDiff, reduceIte, and_false, false_and, and_true, true_and, ite_true, ite_false]; done) | exact zl_n) only [Int.reduceToNat, Nat.reduceAdd, Nat.reduceMul, List.length_nil, List.length_cons, Nat.reduceLeDiff, Nat.zero_le, Option.toList_some, Option.toList_none, List.cons_append, List.nil_append, PW_nil, PW_goto, zl_i, zl_r, zl_n, PW_aload_0, PW_k0, PW_p387, PW_p388, PW_iload_2, PW_iload_5, PW_iload_3, PW_isub, PM_min, PW_k1, PW_istore_6, PW_ineg, PM_max, PW_istore_7, PW_iload_7, PW_iload_6, PW_ic_ge, PW_aload_1, PX_c11, PW_aload_4, PW_iadd, PW_ic_ne, PW_dup_i, PW_dup_r, PW_g387, PW_g388, PW_iinc_7_p1, PW_ret_v zret_10, zb_10_2, zb_10_3, zb_10_4, PK_app, n_l0, n_l1, n_l2, n_l3, n_l4, n_l5, n_l8, n_l9, n_l10, n_l15, n_l20, n_l31, n_l40, n_l48, n_l57, n_l59, n_l60, n_l70, n_l99, n_l100, n_l255, n_l601, n_l602, n_l1024, n_l1500, n_l2100, n_l2101, n_l65535, n_l100000, n_l1000000, n_l100000000, i_lt, nI_clamp, nI_leI, nI_eq, nI_1, nI_add, pk_mul, pk_sub, n_in, n_negle, n_legne, n_eqneg, n_negeq, n_nn, n_bit, n_shl1, n_or, zb_e0, zb_e1, zb_r, n_em, zb_T, zb_F, zS_uf1, zS_uf2, zS_ur1, zS_ur2, zS_ur3, zS_ul1, zS_ul2, zS_ul3, z_if0, z_if1, Int.reduceEq, Nat.reduceOr, Nat.or_zero, Nat.zero_or, Bool.false_eq_true, reduceCtorEq, nar0, nar1, nar_zb, eq_self, true_and, and_true, false_and, and_false, or_true, true_or, or_false, false_or, not_true_eq_false, not_false_eq_true, Classical.not_not, true_implies, false_implies, implies_true, iff_true, iff_self, ite_true, ite_false, Nat.reduceEqDiff, Nat.reduceLT, Nat.reduceSub, Nat.add_sub_cancel, Nat.reduceLeDiff, reduceIte, ne_eq, Nat.not_le, hc, hki, r1, r2, hR, hG, q2, zuf_same, zuf_sw]
    · have q2 := q
      unfold tr_A at q2
      rw [show j0 + (d + 1) = j0 + d + 1 from rfl, cnt_f (c := tr_a R G L M k) (fun z => q z.2), cnt_t (c := tr_u R G L M k) ⟨hJ, q⟩]
      simp (disch := first | exact zl_i | exact zl_r | exact zl_n | omega | exact zlen0 | exact zlen1 | exact zlen2 | exact zlen3 | exact zlen4 | exact zl_l | (simp only [zS_uf1, zS_uf2, zS_ur1, zS_ur2, Nat.reduceEqDiff, reduceIte, and_false, false_and, and_true, true_and, ite_true, ite_false]; done) | exact zl_n) only [Int.reduceToNat, Nat.reduceAdd, Nat.reduceMul, List.length_nil, List.length_cons, Nat.reduceLeDiff, Nat.zero_le, Option.toList_some, Option.toList_none, List.cons_append, List.nil_append, PW_nil, PW_goto, zl_i, zl_r, zl_n, PW_aload_0, PW_k0, PW_p387, PW_p388, PW_iload_2, PW_iload_5, PW_iload_3, PW_isub, PM_min, PW_k1, PW_istore_6, PW_ineg, PM_max, PW_istore_7, PW_iload_7, PW_iload_6, PW_ic_ge, PW_aload_1, PX_c11, PW_aload_4, PW_iadd, PW_ic_ne, PW_dup_i, PW_dup_r, PW_g387, PW_g388, PW_iinc_7_p1, PW_ret_v zret_10, zb_10_2, zb_10_3, zb_10_4, PK_app, n_l0, n_l1, n_l2, n_l3, n_l4, n_l5, n_l8, n_l9, n_l10, n_l15, n_l20, n_l31, n_l40, n_l48, n_l57, n_l59, n_l60, n_l70, n_l99, n_l100, n_l255, n_l601, n_l602, n_l1024, n_l1500, n_l2100, n_l2101, n_l65535, n_l100000, n_l1000000, n_l100000000, i_lt, nI_clamp, nI_leI, nI_eq, nI_1, nI_add, pk_mul, pk_sub, n_in, n_negle, n_legne, n_eqneg, n_negeq, n_nn, n_bit, n_shl1, n_or, zb_e0, zb_e1, zb_r, n_em, zb_T, zb_F, zS_uf1, zS_uf2, zS_ur1, zS_ur2, zS_ur3, zS_ul1, zS_ul2, zS_ul3, z_if0, z_if1, Int.reduceEq, Nat.reduceOr, Nat.or_zero, Nat.zero_or, Bool.false_eq_true, reduceCtorEq, nar0, nar1, nar_zb, eq_self, true_and, and_true, false_and, and_false, or_true, true_or, or_false, false_or, not_true_eq_false, not_false_eq_true, Classical.not_not, true_implies, false_implies, implies_true, iff_true, iff_self, ite_true, ite_false, Nat.reduceEqDiff, Nat.reduceLT, Nat.reduceSub, Nat.add_sub_cancel, Nat.reduceLeDiff, reduceIte, ne_eq, Nat.not_le, hc, hki, r1, r2, hR, hG, q2, zuf_same, zuf_sw])
  have s1 : ∀ c : Nat → Prop, (∀ j, c j → tr_J L M k j) → cnt c (j0 + 0) = 0 := fun c h => cnt_no (fun j hj z => by
    have := h j z
    unfold tr_J at this
    omega)
  have s2 : ∀ c : Nat → Prop, (∀ j, c j → tr_J L M k j) → cnt c (j0 + (e - j0).toNat) = cnt c L := fun c h => by
    have hz : ∀ b, cnt c (j0 + (e - j0).toNat + b) = cnt c (j0 + (e - j0).toNat) := fun b => cnt_ext (fun j h1 _ z => by
      have := h j z
      unfold tr_J at this
      omega)
    have hz2 : ∀ b, cnt c (L + b) = cnt c L := fun b => cnt_ext (fun j h1 _ z => by
      have := h j z
      unfold tr_J at this
      omega)
    rw [← hz L, ← hz2 (j0 + (e - j0).toNat), Nat.add_comm L]
  rw [s1 _ (fun j z => z.1), s1 _ (fun j z => z.1), s2 _ (fun j z => z.1), s2 _ (fun j z => z.1)] at key
  refine Iff.trans key ?_
  rw [zb_10_1]
  have hc : (iI e ≤ nI (j0 + (e - j0).toNat)) = True := by
    rw [iI_n, iI_le (by omega) (by omega)]
    apply eq_true
    omega
  simp (disch := first | exact zl_i | exact zl_r | exact zl_n | omega | exact zlen0 | exact zlen1 | exact zlen2 | exact zlen3 | exact zlen4 | exact zl_l | (simp only [zS_uf1, zS_uf2, zS_ur1, zS_ur2, Nat.reduceEqDiff, reduceIte, and_false, false_and, and_true, true_and, ite_true, ite_false]; done) | exact zl_n) only [Int.reduceToNat, Nat.reduceAdd, Nat.reduceMul, List.length_nil, List.length_cons, Nat.reduceLeDiff, Nat.zero_le, Option.toList_some, Option.toList_none, List.cons_append, List.nil_append, PW_nil, PW_goto, zl_i, zl_r, zl_n, PW_aload_0, PW_k0, PW_p387, PW_p388, PW_iload_2, PW_iload_5, PW_iload_3, PW_isub, PM_min, PW_k1, PW_istore_6, PW_ineg, PM_max, PW_istore_7, PW_iload_7, PW_iload_6, PW_ic_ge, PW_aload_1, PX_c11, PW_aload_4, PW_iadd, PW_ic_ne, PW_dup_i, PW_dup_r, PW_g387, PW_g388, PW_iinc_7_p1, PW_ret_v zret_10, zb_10_2, zb_10_3, zb_10_4, PK_app, n_l0, n_l1, n_l2, n_l3, n_l4, n_l5, n_l8, n_l9, n_l10, n_l15, n_l20, n_l31, n_l40, n_l48, n_l57, n_l59, n_l60, n_l70, n_l99, n_l100, n_l255, n_l601, n_l602, n_l1024, n_l1500, n_l2100, n_l2101, n_l65535, n_l100000, n_l1000000, n_l100000000, i_lt, nI_clamp, nI_leI, nI_eq, nI_1, nI_add, pk_mul, pk_sub, n_in, n_negle, n_legne, n_eqneg, n_negeq, n_nn, n_bit, n_shl1, n_or, zb_e0, zb_e1, zb_r, n_em, zb_T, zb_F, zS_uf1, zS_uf2, zS_ur1, zS_ur2, zS_ur3, zS_ul1, zS_ul2, zS_ul3, z_if0, z_if1, Int.reduceEq, Nat.reduceOr, Nat.or_zero, Nat.zero_or, Bool.false_eq_true, reduceCtorEq, nar0, nar1, nar_zb, eq_self, true_and, and_true, false_and, and_false, or_true, true_or, or_false, false_or, not_true_eq_false, not_false_eq_true, Classical.not_not, true_implies, false_implies, implies_true, iff_true, iff_self, ite_true, ite_false, Nat.reduceEqDiff, Nat.reduceLT, Nat.reduceSub, Nat.add_sub_cancel, Nat.reduceLeDiff, reduceIte, ne_eq, Nat.not_le, hc]
end TR
