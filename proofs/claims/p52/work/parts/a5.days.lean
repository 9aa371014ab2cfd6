/-! the class's calls: days -/
def eqd (σ τ : zS) : Prop := (∀ c j, ¬ (c = 11 ∨ c = 5) → τ.1 c j = σ.1 c j) ∧ (∀ a, ¬ (a = 72 ∨ a = 47 ∨ a = 48 ∨ a = 49) → τ.2.1 a = σ.2.1 a)
section DE5
variable {sc : zX} {σ : zS} {Q : Option Value → zS → Prop}
theorem sp_days {d h np nv nl : Nat} {x : Nat → Int32} (hd : d ≤ 100000) (hh : 1 ≤ h ∧ h ≤ 9) (hnp : np ≤ 4) (hnv : nv ≤ 10) (hnl : nl ≤ 40) (p1 : σ.1 7 4 = nI np) (v1 : σ.1 10 5 = nI nv) (l1 : σ.1 3 5 = nI nl) (s1 : σ.2.1 65 2 = nI 2) (s2 : σ.2.1 66 2 = nI 4) (hx : ∀ p, p < np → σ.2.1 70 p = x p) (hl : ∀ l, l < nl → (∃ p, p < 10 ∧ σ.2.1 39 l = nI p) ∧ (∃ v, v < 10 ∧ σ.2.1 40 l = nI v)) (ok : lok (fun _ _ => True) nv x np)
    (hH : ∀ p, p < np → hdP (σ.2.1 39) (σ.2.1 40) (σ.2.1 41) (σ.2.1 42) (nI d) nl p = -nI 1 ∨ ∃ u, u < 10 ∧ hdP (σ.2.1 39) (σ.2.1 40) (σ.2.1 41) (σ.2.1 42) (nI d) nl p = nI u)
    (hO : ∀ v, v < nv → hdP (σ.2.1 40) (σ.2.1 39) (σ.2.1 41) (σ.2.1 42) (nI d) nl v = -nI 1 ∨ ∃ u, u < 10 ∧ hdP (σ.2.1 40) (σ.2.1 39) (σ.2.1 41) (σ.2.1 42) (nI d) nl v = nI u)
    (cC : ∀ v q, v < nv → q < 10 → hdP (σ.2.1 40) (σ.2.1 39) (σ.2.1 41) (σ.2.1 42) (nI d) nl v = nI q → q < np ∧ hdP (σ.2.1 39) (σ.2.1 40) (σ.2.1 41) (σ.2.1 42) (nI d) nl q = nI v) :
    ∃ HH OO : Nat → Int32, (∀ p, p < 10 → HH p = hdP (σ.2.1 39) (σ.2.1 40) (σ.2.1 41) (σ.2.1 42) (nI d) nl p) ∧ (∀ p, p < 10 → OO p = hdP (σ.2.1 40) (σ.2.1 39) (σ.2.1 41) (σ.2.1 42) (nI d) nl p) ∧ (∀ j, j < cnt (dgt HH x) np → dgl (dgt HH x) (dwt HH OO x) np j &&& bitsOf (dgv HH x) np = dgl (dgt HH x) (dwt HH OO x) np j) ∧ ∀ Q, (∀ S, eqd σ S → Q (some (.int (nI (dyF (dgl (dgt HH x) (dwt HH OO x) np) (cnt (dgt HH x) np) h (bitsOf (dgv HH x) np))))) S) → PC sc 41 [.ref 11, .int (nI d), .int (nI h), .int (nI 2), .int (nI 2), .int (nI 0)] σ Q := by
  have A := fun Q => sp_take_ok (sc := sc) (Q := Q) (σ := zuf σ 11 12 (nI 0)) (k := 2) (lane := 2) (len := 4) (i := 0) (n := np) (by omega) (by omega) s1 s2 (by omega) (by omega)
  simp only [zS_uf2] at A
  have hG : ∀ p, p < np → va_cpy (σ.2.1 (68 + 2)) (σ.2.1 72) 0 0 np p = x p := fun p hp => by
    rw [pk_cpy_in (Nat.zero_le p) (by omega), ← hx p hp]
    exact congrArg _ (by omega)
  generalize va_cpy (σ.2.1 (68 + 2)) (σ.2.1 72) 0 0 np = G72 at A hG
  have rd := fun Q => sp_readHands (sc := sc) (σ := zur (zuf σ 11 12 (nI 0)) 72 G72) (Q := Q) (n := nl) (d := nI d) hnl l1 hl
  generalize hHd : hrw (σ.2.1 39) (σ.2.1 40) (σ.2.1 41) (σ.2.1 42) (nI d) (σ.2.1 47) nl = HH
  generalize hOd : hrw (σ.2.1 40) (σ.2.1 39) (σ.2.1 41) (σ.2.1 42) (nI d) (σ.2.1 48) nl = OO
  have rd' : ∀ Q, PC sc 2 [.ref 5, .ref 3, .int (nI d)] (zur (zuf σ 11 12 (nI 0)) 72 G72) Q ↔ Q none (zur (zur (zur (zuf σ 11 12 (nI 0)) 72 G72) 47 HH) 48 OO) := fun Q => by
    rw [← hHd, ← hOd]
    exact rd Q
  have eH : ∀ p, p < 10 → HH p = hdP (σ.2.1 39) (σ.2.1 40) (σ.2.1 41) (σ.2.1 42) (nI d) nl p := fun p hp => by
    rw [← hHd]
    exact if_pos hp
  have eO : ∀ p, p < 10 → OO p = hdP (σ.2.1 40) (σ.2.1 39) (σ.2.1 41) (σ.2.1 42) (nI d) nl p := fun p hp => by
    rw [← hOd]
    exact if_pos hp
  have hHb : ∀ p, p < np → HH p = -nI 1 ∨ ∃ u, u < 10 ∧ HH p = nI u := fun p hp => by
    rw [eH p (by omega)]
    exact hH p hp
  have hOb : ∀ p, p < nv → OO p = -nI 1 ∨ ∃ u, u < 10 ∧ OO p = nI u := fun p hp => by
    rw [eO p (by omega)]
    exact hO p hp
  have cC' : ∀ v q, v < nv → q < 10 → OO v = nI q → q < np ∧ HH q = nI v := fun v q hv hq z => by
    rw [eO v (by omega)] at z
    rw [eH q hq]
    exact cC v q hv hq z
  have hWG := dW_sub (by omega) hnv ok cC' hOb
  refine ⟨HH, OO, eH, eO, hWG, fun Q hQ => ?_⟩
  rw [PC_41, zb_41_0]
  simp (disch := first | exact zl_i | exact zl_r | exact zl_n | omega | exact zlen0 | exact zlen1 | exact zlen2 | exact zlen3 | exact zlen4 | exact zl_l | (simp only [zS_uf1, zS_uf2, zS_ur1, zS_ur2, Nat.reduceEqDiff, reduceIte, and_false, false_and, and_true, true_and, ite_true, ite_false]; done) | exact zl_n) only [Int.reduceToNat, Nat.reduceAdd, Nat.reduceMul, List.length_nil, List.length_cons, Nat.reduceLeDiff, Nat.zero_le, Option.toList_some, Option.toList_none, List.cons_append, List.nil_append, PW_nil, PW_goto, zl_i, zl_r, zl_n, PW_aload_0, PW_k0, PW_p716, PW_g710, PW_iload_3, PX_c18, PW_if_ne, PW_km1, PW_ret_i zret_41, PW_iload_4, PX_c56, PW_if_eq, PW_iload_1, PW_k100000, PX_c55, PW_iload_2, PW_k1, PW_k9, PW_km2, PW_iload_5, PW_g705, PW_g452, PX_c22, PX_c57, PW_istore_6, PW_iload_6, PW_g714, PW_g706, PX_c2, PW_g515, PW_g704, PW_g645, PX_c3, PX_c5, zb_41_1, zb_41_2, zb_41_3, zb_41_4, zb_41_5, PK_app, n_l6, n_l7, n_l12, n_l13, n_l14, n_l16, n_l21, n_l22, n_l25, n_l28, n_l29, n_l30, n_l33, n_l35, n_l36, n_l50, n_l55, n_l61, n_l63, n_l64, n_l101, n_l1000, n_l2147483647, n_l0, n_l1, n_l2, n_l3, n_l4, n_l5, n_l8, n_l9, n_l10, n_l15, n_l20, n_l31, n_l40, n_l48, n_l57, n_l59, n_l60, n_l70, n_l99, n_l100, n_l255, n_l601, n_l602, n_l1024, n_l1500, n_l2100, n_l2101, n_l65535, n_l100000, n_l1000000, n_l100000000, i_lt, nI_clamp, nI_leI, nI_eq, nI_1, nI_add, pk_mul, pk_sub, n_in, n_negle, n_legne, n_eqneg, n_negeq, n_nn, n_bit, n_shl1, n_or, zb_e0, zb_e1, zb_r, n_em, zb_T, zb_F, zS_uf1, zS_uf2, zS_ur1, zS_ur2, zS_ur3, zS_ul1, zS_ul2, zS_ul3, z_if0, z_if1, Int.reduceEq, Nat.reduceOr, Nat.or_zero, Nat.zero_or, Bool.false_eq_true, reduceCtorEq, nar0, nar1, nar_zb, eq_self, true_and, and_true, false_and, and_false, or_true, true_or, or_false, false_or, not_true_eq_false, not_false_eq_true, Classical.not_not, true_implies, false_implies, implies_true, iff_true, iff_self, ite_true, ite_false, Nat.reduceEqDiff, Nat.reduceLT, Nat.reduceSub, Nat.add_sub_cancel, Nat.reduceLeDiff, reduceIte, ne_eq, Nat.not_le, p1, v1, sp_knows8, sp_isLane, sp_within, hd, hh.1, hh.2, Nat.zero_le, A, PC_57, zb_57_0, Int.reduceToNat, Nat.reduceAdd, Nat.reduceMul, List.length_nil, List.length_cons, Nat.reduceLeDiff, Nat.zero_le, Option.toList_some, Option.toList_none, List.cons_append, List.nil_append, PW_nil, PW_goto, zl_i, zl_r, zl_n, PW_aload_0, PW_iload_1, PW_p716, PW_if_ne, PW_k0, PW_km10, PW_isub, PW_ret_i zret_57, zb_57_1, zb_57_2, zuf_same, zur_uf, rd']
  refine want_w (x := x) (by omega) hnv hG hHb hOb (fun _ => ?_) (fun z => absurd ok z)
  have hb : bitsOf (dgv HH x) np < 2 ^ np := bitsOf_lt
  have hp10 : 2 ^ np ≤ 2 ^ 10 := Nat.pow_le_pow_right (by omega) (by omega)
  have h10 : (2 : Nat) ^ 10 = 1024 := rfl
  have hcn : cnt (dgt HH x) np ≤ np := cnt_le np
  generalize hS : zur (zuf (zuf (zur (zur (zur (zuf σ 11 12 (nI 0)) 72 G72) 47 HH) 48 OO) 5 2 (nI (bitsOf (dgv ((zur (zur (zur (zuf σ 11 12 (nI 0)) 72 G72) 47 HH) 48 OO).2.1 47) x) np))) 5 4 (nI (cnt (dgt ((zur (zur (zur (zuf σ 11 12 (nI 0)) 72 G72) 47 HH) 48 OO).2.1 47) x) np))) 49 (drw (dgt ((zur (zur (zur (zuf σ 11 12 (nI 0)) 72 G72) 47 HH) 48 OO).2.1 47) x) (dwt ((zur (zur (zur (zuf σ 11 12 (nI 0)) 72 G72) 47 HH) 48 OO).2.1 47) ((zur (zur (zur (zuf σ 11 12 (nI 0)) 72 G72) 47 HH) 48 OO).2.1 48) x) ((zur (zur (zur (zuf σ 11 12 (nI 0)) 72 G72) 47 HH) 48 OO).2.1 49) np) = S
  have g2 : S.1 5 2 = nI (bitsOf (dgv HH x) np) := by rw [← hS]; rfl
  have g3 : S.1 5 4 = nI (cnt (dgt HH x) np) := by rw [← hS]; rfl
  have g4 : ∀ j, j < cnt (dgt HH x) np → S.2.1 49 j = nI (dgl (dgt HH x) (dwt HH OO x) np j) := fun j hj => by
    rw [← hS]
    exact if_pos hj
  have gE : eqd σ S := by
    rw [← hS]
    refine ⟨fun c j q => ?_, fun a q => ?_⟩
    · simp only [zS_uf1, zS_ur1]
      rw [if_neg (by omega), if_neg (by omega), if_neg (by omega)]
    · simp only [zS_uf2, zS_ur2]
      rw [if_neg (by omega), if_neg (by omega), if_neg (by omega), if_neg (by omega)]
  have sf := fun Q => sp_fewest5 (sc := sc) (σ := S) (Q := Q) (h := h) (W := dgl (dgt HH x) (dwt HH OO x) np) (by omega) hh (by omega) g2 g3 (fun j hj => ⟨g4 j hj, by
    have a : dgl (dgt HH x) (dwt HH OO x) np j &&& bitsOf (dgv HH x) np ≤ bitsOf (dgv HH x) np := Nat.and_le_right
    rw [hWG j hj] at a
    omega⟩)
  simp (disch := first | exact zl_i | exact zl_r | exact zl_n | omega | exact zlen0 | exact zlen1 | exact zlen2 | exact zlen3 | exact zlen4 | exact zl_l | (simp only [zS_uf1, zS_uf2, zS_ur1, zS_ur2, Nat.reduceEqDiff, reduceIte, and_false, false_and, and_true, true_and, ite_true, ite_false]; done) | exact zl_n) only [Int.reduceToNat, Nat.reduceAdd, Nat.reduceMul, List.length_nil, List.length_cons, Nat.reduceLeDiff, Nat.zero_le, Option.toList_some, Option.toList_none, List.cons_append, List.nil_append, PW_nil, PW_goto, zl_i, zl_r, zl_n, PW_aload_0, PW_k0, PW_p716, PW_g710, PW_iload_3, PX_c18, PW_if_ne, PW_km1, PW_ret_i zret_41, PW_iload_4, PX_c56, PW_if_eq, PW_iload_1, PW_k100000, PX_c55, PW_iload_2, PW_k1, PW_k9, PW_km2, PW_iload_5, PW_g705, PW_g452, PX_c22, PX_c57, PW_istore_6, PW_iload_6, PW_g714, PW_g706, PX_c2, PW_g515, PW_g704, PW_g645, PX_c3, PX_c5, zb_41_1, zb_41_2, zb_41_3, zb_41_4, zb_41_5, PK_app, n_l6, n_l7, n_l12, n_l13, n_l14, n_l16, n_l21, n_l22, n_l25, n_l28, n_l29, n_l30, n_l33, n_l35, n_l36, n_l50, n_l55, n_l61, n_l63, n_l64, n_l101, n_l1000, n_l2147483647, n_l0, n_l1, n_l2, n_l3, n_l4, n_l5, n_l8, n_l9, n_l10, n_l15, n_l20, n_l31, n_l40, n_l48, n_l57, n_l59, n_l60, n_l70, n_l99, n_l100, n_l255, n_l601, n_l602, n_l1024, n_l1500, n_l2100, n_l2101, n_l65535, n_l100000, n_l1000000, n_l100000000, i_lt, nI_clamp, nI_leI, nI_eq, nI_1, nI_add, pk_mul, pk_sub, n_in, n_negle, n_legne, n_eqneg, n_negeq, n_nn, n_bit, n_shl1, n_or, zb_e0, zb_e1, zb_r, n_em, zb_T, zb_F, zS_uf1, zS_uf2, zS_ur1, zS_ur2, zS_ur3, zS_ul1, zS_ul2, zS_ul3, z_if0, z_if1, Int.reduceEq, Nat.reduceOr, Nat.or_zero, Nat.zero_or, Bool.false_eq_true, reduceCtorEq, nar0, nar1, nar_zb, eq_self, true_and, and_true, false_and, and_false, or_true, true_or, or_false, false_or, not_true_eq_false, not_false_eq_true, Classical.not_not, true_implies, false_implies, implies_true, iff_true, iff_self, ite_true, ite_false, Nat.reduceEqDiff, Nat.reduceLT, Nat.reduceSub, Nat.add_sub_cancel, Nat.reduceLeDiff, reduceIte, ne_eq, Nat.not_le, PK_app, sf]
  exact hQ S gE
end DE5
