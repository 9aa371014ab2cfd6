/-! best, oneTree -/
def om (x : Int32) (f : Nat → Int32) : Option Nat → Int32
  | none => x
  | some b => f b
theorem om_n {x : Int32} {f : Nat → Int32} : om x f none = x := rfl
theorem om_s {x : Int32} {f : Nat → Int32} {b : Nat} : om x f (some b) = f b := rfl
theorem om_01 {o : Option Nat} : om (nI 0) (fun _ => nI 1) o = nI 0 ∨ om (nI 0) (fun _ => nI 1) o = nI 1 := by
  cases o
  · exact Or.inl rfl
  · exact Or.inr rfl
def xs (x : Int32) (f : Nat → Int32) : Nat → Int32
  | 0 => x
  | d + 1 => f d
theorem xs_s {x : Int32} {f : Nat → Int32} {d : Nat} : xs x f (d + 1) = f d := rfl
theorem zuf_sw2 {σ : zS} {c j c1 j1 c2 j2 : Nat} {x y1 y2 z : Int32} (h : ¬ (c = c1 ∧ j = j1)) (h2 : ¬ (c = c2 ∧ j = j2)) : zuf (zuf (zuf (zuf σ c j x) c1 j1 y1) c2 j2 y2) c j z = zuf (zuf (zuf σ c j z) c1 j1 y1) c2 j2 y2 := by
  refine zs_ext (fun a b => ?_) (fun _ => rfl) (fun _ => rfl)
  simp only [zS_uf1]
  by_cases q : a = c ∧ b = j
  · obtain ⟨rfl, rfl⟩ := q
    rw [if_pos ⟨rfl, rfl⟩, if_neg h2, if_neg h, if_pos ⟨rfl, rfl⟩]
  · rw [if_neg q, if_neg q]
    rw [if_neg q]
theorem zuf_sw3 {σ : zS} {c j c1 j1 c2 j2 c3 j3 : Nat} {x y1 y2 y3 z : Int32} (h : ¬ (c = c1 ∧ j = j1)) (h2 : ¬ (c = c2 ∧ j = j2)) (h3 : ¬ (c = c3 ∧ j = j3)) : zuf (zuf (zuf (zuf (zuf σ c j x) c1 j1 y1) c2 j2 y2) c3 j3 y3) c j z = zuf (zuf (zuf (zuf σ c j z) c1 j1 y1) c2 j2 y2) c3 j3 y3 := by
  refine zs_ext (fun a b => ?_) (fun _ => rfl) (fun _ => rfl)
  simp only [zS_uf1]
  by_cases q : a = c ∧ b = j
  · obtain ⟨rfl, rfl⟩ := q
    rw [if_pos ⟨rfl, rfl⟩, if_neg h3, if_neg h2, if_neg h, if_pos ⟨rfl, rfl⟩]
  · rw [if_neg q, if_neg q]
    rw [if_neg q]
/-- agreeing and unlike at the d-th place -/
noncomputable def bA (R G : Nat → Int32) (L M d : Nat) : Nat := tr_ag R G L M (1 - L + d)
noncomputable def bU (R G : Nat → Int32) (L M d : Nat) : Nat := tr_un R G L M (1 - L + d)
def bc (R G : Nat → Int32) (L M d : Nat) : Prop := 5 ≤ bA R G L M d + bU R G L M d
noncomputable def bF (R G : Nat → Int32) (L M d : Nat) : Int32 := iI ((bU R G L M d : Int) - bA R G L M d)
noncomputable def bN (R G : Nat → Int32) (L M : Nat) : Nat → Option Nat := nx (bc R G L M) (bF R G L M)
noncomputable def bM (R G : Nat → Int32) (L M d : Nat) : Int32 := iI ((bA R G L M d : Int) - bU R G L M d)
def bP (L d : Nat) : Int32 := iI (1 - L + d)
section TB
variable {R G : Nat → Int32} {L M : Nat}
theorem bAU (h : L ≤ 20) (d : Nat) : bA R G L M d ≤ 20 ∧ bU R G L M d ≤ 20 := by
  have := tr_le (R := R) (G := G) (L := L) (M := M) (k := 1 - L + d)
  unfold bA bU
  omega
theorem bF_cmp (h : L ≤ 20) (a b : Nat) : bF R G L M a ≤ bF R G L M b ↔ bM R G L M b ≤ bM R G L M a := by
  have h1 := bAU (R := R) (G := G) (M := M) h a
  have h2 := bAU (R := R) (G := G) (M := M) h b
  unfold bF bM
  rw [iI_le (by omega) (by omega), iI_le (by omega) (by omega)]
  omega
theorem bN_n {d : Nat} (h : bc R G L M d) (e : bN R G L M d = none) : bN R G L M (d + 1) = some d := nx_t h (fun k hk => by
  have e' : nx (bc R G L M) (bF R G L M) d = none := e
  rw [e'] at hk
  cases hk)
theorem bN_s (hL : L ≤ 20) {d k : Nat} (h : bc R G L M d) (e : bN R G L M d = some k) (q : ¬ bM R G L M d ≤ bM R G L M k) : bN R G L M (d + 1) = some d := nx_t h (fun k' hk => by
  have e' : nx (bc R G L M) (bF R G L M) d = some k := e
  rw [e'] at hk
  cases hk
  rw [bF_cmp hL]
  exact q)
theorem bN_k (hL : L ≤ 20) {d k : Nat} (e : bN R G L M d = some k) (q : bM R G L M d ≤ bM R G L M k) : bN R G L M (d + 1) = some k := (nx_f2 e ((bF_cmp hL _ _).mpr q)).trans e
theorem bN_f {d : Nat} (h : ¬ bc R G L M d) : bN R G L M (d + 1) = bN R G L M d := nx_f h
variable {sc : zX} {σ : zS} {Q : Option Value → zS → Prop}
noncomputable def bS (σ : zS) (R G : Nat → Int32) (L M d : Nat) : zS :=
  zuf (zuf (zuf (zuf σ 6 3 (xs (σ.1 6 3) (fun d => nI (bA R G L M d)) d)) 6 4 (xs (σ.1 6 4) (fun d => nI (bU R G L M d)) d)) 6 5 (om (σ.1 6 5) (bP L) (bN R G L M d))) 6 6 (om (σ.1 6 6) (bM R G L M) (bN R G L M d))
theorem sp_findBest {v : Nat} (hv : v < 10) (hL : L ≤ 20) (hM : M ≤ 60) (hm : σ.1 6 1 = nI M) (hR : σ.2.1 (83 + v) = R) (hG : σ.2.1 50 = G) :
    PC sc 12 [.ref 6, .ref (83 + v), .int (nI L)] σ Q ↔ Q (some (.int (om (nI 0) (fun _ => nI 1) (bN R G L M (L + M - 1))))) (bS σ R G L M (L + M - 1)) := by
  rw [PC_12, zb_12_0]
  simp (disch := first | exact zl_i | exact zl_r | exact zl_n | omega | exact zlen0 | exact zlen1 | exact zlen2 | exact zlen3 | exact zlen4 | exact zl_l | (simp only [zS_uf1, zS_uf2, zS_ur1, zS_ur2, Nat.reduceEqDiff, reduceIte, and_false, false_and, and_true, true_and, ite_true, ite_false]; done) | exact zl_n) only [Int.reduceToNat, Nat.reduceAdd, Nat.reduceMul, List.length_nil, List.length_cons, Nat.reduceLeDiff, Nat.zero_le, Option.toList_some, Option.toList_none, List.cons_append, List.nil_append, PW_nil, PW_goto, zl_i, zl_r, zl_n, PW_k0, PW_istore_3, PW_k1, PW_iload_2, PW_isub, PW_istore_4, PW_iload_4, PW_aload_0, PW_g385, PW_ic_ge, PW_aload_1, PX_c9, PW_g387, PW_g388, PW_iadd, PW_k5, PW_ic_lt, PW_iload_3, PW_if_eq, PW_g390, PW_ic_le, PW_p389, PW_p390, PW_iinc_4_p1, PW_ret_z zret_12, zb_12_2, zb_12_3, zb_12_4, PK_app, n_l0, n_l1, n_l2, n_l3, n_l4, n_l5, n_l8, n_l9, n_l10, n_l15, n_l20, n_l31, n_l40, n_l48, n_l57, n_l59, n_l60, n_l70, n_l99, n_l100, n_l255, n_l601, n_l602, n_l1024, n_l1500, n_l2100, n_l2101, n_l65535, n_l100000, n_l1000000, n_l100000000, i_lt, nI_clamp, nI_leI, nI_eq, nI_1, nI_add, pk_mul, pk_sub, n_in, n_negle, n_legne, n_eqneg, n_negeq, n_nn, n_bit, n_shl1, n_or, zb_e0, zb_e1, zb_r, n_em, zb_T, zb_F, zS_uf1, zS_uf2, zS_ur1, zS_ur2, zS_ur3, zS_ul1, zS_ul2, zS_ul3, z_if0, z_if1, Int.reduceEq, Nat.reduceOr, Nat.or_zero, Nat.zero_or, Bool.false_eq_true, reduceCtorEq, nar0, nar1, nar_zb, eq_self, true_and, and_true, false_and, and_false, or_true, true_or, or_false, false_or, not_true_eq_false, not_false_eq_true, Classical.not_not, true_implies, false_implies, implies_true, iff_true, iff_self, ite_true, ite_false, Nat.reduceEqDiff, Nat.reduceLT, Nat.reduceSub, Nat.add_sub_cancel, Nat.reduceLeDiff, reduceIte, ne_eq, Nat.not_le]
  have key := lp_all (L + M - 1) (fun d => PW sc 12 (zblk 12 1) 2 [some (.ref 6), some (.ref ((83 + v))), some (.int (nI L)), some (.int (om (nI 0) (fun _ => nI 1) (bN R G L M d))), some (.int (bP L d))] [] (bS σ R G L M d) Q) (fun d hd => by
    have hc : (nI M ≤ bP L d) = False := by
      unfold bP
      rw [iI_n, iI_le (by omega) (by omega)]
      apply eq_false
      omega
    have hi : bP L d + nI 1 = bP L (d + 1) := by
      unfold bP
      rw [iI_n, iI_add]
      congr 1
      omega
    have sl := fun Q => sp_lay (sc := sc) (σ := bS σ R G L M d) (Q := Q) (v := v) (L := L) (M := M) (k := 1 - L + d) hv hL hM hm (by omega)
    have e1 : (bS σ R G L M d).2.1 (83 + v) = R := hR
    have e2 : (bS σ R G L M d).2.1 50 = G := hG
    rw [e1, e2] at sl
    have sl2 : ∀ Q, PC sc 9 [.ref 6, .ref (83 + v), .int (nI L), .int (bP L d)] (bS σ R G L M d) Q ↔ Q none (zuf (zuf (bS σ R G L M d) 6 3 (nI (bA R G L M d))) 6 4 (nI (bU R G L M d))) := sl
    have hb := bAU (R := R) (G := G) (M := M) hL d
    have hm1 : nI (bA R G L M d) - nI (bU R G L M d) = bM R G L M d := by
      unfold bM
      rw [iI_n, iI_n, iI_sub]
    conv => lhs; rw [zb_12_1]
    unfold bS at sl2 ⊢
    simp only [xs_s]
    by_cases c1 : bc R G L M d
    · have c1' : 5 ≤ bA R G L M d + bU R G L M d := c1
      cases e : bN R G L M d with
      | none =>
        simp only [e, bN_n c1 e, om_n, om_s] at sl2 ⊢
        simp (disch := first | exact zl_i | exact zl_r | exact zl_n | omega | exact zlen0 | exact zlen1 | exact zlen2 | exact zlen3 | exact zlen4 | exact zl_l | (simp only [zS_uf1, zS_uf2, zS_ur1, zS_ur2, Nat.reduceEqDiff, reduceIte, and_false, false_and, and_true, true_and, ite_true, ite_false]; done) | exact zl_n) only [Int.reduceToNat, Nat.reduceAdd, Nat.reduceMul, List.length_nil, List.length_cons, Nat.reduceLeDiff, Nat.zero_le, Option.toList_some, Option.toList_none, List.cons_append, List.nil_append, PW_nil, PW_goto, zl_i, zl_r, zl_n, PW_k0, PW_istore_3, PW_k1, PW_iload_2, PW_isub, PW_istore_4, PW_iload_4, PW_aload_0, PW_g385, PW_ic_ge, PW_aload_1, PX_c9, PW_g387, PW_g388, PW_iadd, PW_k5, PW_ic_lt, PW_iload_3, PW_if_eq, PW_g390, PW_ic_le, PW_p389, PW_p390, PW_iinc_4_p1, PW_ret_z zret_12, zb_12_2, zb_12_3, zb_12_4, PK_app, n_l0, n_l1, n_l2, n_l3, n_l4, n_l5, n_l8, n_l9, n_l10, n_l15, n_l20, n_l31, n_l40, n_l48, n_l57, n_l59, n_l60, n_l70, n_l99, n_l100, n_l255, n_l601, n_l602, n_l1024, n_l1500, n_l2100, n_l2101, n_l65535, n_l100000, n_l1000000, n_l100000000, i_lt, nI_clamp, nI_leI, nI_eq, nI_1, nI_add, pk_mul, pk_sub, n_in, n_negle, n_legne, n_eqneg, n_negeq, n_nn, n_bit, n_shl1, n_or, zb_e0, zb_e1, zb_r, n_em, zb_T, zb_F, zS_uf1, zS_uf2, zS_ur1, zS_ur2, zS_ur3, zS_ul1, zS_ul2, zS_ul3, z_if0, z_if1, Int.reduceEq, Nat.reduceOr, Nat.or_zero, Nat.zero_or, Bool.false_eq_true, reduceCtorEq, nar0, nar1, nar_zb, eq_self, true_and, and_true, false_and, and_false, or_true, true_or, or_false, false_or, not_true_eq_false, not_false_eq_true, Classical.not_not, true_implies, false_implies, implies_true, iff_true, iff_self, ite_true, ite_false, Nat.reduceEqDiff, Nat.reduceLT, Nat.reduceSub, Nat.add_sub_cancel, Nat.reduceLeDiff, reduceIte, ne_eq, Nat.not_le, hc, hi, hm, sl2, hm1, c1', zuf_same, zuf_sw, zuf_sw2, zuf_sw3]
      | some k =>
        by_cases c2 : bM R G L M d ≤ bM R G L M k
        · simp only [e, bN_k hL e c2, om_s] at sl2 ⊢
          simp (disch := first | exact zl_i | exact zl_r | exact zl_n | omega | exact zlen0 | exact zlen1 | exact zlen2 | exact zlen3 | exact zlen4 | exact zl_l | (simp only [zS_uf1, zS_uf2, zS_ur1, zS_ur2, Nat.reduceEqDiff, reduceIte, and_false, false_and, and_true, true_and, ite_true, ite_false]; done) | exact zl_n) only [Int.reduceToNat, Nat.reduceAdd, Nat.reduceMul, List.length_nil, List.length_cons, Nat.reduceLeDiff, Nat.zero_le, Option.toList_some, Option.toList_none, List.cons_append, List.nil_append, PW_nil, PW_goto, zl_i, zl_r, zl_n, PW_k0, PW_istore_3, PW_k1, PW_iload_2, PW_isub, PW_istore_4, PW_iload_4, PW_aload_0, PW_g385, PW_ic_ge, PW_aload_1, PX_c9, PW_g387, PW_g388, PW_iadd, PW_k5, PW_ic_lt, PW_iload_3, PW_if_eq, PW_g390, PW_ic_le, PW_p389, PW_p390, PW_iinc_4_p1, PW_ret_z zret_12, zb_12_2, zb_12_3, zb_12_4, PK_app, n_l0, n_l1, n_l2, n_l3, n_l4, n_l5, n_l8, n_l9, n_l10, n_l15, n_l20, n_l31, n_l40, n_l48, n_l57, n_l59, n_l60, n_l70, n_l99, n_l100, n_l255, n_l601, n_l602, n_l1024, n_l1500, n_l2100, n_l2101, n_l65535, n_l100000, n_l1000000, n_l100000000, i_lt, nI_clamp, nI_leI, nI_eq, nI_1, nI_add, pk_mul, pk_sub, n_in, n_negle, n_legne, n_eqneg, n_negeq, n_nn, n_bit, n_shl1, n_or, zb_e0, zb_e1, zb_r, n_em, zb_T, zb_F, zS_uf1, zS_uf2, zS_ur1, zS_ur2, zS_ur3, zS_ul1, zS_ul2, zS_ul3, z_if0, z_if1, Int.reduceEq, Nat.reduceOr, Nat.or_zero, Nat.zero_or, Bool.false_eq_true, reduceCtorEq, nar0, nar1, nar_zb, eq_self, true_and, and_true, false_and, and_false, or_true, true_or, or_false, false_or, not_true_eq_false, not_false_eq_true, Classical.not_not, true_implies, false_implies, implies_true, iff_true, iff_self, ite_true, ite_false, Nat.reduceEqDiff, Nat.reduceLT, Nat.reduceSub, Nat.add_sub_cancel, Nat.reduceLeDiff, reduceIte, ne_eq, Nat.not_le, hc, hi, hm, sl2, hm1, c1', c2, zuf_same, zuf_sw, zuf_sw2, zuf_sw3]
        · simp only [e, bN_s hL c1 e c2, om_s] at sl2 ⊢
          simp (disch := first | exact zl_i | exact zl_r | exact zl_n | omega | exact zlen0 | exact zlen1 | exact zlen2 | exact zlen3 | exact zlen4 | exact zl_l | (simp only [zS_uf1, zS_uf2, zS_ur1, zS_ur2, Nat.reduceEqDiff, reduceIte, and_false, false_and, and_true, true_and, ite_true, ite_false]; done) | exact zl_n) only [Int.reduceToNat, Nat.reduceAdd, Nat.reduceMul, List.length_nil, List.length_cons, Nat.reduceLeDiff, Nat.zero_le, Option.toList_some, Option.toList_none, List.cons_append, List.nil_append, PW_nil, PW_goto, zl_i, zl_r, zl_n, PW_k0, PW_istore_3, PW_k1, PW_iload_2, PW_isub, PW_istore_4, PW_iload_4, PW_aload_0, PW_g385, PW_ic_ge, PW_aload_1, PX_c9, PW_g387, PW_g388, PW_iadd, PW_k5, PW_ic_lt, PW_iload_3, PW_if_eq, PW_g390, PW_ic_le, PW_p389, PW_p390, PW_iinc_4_p1, PW_ret_z zret_12, zb_12_2, zb_12_3, zb_12_4, PK_app, n_l0, n_l1, n_l2, n_l3, n_l4, n_l5, n_l8, n_l9, n_l10, n_l15, n_l20, n_l31, n_l40, n_l48, n_l57, n_l59, n_l60, n_l70, n_l99, n_l100, n_l255, n_l601, n_l602, n_l1024, n_l1500, n_l2100, n_l2101, n_l65535, n_l100000, n_l1000000, n_l100000000, i_lt, nI_clamp, nI_leI, nI_eq, nI_1, nI_add, pk_mul, pk_sub, n_in, n_negle, n_legne, n_eqneg, n_negeq, n_nn, n_bit, n_shl1, n_or, zb_e0, zb_e1, zb_r, n_em, zb_T, zb_F, zS_uf1, zS_uf2, zS_ur1, zS_ur2, zS_ur3, zS_ul1, zS_ul2, zS_ul3, z_if0, z_if1, Int.reduceEq, Nat.reduceOr, Nat.or_zero, Nat.zero_or, Bool.false_eq_true, reduceCtorEq, nar0, nar1, nar_zb, eq_self, true_and, and_true, false_and, and_false, or_true, true_or, or_false, false_or, not_true_eq_false, not_false_eq_true, Classical.not_not, true_implies, false_implies, implies_true, iff_true, iff_self, ite_true, ite_false, Nat.reduceEqDiff, Nat.reduceLT, Nat.reduceSub, Nat.add_sub_cancel, Nat.reduceLeDiff, reduceIte, ne_eq, Nat.not_le, hc, hi, hm, sl2, hm1, c1', c2, zuf_same, zuf_sw, zuf_sw2, zuf_sw3]
    · have c1' : ¬ 5 ≤ bA R G L M d + bU R G L M d := c1
      rw [bN_f c1]
      simp (disch := first | exact zl_i | exact zl_r | exact zl_n | omega | exact zlen0 | exact zlen1 | exact zlen2 | exact zlen3 | exact zlen4 | exact zl_l | (simp only [zS_uf1, zS_uf2, zS_ur1, zS_ur2, Nat.reduceEqDiff, reduceIte, and_false, false_and, and_true, true_and, ite_true, ite_false]; done) | exact zl_n) only [Int.reduceToNat, Nat.reduceAdd, Nat.reduceMul, List.length_nil, List.length_cons, Nat.reduceLeDiff, Nat.zero_le, Option.toList_some, Option.toList_none, List.cons_append, List.nil_append, PW_nil, PW_goto, zl_i, zl_r, zl_n, PW_k0, PW_istore_3, PW_k1, PW_iload_2, PW_isub, PW_istore_4, PW_iload_4, PW_aload_0, PW_g385, PW_ic_ge, PW_aload_1, PX_c9, PW_g387, PW_g388, PW_iadd, PW_k5, PW_ic_lt, PW_iload_3, PW_if_eq, PW_g390, PW_ic_le, PW_p389, PW_p390, PW_iinc_4_p1, PW_ret_z zret_12, zb_12_2, zb_12_3, zb_12_4, PK_app, n_l0, n_l1, n_l2, n_l3, n_l4, n_l5, n_l8, n_l9, n_l10, n_l15, n_l20, n_l31, n_l40, n_l48, n_l57, n_l59, n_l60, n_l70, n_l99, n_l100, n_l255, n_l601, n_l602, n_l1024, n_l1500, n_l2100, n_l2101, n_l65535, n_l100000, n_l1000000, n_l100000000, i_lt, nI_clamp, nI_leI, nI_eq, nI_1, nI_add, pk_mul, pk_sub, n_in, n_negle, n_legne, n_eqneg, n_negeq, n_nn, n_bit, n_shl1, n_or, zb_e0, zb_e1, zb_r, n_em, zb_T, zb_F, zS_uf1, zS_uf2, zS_ur1, zS_ur2, zS_ur3, zS_ul1, zS_ul2, zS_ul3, z_if0, z_if1, Int.reduceEq, Nat.reduceOr, Nat.or_zero, Nat.zero_or, Bool.false_eq_true, reduceCtorEq, nar0, nar1, nar_zb, eq_self, true_and, and_true, false_and, and_false, or_true, true_or, or_false, false_or, not_true_eq_false, not_false_eq_true, Classical.not_not, true_implies, false_implies, implies_true, iff_true, iff_self, ite_true, ite_false, Nat.reduceEqDiff, Nat.reduceLT, Nat.reduceSub, Nat.add_sub_cancel, Nat.reduceLeDiff, reduceIte, ne_eq, Nat.not_le, hc, hi, hm, sl2, hm1, c1', zuf_same, zuf_sw, zuf_sw2, zuf_sw3])
  have h0 : bS σ R G L M 0 = σ := by
    unfold bS
    show zuf (zuf (zuf (zuf σ 6 3 (σ.1 6 3)) 6 4 (σ.1 6 4)) 6 5 (σ.1 6 5)) 6 6 (σ.1 6 6) = σ
    rw [zuf_id, zuf_id, zuf_id, zuf_id]
  have h1 : nI 1 - nI L = bP L 0 := by
    unfold bP
    rw [iI_n, iI_n, iI_sub]
    congr 1
    omega
  have hc : (nI M ≤ bP L (L + M - 1)) = True := by
    unfold bP
    rw [iI_n, iI_le (by omega) (by omega)]
    apply eq_true
    omega
  rw [h0] at key
  rw [h1]
  refine Iff.trans key ?_
  rw [zb_12_1]
  unfold bS
  simp (disch := first | exact zl_i | exact zl_r | exact zl_n | omega | exact zlen0 | exact zlen1 | exact zlen2 | exact zlen3 | exact zlen4 | exact zl_l | (simp only [zS_uf1, zS_uf2, zS_ur1, zS_ur2, Nat.reduceEqDiff, reduceIte, and_false, false_and, and_true, true_and, ite_true, ite_false]; done) | exact zl_n) only [Int.reduceToNat, Nat.reduceAdd, Nat.reduceMul, List.length_nil, List.length_cons, Nat.reduceLeDiff, Nat.zero_le, Option.toList_some, Option.toList_none, List.cons_append, List.nil_append, PW_nil, PW_goto, zl_i, zl_r, zl_n, PW_k0, PW_istore_3, PW_k1, PW_iload_2, PW_isub, PW_istore_4, PW_iload_4, PW_aload_0, PW_g385, PW_ic_ge, PW_aload_1, PX_c9, PW_g387, PW_g388, PW_iadd, PW_k5, PW_ic_lt, PW_iload_3, PW_if_eq, PW_g390, PW_ic_le, PW_p389, PW_p390, PW_iinc_4_p1, PW_ret_z zret_12, zb_12_2, zb_12_3, zb_12_4, PK_app, n_l0, n_l1, n_l2, n_l3, n_l4, n_l5, n_l8, n_l9, n_l10, n_l15, n_l20, n_l31, n_l40, n_l48, n_l57, n_l59, n_l60, n_l70, n_l99, n_l100, n_l255, n_l601, n_l602, n_l1024, n_l1500, n_l2100, n_l2101, n_l65535, n_l100000, n_l1000000, n_l100000000, i_lt, nI_clamp, nI_leI, nI_eq, nI_1, nI_add, pk_mul, pk_sub, n_in, n_negle, n_legne, n_eqneg, n_negeq, n_nn, n_bit, n_shl1, n_or, zb_e0, zb_e1, zb_r, n_em, zb_T, zb_F, zS_uf1, zS_uf2, zS_ur1, zS_ur2, zS_ur3, zS_ul1, zS_ul2, zS_ul3, z_if0, z_if1, Int.reduceEq, Nat.reduceOr, Nat.or_zero, Nat.zero_or, Bool.false_eq_true, reduceCtorEq, nar0, nar1, nar_zb, eq_self, true_and, and_true, false_and, and_false, or_true, true_or, or_false, false_or, not_true_eq_false, not_false_eq_true, Classical.not_not, true_implies, false_implies, implies_true, iff_true, iff_self, ite_true, ite_false, Nat.reduceEqDiff, Nat.reduceLT, Nat.reduceSub, Nat.add_sub_cancel, Nat.reduceLeDiff, reduceIte, ne_eq, Nat.not_le, hm, hc, om_01]
end TB
