/-! a lending told: the reference -/
theorem n_rng {x : Int32} {nv : Nat} (h : nv ≤ 10) : (-nI 1 ≤ x ∧ x ≤ nI nv - nI 1) ↔ (x = -nI 1 ∨ ∃ v, v < nv ∧ x = nI v) := by
  have a := Int32.le_toInt x
  have b := Int32.toInt_lt x
  have e1 : -nI 1 = iI (-1) := rfl
  have e2 : nI nv - nI 1 = iI ((nv : Int) - 1) := by rw [iI_n, iI_n, iI_sub]; rfl
  have e3 : ∀ v : Nat, v < nv → (iI x.toInt = nI v ↔ x.toInt = v) := fun v hv => by rw [iI_n, iI_eq (by omega) (by omega)]
  rw [e1, e2]
  have e4 : x = iI x.toInt := iI_of.symm
  generalize x.toInt = z at *
  subst e4
  rw [iI_le (by omega) (by omega), iI_le (by omega) (by omega), iI_eq (by omega) (by omega)]
  constructor
  · rintro ⟨p, q⟩
    by_cases c : z = -1
    · exact Or.inl c
    · exact Or.inr ⟨z.toNat, by omega, (e3 _ (by omega)).mpr (by omega)⟩
  · rintro (p | ⟨v, p, q⟩)
    · omega
    · have := (e3 v p).mp q
      omega
def w107 (x g : Nat → Int32) (i : Nat) : Nat → Int32 := fun p => if p < i then x p else g p
theorem w107_0 {x g : Nat → Int32} : w107 x g 0 = g := funext fun p => if_neg (Nat.not_lt_zero p)
theorem w107_s {x g : Nat → Int32} {i : Nat} : upd (w107 x g i) i (x i) = w107 x g (i + 1) := funext fun p => by
  unfold upd w107
  by_cases z : p = i
  · rw [if_pos z, if_pos (by omega), z]
  · rw [if_neg z]
    by_cases q : p < i
    · rw [if_pos q, if_pos (by omega)]
    · rw [if_neg q, if_neg (show ¬ p < i + 1 by omega)]
noncomputable def sB (x : Nat → Int32) (nv i : Nat) : Nat := bitsOf (fun v => ¬ hlr x i v = none) nv
theorem sB_0 {x : Nat → Int32} {nv : Nat} : sB x nv 0 = 0 := by
  apply Nat.eq_of_testBit_eq
  intro j
  rw [Nat.zero_testBit]
  refine Bool.eq_false_iff.mpr (fun h => ?_)
  exact (bitsOf_bit.mp h).2 rfl
theorem sB_lt {x : Nat → Int32} {nv i : Nat} (h : nv ≤ 10) : sB x nv i < 1024 := by
  have h1 : sB x nv i < 2 ^ nv := bitsOf_lt
  have h2 := Nat.pow_le_pow_right (show 0 < 2 by omega) h
  have h3 : (2 : Nat) ^ 10 = 1024 := rfl
  omega
theorem sB_k {x : Nat → Int32} {nv i : Nat} (hn : nv ≤ 10) (h : x i = -nI 1) : sB x nv (i + 1) = sB x nv i := by
  refine bits_ext (n := nv) bitsOf_lt bitsOf_lt (fun v hv => ?_)
  unfold sB
  rw [bitsOf_bit, bitsOf_bit, hlr_f (fun e => by
    rw [h] at e
    exact (n_negeq (by omega) (by omega)).mp e)]
theorem sB_s {x : Nat → Int32} {nv i v : Nat} (hn : nv ≤ 10) (hv : v < nv) (h : x i = nI v) : sB x nv (i + 1) = sB x nv i ||| 2 ^ v := by
  refine bits_ext (n := nv) bitsOf_lt (Nat.or_lt_two_pow bitsOf_lt (Nat.pow_lt_pow_right (by omega) hv)) (fun u hu => ?_)
  rw [Nat.testBit_or, Nat.testBit_two_pow]
  unfold sB
  simp only [Bool.or_eq_true, decide_eq_true_eq]
  rw [bitsOf_bit, bitsOf_bit]
  by_cases z : v = u
  · subst z
    rw [hlr_t h]
    exact ⟨fun _ => Or.inr rfl, fun _ => ⟨hu, fun w => by cases w⟩⟩
  · rw [hlr_f (fun e => z ((nI_eq (by omega) (by omega)).mp (h.symm.trans e)))]
    exact ⟨Or.inl, fun w => w.elim id (fun e => absurd e z)⟩
theorem sB_bit {x : Nat → Int32} {nv i v : Nat} (hv : v < nv) : (sB x nv i).testBit v = true ↔ ¬ hlr x i v = none := by
  unfold sB
  rw [bitsOf_bit]
  exact ⟨fun z => z.2, fun z => ⟨hv, z⟩⟩
section AM
variable {sc : zX} {σ : zS} {Q : Option Value → zS → Prop}
theorem row_w {np nv k s : Nat} {x g : Nat → Int32} (hnp : np ≤ 10) (hnv : nv ≤ 10) (hk : k < 4) (hs : s + np ≤ 60) (h0 : σ.1 12 6 = nI np) (h1 : σ.1 12 2 = nI nv) (hx : ∀ p, p < np → σ.2.1 106 (60 * k + s + p) = x p)
    (hyes : lok (fun _ _ => True) nv x np → Q (some (.int (nI 1))) (zur σ 107 (w107 x g np))) (hno : ¬ lok (fun _ _ => True) nv x np → ∀ i, Q (some (.int (nI 0))) (zur σ 107 (w107 x g i))) (hg : g = σ.2.1 107) :
    PC sc 176 [.ref 12, .int (nI k), .int (nI s)] σ Q := by
  rw [PC_176, zb_176_0]
  simp (disch := first | exact zl_i | exact zl_r | exact zl_n | omega | exact zlen0 | exact zlen1 | exact zlen2 | exact zlen3 | exact zlen4 | exact zl_l | (unfold scF; omega) | (unfold scR; omega) | (simp only [zS_uf1, zS_uf2, zS_ur1, zS_ur2, Nat.reduceEqDiff, reduceIte, and_false, false_and, and_true, true_and, ite_true, ite_false]; done) | exact zl_n) only [Int.reduceToNat, Nat.reduceAdd, Nat.reduceMul, List.length_nil, List.length_cons, Nat.reduceLeDiff, Nat.zero_le, Option.toList_some, Option.toList_none, List.cons_append, List.nil_append, PW_nil, PW_goto, zl_i, zl_r, zl_n, PW_k0, PW_istore_3, PW_istore_4, PW_iload_4, PW_aload_0, PW_g774, PW_ic_ge, PW_g785, PW_k60, PW_iload_1, PW_imul, PW_iload_2, PW_iadd, PW_ia106, PW_ia107, PW_istore_5, PW_iload_5, PW_km1, PW_g770, PW_k1, PW_isub, PX_c150, PW_if_eq, PW_if_lt, PW_iload_3, PW_ishr, PW_iand, PW_ic_ne, PW_ret_z zret_176, PW_g786, PW_is106, PW_is107, PW_if_ge, PW_ishl, PW_ior, PW_iinc_4_p1, zb_176_2, zb_176_3, zb_176_4, zb_176_5, zb_176_6, PK_app, n_l0, n_l1, n_l2, n_l3, n_l4, n_l5, n_l8, n_l9, n_l10, n_l15, n_l20, n_l31, n_l40, n_l48, n_l57, n_l59, n_l60, n_l70, n_l99, n_l100, n_l255, n_l601, n_l602, n_l1024, n_l1500, n_l2100, n_l2101, n_l65535, n_l100000, n_l1000000, n_l100000000, i_lt, nI_clamp, nI_leI, nI_eq, nI_1, nI_add, pk_mul, pk_sub, n_in, n_negle, n_legne, n_eqneg, n_negeq, n_nn, n_bit, n_shl1, n_or, zb_e0, zb_e1, zb_r, n_em, zb_T, zb_F, zS_uf1, zS_uf2, zS_ur1, zS_ur2, zS_ur3, zS_ul1, zS_ul2, zS_ul3, z_if0, z_if1, Int.reduceEq, Nat.reduceOr, Nat.or_zero, Nat.zero_or, Bool.false_eq_true, reduceCtorEq, nar0, nar1, nar_zb, eq_self, true_and, and_true, false_and, and_false, or_true, true_or, or_false, false_or, not_true_eq_false, not_false_eq_true, Classical.not_not, true_implies, false_implies, implies_true, iff_true, iff_self, ite_true, ite_false, Nat.reduceEqDiff, Nat.reduceLT, Nat.reduceSub, Nat.add_sub_cancel, Nat.reduceLeDiff, reduceIte, ne_eq, Nat.not_le]
  have key : ∀ d i, i + d = np → lok (fun _ _ => True) nv x i → ∀ a, PW sc 176 (zblk 176 1) 2 [some (.ref 12), some (.int (nI k)), some (.int (nI s)), some (.int (nI (sB x nv i))), some (.int (nI i)), a] [] (zur σ 107 (w107 x g i)) Q := by
    intro d
    induction d with
    | zero =>
      intro i hi hl a
      rw [show i = np by omega] at hl ⊢
      rw [zb_176_1]
      simp (disch := first | exact zl_i | exact zl_r | exact zl_n | omega | exact zlen0 | exact zlen1 | exact zlen2 | exact zlen3 | exact zlen4 | exact zl_l | (unfold scF; omega) | (unfold scR; omega) | (simp only [zS_uf1, zS_uf2, zS_ur1, zS_ur2, Nat.reduceEqDiff, reduceIte, and_false, false_and, and_true, true_and, ite_true, ite_false]; done) | exact zl_n) only [Int.reduceToNat, Nat.reduceAdd, Nat.reduceMul, List.length_nil, List.length_cons, Nat.reduceLeDiff, Nat.zero_le, Option.toList_some, Option.toList_none, List.cons_append, List.nil_append, PW_nil, PW_goto, zl_i, zl_r, zl_n, PW_k0, PW_istore_3, PW_istore_4, PW_iload_4, PW_aload_0, PW_g774, PW_ic_ge, PW_g785, PW_k60, PW_iload_1, PW_imul, PW_iload_2, PW_iadd, PW_ia106, PW_ia107, PW_istore_5, PW_iload_5, PW_km1, PW_g770, PW_k1, PW_isub, PX_c150, PW_if_eq, PW_if_lt, PW_iload_3, PW_ishr, PW_iand, PW_ic_ne, PW_ret_z zret_176, PW_g786, PW_is106, PW_is107, PW_if_ge, PW_ishl, PW_ior, PW_iinc_4_p1, zb_176_2, zb_176_3, zb_176_4, zb_176_5, zb_176_6, PK_app, n_l0, n_l1, n_l2, n_l3, n_l4, n_l5, n_l8, n_l9, n_l10, n_l15, n_l20, n_l31, n_l40, n_l48, n_l57, n_l59, n_l60, n_l70, n_l99, n_l100, n_l255, n_l601, n_l602, n_l1024, n_l1500, n_l2100, n_l2101, n_l65535, n_l100000, n_l1000000, n_l100000000, i_lt, nI_clamp, nI_leI, nI_eq, nI_1, nI_add, pk_mul, pk_sub, n_in, n_negle, n_legne, n_eqneg, n_negeq, n_nn, n_bit, n_shl1, n_or, zb_e0, zb_e1, zb_r, n_em, zb_T, zb_F, zS_uf1, zS_uf2, zS_ur1, zS_ur2, zS_ur3, zS_ul1, zS_ul2, zS_ul3, z_if0, z_if1, Int.reduceEq, Nat.reduceOr, Nat.or_zero, Nat.zero_or, Bool.false_eq_true, reduceCtorEq, nar0, nar1, nar_zb, eq_self, true_and, and_true, false_and, and_false, or_true, true_or, or_false, false_or, not_true_eq_false, not_false_eq_true, Classical.not_not, true_implies, false_implies, implies_true, iff_true, iff_self, ite_true, ite_false, Nat.reduceEqDiff, Nat.reduceLT, Nat.reduceSub, Nat.add_sub_cancel, Nat.reduceLeDiff, reduceIte, ne_eq, Nat.not_le, h0, Nat.le_refl]
      exact hyes hl
    | succ d ih =>
      intro i hi hl a
      have hin : i < np := by omega
      have hxi := hx i hin
      have bad : (¬ (x i = -nI 1 ∨ ∃ v, v < nv ∧ x i = nI v ∧ True ∧ ∀ q, q < i → ¬ x q = nI v)) → Q (some (.int (nI 0))) (zur σ 107 (w107 x g i)) := fun z => hno (fun w => z (w i hin)) i
      have nxt : (x i = -nI 1 ∨ ∃ v, v < nv ∧ x i = nI v ∧ True ∧ ∀ q, q < i → ¬ x q = nI v) → lok (fun _ _ => True) nv x (i + 1) := fun z p hp => by
        by_cases e : p = i
        · subst e; exact z
        · exact hl p (by omega)
      have hsb := sB_lt (x := x) (i := i) hnv
      rw [zb_176_1]
      by_cases r : -nI 1 ≤ x i ∧ x i ≤ nI nv - nI 1
      · rcases (n_rng hnv).mp r with c | ⟨v, hv, e⟩
        · have ih' := fun a => ih (i + 1) (by omega) (nxt (Or.inl c)) a
          rw [← w107_s, sB_k hnv c, c] at ih'
          rw [c] at r
          simp (disch := first | exact zl_i | exact zl_r | exact zl_n | omega | exact zlen0 | exact zlen1 | exact zlen2 | exact zlen3 | exact zlen4 | exact zl_l | (unfold scF; omega) | (unfold scR; omega) | (simp only [zS_uf1, zS_uf2, zS_ur1, zS_ur2, Nat.reduceEqDiff, reduceIte, and_false, false_and, and_true, true_and, ite_true, ite_false]; done) | exact zl_n) only [Int.reduceToNat, Nat.reduceAdd, Nat.reduceMul, List.length_nil, List.length_cons, Nat.reduceLeDiff, Nat.zero_le, Option.toList_some, Option.toList_none, List.cons_append, List.nil_append, PW_nil, PW_goto, zl_i, zl_r, zl_n, PW_k0, PW_istore_3, PW_istore_4, PW_iload_4, PW_aload_0, PW_g774, PW_ic_ge, PW_g785, PW_k60, PW_iload_1, PW_imul, PW_iload_2, PW_iadd, PW_ia106, PW_ia107, PW_istore_5, PW_iload_5, PW_km1, PW_g770, PW_k1, PW_isub, PX_c150, PW_if_eq, PW_if_lt, PW_iload_3, PW_ishr, PW_iand, PW_ic_ne, PW_ret_z zret_176, PW_g786, PW_is106, PW_is107, PW_if_ge, PW_ishl, PW_ior, PW_iinc_4_p1, zb_176_2, zb_176_3, zb_176_4, zb_176_5, zb_176_6, PK_app, n_l0, n_l1, n_l2, n_l3, n_l4, n_l5, n_l8, n_l9, n_l10, n_l15, n_l20, n_l31, n_l40, n_l48, n_l57, n_l59, n_l60, n_l70, n_l99, n_l100, n_l255, n_l601, n_l602, n_l1024, n_l1500, n_l2100, n_l2101, n_l65535, n_l100000, n_l1000000, n_l100000000, i_lt, nI_clamp, nI_leI, nI_eq, nI_1, nI_add, pk_mul, pk_sub, n_in, n_negle, n_legne, n_eqneg, n_negeq, n_nn, n_bit, n_shl1, n_or, zb_e0, zb_e1, zb_r, n_em, zb_T, zb_F, zS_uf1, zS_uf2, zS_ur1, zS_ur2, zS_ur3, zS_ul1, zS_ul2, zS_ul3, z_if0, z_if1, Int.reduceEq, Nat.reduceOr, Nat.or_zero, Nat.zero_or, Bool.false_eq_true, reduceCtorEq, nar0, nar1, nar_zb, eq_self, true_and, and_true, false_and, and_false, or_true, true_or, or_false, false_or, not_true_eq_false, not_false_eq_true, Classical.not_not, true_implies, false_implies, implies_true, iff_true, iff_self, ite_true, ite_false, Nat.reduceEqDiff, Nat.reduceLT, Nat.reduceSub, Nat.add_sub_cancel, Nat.reduceLeDiff, reduceIte, ne_eq, Nat.not_le, h0, h1, Nat.not_le.mpr hin, hxi, c, sp_within2, r, zur_same, n_or0]
          exact ih' _
        · have hb := n_bit (show v < 32 by omega) (show sB x nv i < 2 ^ 31 by omega)
          rw [e] at r
          cases eh : hlr x i v with
          | none =>
            have hb' : ¬ (sB x nv i).testBit v = true := fun z => (sB_bit hv).mp z eh
            have ih' := fun a => ih (i + 1) (by omega) (nxt (Or.inr ⟨v, hv, e, trivial, hlr_n.mp eh⟩)) a
            rw [← w107_s, sB_s hnv hv e, e] at ih'
            simp (disch := first | exact zl_i | exact zl_r | exact zl_n | omega | exact zlen0 | exact zlen1 | exact zlen2 | exact zlen3 | exact zlen4 | exact zl_l | (unfold scF; omega) | (unfold scR; omega) | (simp only [zS_uf1, zS_uf2, zS_ur1, zS_ur2, Nat.reduceEqDiff, reduceIte, and_false, false_and, and_true, true_and, ite_true, ite_false]; done) | exact zl_n) only [Int.reduceToNat, Nat.reduceAdd, Nat.reduceMul, List.length_nil, List.length_cons, Nat.reduceLeDiff, Nat.zero_le, Option.toList_some, Option.toList_none, List.cons_append, List.nil_append, PW_nil, PW_goto, zl_i, zl_r, zl_n, PW_k0, PW_istore_3, PW_istore_4, PW_iload_4, PW_aload_0, PW_g774, PW_ic_ge, PW_g785, PW_k60, PW_iload_1, PW_imul, PW_iload_2, PW_iadd, PW_ia106, PW_ia107, PW_istore_5, PW_iload_5, PW_km1, PW_g770, PW_k1, PW_isub, PX_c150, PW_if_eq, PW_if_lt, PW_iload_3, PW_ishr, PW_iand, PW_ic_ne, PW_ret_z zret_176, PW_g786, PW_is106, PW_is107, PW_if_ge, PW_ishl, PW_ior, PW_iinc_4_p1, zb_176_2, zb_176_3, zb_176_4, zb_176_5, zb_176_6, PK_app, n_l0, n_l1, n_l2, n_l3, n_l4, n_l5, n_l8, n_l9, n_l10, n_l15, n_l20, n_l31, n_l40, n_l48, n_l57, n_l59, n_l60, n_l70, n_l99, n_l100, n_l255, n_l601, n_l602, n_l1024, n_l1500, n_l2100, n_l2101, n_l65535, n_l100000, n_l1000000, n_l100000000, i_lt, nI_clamp, nI_leI, nI_eq, nI_1, nI_add, pk_mul, pk_sub, n_in, n_negle, n_legne, n_eqneg, n_negeq, n_nn, n_bit, n_shl1, n_or, zb_e0, zb_e1, zb_r, n_em, zb_T, zb_F, zS_uf1, zS_uf2, zS_ur1, zS_ur2, zS_ur3, zS_ul1, zS_ul2, zS_ul3, z_if0, z_if1, Int.reduceEq, Nat.reduceOr, Nat.or_zero, Nat.zero_or, Bool.false_eq_true, reduceCtorEq, nar0, nar1, nar_zb, eq_self, true_and, and_true, false_and, and_false, or_true, true_or, or_false, false_or, not_true_eq_false, not_false_eq_true, Classical.not_not, true_implies, false_implies, implies_true, iff_true, iff_self, ite_true, ite_false, Nat.reduceEqDiff, Nat.reduceLT, Nat.reduceSub, Nat.add_sub_cancel, Nat.reduceLeDiff, reduceIte, ne_eq, Nat.not_le, h0, h1, Nat.not_le.mpr hin, hxi, e, sp_within2, r, show ¬ nv - 1 < v by omega, hb, hb', zur_same]
            exact ih' _
          | some q =>
            have hb' : (sB x nv i).testBit v = true := (sB_bit hv).mpr (fun z => by rw [eh] at z; cases z)
            obtain ⟨q1, q2⟩ := hlr_s eh
            simp (disch := first | exact zl_i | exact zl_r | exact zl_n | omega | exact zlen0 | exact zlen1 | exact zlen2 | exact zlen3 | exact zlen4 | exact zl_l | (unfold scF; omega) | (unfold scR; omega) | (simp only [zS_uf1, zS_uf2, zS_ur1, zS_ur2, Nat.reduceEqDiff, reduceIte, and_false, false_and, and_true, true_and, ite_true, ite_false]; done) | exact zl_n) only [Int.reduceToNat, Nat.reduceAdd, Nat.reduceMul, List.length_nil, List.length_cons, Nat.reduceLeDiff, Nat.zero_le, Option.toList_some, Option.toList_none, List.cons_append, List.nil_append, PW_nil, PW_goto, zl_i, zl_r, zl_n, PW_k0, PW_istore_3, PW_istore_4, PW_iload_4, PW_aload_0, PW_g774, PW_ic_ge, PW_g785, PW_k60, PW_iload_1, PW_imul, PW_iload_2, PW_iadd, PW_ia106, PW_ia107, PW_istore_5, PW_iload_5, PW_km1, PW_g770, PW_k1, PW_isub, PX_c150, PW_if_eq, PW_if_lt, PW_iload_3, PW_ishr, PW_iand, PW_ic_ne, PW_ret_z zret_176, PW_g786, PW_is106, PW_is107, PW_if_ge, PW_ishl, PW_ior, PW_iinc_4_p1, zb_176_2, zb_176_3, zb_176_4, zb_176_5, zb_176_6, PK_app, n_l0, n_l1, n_l2, n_l3, n_l4, n_l5, n_l8, n_l9, n_l10, n_l15, n_l20, n_l31, n_l40, n_l48, n_l57, n_l59, n_l60, n_l70, n_l99, n_l100, n_l255, n_l601, n_l602, n_l1024, n_l1500, n_l2100, n_l2101, n_l65535, n_l100000, n_l1000000, n_l100000000, i_lt, nI_clamp, nI_leI, nI_eq, nI_1, nI_add, pk_mul, pk_sub, n_in, n_negle, n_legne, n_eqneg, n_negeq, n_nn, n_bit, n_shl1, n_or, zb_e0, zb_e1, zb_r, n_em, zb_T, zb_F, zS_uf1, zS_uf2, zS_ur1, zS_ur2, zS_ur3, zS_ul1, zS_ul2, zS_ul3, z_if0, z_if1, Int.reduceEq, Nat.reduceOr, Nat.or_zero, Nat.zero_or, Bool.false_eq_true, reduceCtorEq, nar0, nar1, nar_zb, eq_self, true_and, and_true, false_and, and_false, or_true, true_or, or_false, false_or, not_true_eq_false, not_false_eq_true, Classical.not_not, true_implies, false_implies, implies_true, iff_true, iff_self, ite_true, ite_false, Nat.reduceEqDiff, Nat.reduceLT, Nat.reduceSub, Nat.add_sub_cancel, Nat.reduceLeDiff, reduceIte, ne_eq, Nat.not_le, h0, h1, Nat.not_le.mpr hin, hxi, e, sp_within2, r, show ¬ nv - 1 < v by omega, hb, hb']
            refine bad ?_
            rintro (z | ⟨u, u1, u2, u3, u4⟩)
            · rw [e] at z
              exact (n_negeq (by omega) (by omega)).mp z.symm
            · exact u4 q q1 (by rw [q2, ← e, u2])
      · simp (disch := first | exact zl_i | exact zl_r | exact zl_n | omega | exact zlen0 | exact zlen1 | exact zlen2 | exact zlen3 | exact zlen4 | exact zl_l | (unfold scF; omega) | (unfold scR; omega) | (simp only [zS_uf1, zS_uf2, zS_ur1, zS_ur2, Nat.reduceEqDiff, reduceIte, and_false, false_and, and_true, true_and, ite_true, ite_false]; done) | exact zl_n) only [Int.reduceToNat, Nat.reduceAdd, Nat.reduceMul, List.length_nil, List.length_cons, Nat.reduceLeDiff, Nat.zero_le, Option.toList_some, Option.toList_none, List.cons_append, List.nil_append, PW_nil, PW_goto, zl_i, zl_r, zl_n, PW_k0, PW_istore_3, PW_istore_4, PW_iload_4, PW_aload_0, PW_g774, PW_ic_ge, PW_g785, PW_k60, PW_iload_1, PW_imul, PW_iload_2, PW_iadd, PW_ia106, PW_ia107, PW_istore_5, PW_iload_5, PW_km1, PW_g770, PW_k1, PW_isub, PX_c150, PW_if_eq, PW_if_lt, PW_iload_3, PW_ishr, PW_iand, PW_ic_ne, PW_ret_z zret_176, PW_g786, PW_is106, PW_is107, PW_if_ge, PW_ishl, PW_ior, PW_iinc_4_p1, zb_176_2, zb_176_3, zb_176_4, zb_176_5, zb_176_6, PK_app, n_l0, n_l1, n_l2, n_l3, n_l4, n_l5, n_l8, n_l9, n_l10, n_l15, n_l20, n_l31, n_l40, n_l48, n_l57, n_l59, n_l60, n_l70, n_l99, n_l100, n_l255, n_l601, n_l602, n_l1024, n_l1500, n_l2100, n_l2101, n_l65535, n_l100000, n_l1000000, n_l100000000, i_lt, nI_clamp, nI_leI, nI_eq, nI_1, nI_add, pk_mul, pk_sub, n_in, n_negle, n_legne, n_eqneg, n_negeq, n_nn, n_bit, n_shl1, n_or, zb_e0, zb_e1, zb_r, n_em, zb_T, zb_F, zS_uf1, zS_uf2, zS_ur1, zS_ur2, zS_ur3, zS_ul1, zS_ul2, zS_ul3, z_if0, z_if1, Int.reduceEq, Nat.reduceOr, Nat.or_zero, Nat.zero_or, Bool.false_eq_true, reduceCtorEq, nar0, nar1, nar_zb, eq_self, true_and, and_true, false_and, and_false, or_true, true_or, or_false, false_or, not_true_eq_false, not_false_eq_true, Classical.not_not, true_implies, false_implies, implies_true, iff_true, iff_self, ite_true, ite_false, Nat.reduceEqDiff, Nat.reduceLT, Nat.reduceSub, Nat.add_sub_cancel, Nat.reduceLeDiff, reduceIte, ne_eq, Nat.not_le, h0, h1, Nat.not_le.mpr hin, hxi, sp_within2, r]
        refine bad ?_
        rintro (z | ⟨u, u1, u2, u3, u4⟩)
        · exact r ((n_rng hnv).mpr (Or.inl z))
        · exact r ((n_rng hnv).mpr (Or.inr ⟨u, u1, u2⟩))
  have := key np 0 (Nat.zero_add np) (fun p hp => absurd hp (Nat.not_lt_zero p)) none
  have e : zur σ 107 (w107 x g 0) = σ := by rw [w107_0, hg, zur_id]
  rw [sB_0, e] at this
  exact this
theorem sp_isLend12 {np nv : Nat} {x : Nat → Int32} {M : Nat → Nat → Prop} (hnp : np ≤ 10) (hnv : nv ≤ 10) (h0 : σ.1 12 6 = nI np) (hx : ∀ p, p < np → σ.2.1 107 p = x p) (hl : lok (fun _ _ => True) nv x np)
    (hM : ∀ p v, p < np → v < nv → ∀ Q, PC sc 159 [.ref 12, .int (nI p), .int (nI v)] σ Q ↔ Q (some (.int (zb (M p v)))) σ) :
    PC sc 177 [.ref 12] σ Q ↔ Q (some (.int (zb (lok M nv x np)))) σ := by
  rw [PC_177, zb_177_0]
  simp (disch := first | exact zl_i | exact zl_r | exact zl_n | omega | exact zlen0 | exact zlen1 | exact zlen2 | exact zlen3 | exact zlen4 | exact zl_l | (unfold scF; omega) | (unfold scR; omega) | (simp only [zS_uf1, zS_uf2, zS_ur1, zS_ur2, Nat.reduceEqDiff, reduceIte, and_false, false_and, and_true, true_and, ite_true, ite_false]; done) | exact zl_n) only [Int.reduceToNat, Nat.reduceAdd, Nat.reduceMul, List.length_nil, List.length_cons, Nat.reduceLeDiff, Nat.zero_le, Option.toList_some, Option.toList_none, List.cons_append, List.nil_append, PW_nil, PW_goto, zl_i, zl_r, zl_n, PW_k0, PW_istore_1, PW_iload_1, PW_aload_0, PW_g774, PW_ic_ge, PW_g786, PW_ia107, PW_if_lt, PX_c159, PW_if_ne, PW_ret_z zret_177, PW_iinc_1_p1, PW_k1, zb_177_2, zb_177_3, PK_app, n_l0, n_l1, n_l2, n_l3, n_l4, n_l5, n_l8, n_l9, n_l10, n_l15, n_l20, n_l31, n_l40, n_l48, n_l57, n_l59, n_l60, n_l70, n_l99, n_l100, n_l255, n_l601, n_l602, n_l1024, n_l1500, n_l2100, n_l2101, n_l65535, n_l100000, n_l1000000, n_l100000000, i_lt, nI_clamp, nI_leI, nI_eq, nI_1, nI_add, pk_mul, pk_sub, n_in, n_negle, n_legne, n_eqneg, n_negeq, n_nn, n_bit, n_shl1, n_or, zb_e0, zb_e1, zb_r, n_em, zb_T, zb_F, zS_uf1, zS_uf2, zS_ur1, zS_ur2, zS_ur3, zS_ul1, zS_ul2, zS_ul3, z_if0, z_if1, Int.reduceEq, Nat.reduceOr, Nat.or_zero, Nat.zero_or, Bool.false_eq_true, reduceCtorEq, nar0, nar1, nar_zb, eq_self, true_and, and_true, false_and, and_false, or_true, true_or, or_false, false_or, not_true_eq_false, not_false_eq_true, Classical.not_not, true_implies, false_implies, implies_true, iff_true, iff_self, ite_true, ite_false, Nat.reduceEqDiff, Nat.reduceLT, Nat.reduceSub, Nat.add_sub_cancel, Nat.reduceLeDiff, reduceIte, ne_eq, Nat.not_le]
  refine (lp_ex np (fun i => PW sc 177 (zblk 177 1) 2 [some (.ref 12), some (.int (nI i))] [] (σ) Q) (fun p => ∃ v, v < nv ∧ x p = nI v ∧ ¬ M p v) (Q (some (.int (nI 0))) σ) (fun i hi => ?_)).trans ?_
  · conv => lhs; rw [zb_177_1]
    have hxi := hx i hi
    rcases hl i hi with c | ⟨v, v1, v2, -, -⟩
    · have e : ¬ ∃ v, v < nv ∧ x i = nI v ∧ ¬ M i v := by
        rintro ⟨v, _, q, _⟩
        rw [c] at q
        exact (n_negeq (by omega) (by omega)).mp q
      simp (disch := first | exact zl_i | exact zl_r | exact zl_n | omega | exact zlen0 | exact zlen1 | exact zlen2 | exact zlen3 | exact zlen4 | exact zl_l | (unfold scF; omega) | (unfold scR; omega) | (simp only [zS_uf1, zS_uf2, zS_ur1, zS_ur2, Nat.reduceEqDiff, reduceIte, and_false, false_and, and_true, true_and, ite_true, ite_false]; done) | exact zl_n) only [Int.reduceToNat, Nat.reduceAdd, Nat.reduceMul, List.length_nil, List.length_cons, Nat.reduceLeDiff, Nat.zero_le, Option.toList_some, Option.toList_none, List.cons_append, List.nil_append, PW_nil, PW_goto, zl_i, zl_r, zl_n, PW_k0, PW_istore_1, PW_iload_1, PW_aload_0, PW_g774, PW_ic_ge, PW_g786, PW_ia107, PW_if_lt, PX_c159, PW_if_ne, PW_ret_z zret_177, PW_iinc_1_p1, PW_k1, zb_177_2, zb_177_3, PK_app, n_l0, n_l1, n_l2, n_l3, n_l4, n_l5, n_l8, n_l9, n_l10, n_l15, n_l20, n_l31, n_l40, n_l48, n_l57, n_l59, n_l60, n_l70, n_l99, n_l100, n_l255, n_l601, n_l602, n_l1024, n_l1500, n_l2100, n_l2101, n_l65535, n_l100000, n_l1000000, n_l100000000, i_lt, nI_clamp, nI_leI, nI_eq, nI_1, nI_add, pk_mul, pk_sub, n_in, n_negle, n_legne, n_eqneg, n_negeq, n_nn, n_bit, n_shl1, n_or, zb_e0, zb_e1, zb_r, n_em, zb_T, zb_F, zS_uf1, zS_uf2, zS_ur1, zS_ur2, zS_ur3, zS_ul1, zS_ul2, zS_ul3, z_if0, z_if1, Int.reduceEq, Nat.reduceOr, Nat.or_zero, Nat.zero_or, Bool.false_eq_true, reduceCtorEq, nar0, nar1, nar_zb, eq_self, true_and, and_true, false_and, and_false, or_true, true_or, or_false, false_or, not_true_eq_false, not_false_eq_true, Classical.not_not, true_implies, false_implies, implies_true, iff_true, iff_self, ite_true, ite_false, Nat.reduceEqDiff, Nat.reduceLT, Nat.reduceSub, Nat.add_sub_cancel, Nat.reduceLeDiff, reduceIte, ne_eq, Nat.not_le, h0, Nat.not_le.mpr hi, hxi, c]
      rw [c] at e
      exact ⟨fun z => ⟨fun y => absurd y e, fun _ => z⟩, fun z => z.2 e⟩
    · have e : (∃ v, v < nv ∧ x i = nI v ∧ ¬ M i v) ↔ ¬ M i v := by
        constructor
        · rintro ⟨u, u1, u2, u3⟩
          have : u = v := (nI_eq (by omega) (by omega)).mp (u2.symm.trans v2)
          subst this
          exact u3
        · exact fun z => ⟨v, v1, v2, z⟩
      have hm := hM i v hi v1
      rw [e]
      by_cases m : M i v
      · simp (disch := first | exact zl_i | exact zl_r | exact zl_n | omega | exact zlen0 | exact zlen1 | exact zlen2 | exact zlen3 | exact zlen4 | exact zl_l | (unfold scF; omega) | (unfold scR; omega) | (simp only [zS_uf1, zS_uf2, zS_ur1, zS_ur2, Nat.reduceEqDiff, reduceIte, and_false, false_and, and_true, true_and, ite_true, ite_false]; done) | exact zl_n) only [Int.reduceToNat, Nat.reduceAdd, Nat.reduceMul, List.length_nil, List.length_cons, Nat.reduceLeDiff, Nat.zero_le, Option.toList_some, Option.toList_none, List.cons_append, List.nil_append, PW_nil, PW_goto, zl_i, zl_r, zl_n, PW_k0, PW_istore_1, PW_iload_1, PW_aload_0, PW_g774, PW_ic_ge, PW_g786, PW_ia107, PW_if_lt, PX_c159, PW_if_ne, PW_ret_z zret_177, PW_iinc_1_p1, PW_k1, zb_177_2, zb_177_3, PK_app, n_l0, n_l1, n_l2, n_l3, n_l4, n_l5, n_l8, n_l9, n_l10, n_l15, n_l20, n_l31, n_l40, n_l48, n_l57, n_l59, n_l60, n_l70, n_l99, n_l100, n_l255, n_l601, n_l602, n_l1024, n_l1500, n_l2100, n_l2101, n_l65535, n_l100000, n_l1000000, n_l100000000, i_lt, nI_clamp, nI_leI, nI_eq, nI_1, nI_add, pk_mul, pk_sub, n_in, n_negle, n_legne, n_eqneg, n_negeq, n_nn, n_bit, n_shl1, n_or, zb_e0, zb_e1, zb_r, n_em, zb_T, zb_F, zS_uf1, zS_uf2, zS_ur1, zS_ur2, zS_ur3, zS_ul1, zS_ul2, zS_ul3, z_if0, z_if1, Int.reduceEq, Nat.reduceOr, Nat.or_zero, Nat.zero_or, Bool.false_eq_true, reduceCtorEq, nar0, nar1, nar_zb, eq_self, true_and, and_true, false_and, and_false, or_true, true_or, or_false, false_or, not_true_eq_false, not_false_eq_true, Classical.not_not, true_implies, false_implies, implies_true, iff_true, iff_self, ite_true, ite_false, Nat.reduceEqDiff, Nat.reduceLT, Nat.reduceSub, Nat.add_sub_cancel, Nat.reduceLeDiff, reduceIte, ne_eq, Nat.not_le, h0, Nat.not_le.mpr hi, hxi, v2, hm, m]
      · simp (disch := first | exact zl_i | exact zl_r | exact zl_n | omega | exact zlen0 | exact zlen1 | exact zlen2 | exact zlen3 | exact zlen4 | exact zl_l | (unfold scF; omega) | (unfold scR; omega) | (simp only [zS_uf1, zS_uf2, zS_ur1, zS_ur2, Nat.reduceEqDiff, reduceIte, and_false, false_and, and_true, true_and, ite_true, ite_false]; done) | exact zl_n) only [Int.reduceToNat, Nat.reduceAdd, Nat.reduceMul, List.length_nil, List.length_cons, Nat.reduceLeDiff, Nat.zero_le, Option.toList_some, Option.toList_none, List.cons_append, List.nil_append, PW_nil, PW_goto, zl_i, zl_r, zl_n, PW_k0, PW_istore_1, PW_iload_1, PW_aload_0, PW_g774, PW_ic_ge, PW_g786, PW_ia107, PW_if_lt, PX_c159, PW_if_ne, PW_ret_z zret_177, PW_iinc_1_p1, PW_k1, zb_177_2, zb_177_3, PK_app, n_l0, n_l1, n_l2, n_l3, n_l4, n_l5, n_l8, n_l9, n_l10, n_l15, n_l20, n_l31, n_l40, n_l48, n_l57, n_l59, n_l60, n_l70, n_l99, n_l100, n_l255, n_l601, n_l602, n_l1024, n_l1500, n_l2100, n_l2101, n_l65535, n_l100000, n_l1000000, n_l100000000, i_lt, nI_clamp, nI_leI, nI_eq, nI_1, nI_add, pk_mul, pk_sub, n_in, n_negle, n_legne, n_eqneg, n_negeq, n_nn, n_bit, n_shl1, n_or, zb_e0, zb_e1, zb_r, n_em, zb_T, zb_F, zS_uf1, zS_uf2, zS_ur1, zS_ur2, zS_ur3, zS_ul1, zS_ul2, zS_ul3, z_if0, z_if1, Int.reduceEq, Nat.reduceOr, Nat.or_zero, Nat.zero_or, Bool.false_eq_true, reduceCtorEq, nar0, nar1, nar_zb, eq_self, true_and, and_true, false_and, and_false, or_true, true_or, or_false, false_or, not_true_eq_false, not_false_eq_true, Classical.not_not, true_implies, false_implies, implies_true, iff_true, iff_self, ite_true, ite_false, Nat.reduceEqDiff, Nat.reduceLT, Nat.reduceSub, Nat.add_sub_cancel, Nat.reduceLeDiff, reduceIte, ne_eq, Nat.not_le, h0, Nat.not_le.mpr hi, hxi, v2, hm, m]
  · have e : PW sc 177 (zblk 177 1) 2 [some (.ref 12), some (.int (nI np))] [] (σ) Q ↔ Q (some (.int (nI 1))) σ := by
      rw [zb_177_1]
      simp (disch := first | exact zl_i | exact zl_r | exact zl_n | omega | exact zlen0 | exact zlen1 | exact zlen2 | exact zlen3 | exact zlen4 | exact zl_l | (unfold scF; omega) | (unfold scR; omega) | (simp only [zS_uf1, zS_uf2, zS_ur1, zS_ur2, Nat.reduceEqDiff, reduceIte, and_false, false_and, and_true, true_and, ite_true, ite_false]; done) | exact zl_n) only [Int.reduceToNat, Nat.reduceAdd, Nat.reduceMul, List.length_nil, List.length_cons, Nat.reduceLeDiff, Nat.zero_le, Option.toList_some, Option.toList_none, List.cons_append, List.nil_append, PW_nil, PW_goto, zl_i, zl_r, zl_n, PW_k0, PW_istore_1, PW_iload_1, PW_aload_0, PW_g774, PW_ic_ge, PW_g786, PW_ia107, PW_if_lt, PX_c159, PW_if_ne, PW_ret_z zret_177, PW_iinc_1_p1, PW_k1, zb_177_2, zb_177_3, PK_app, n_l0, n_l1, n_l2, n_l3, n_l4, n_l5, n_l8, n_l9, n_l10, n_l15, n_l20, n_l31, n_l40, n_l48, n_l57, n_l59, n_l60, n_l70, n_l99, n_l100, n_l255, n_l601, n_l602, n_l1024, n_l1500, n_l2100, n_l2101, n_l65535, n_l100000, n_l1000000, n_l100000000, i_lt, nI_clamp, nI_leI, nI_eq, nI_1, nI_add, pk_mul, pk_sub, n_in, n_negle, n_legne, n_eqneg, n_negeq, n_nn, n_bit, n_shl1, n_or, zb_e0, zb_e1, zb_r, n_em, zb_T, zb_F, zS_uf1, zS_uf2, zS_ur1, zS_ur2, zS_ur3, zS_ul1, zS_ul2, zS_ul3, z_if0, z_if1, Int.reduceEq, Nat.reduceOr, Nat.or_zero, Nat.zero_or, Bool.false_eq_true, reduceCtorEq, nar0, nar1, nar_zb, eq_self, true_and, and_true, false_and, and_false, or_true, true_or, or_false, false_or, not_true_eq_false, not_false_eq_true, Classical.not_not, true_implies, false_implies, implies_true, iff_true, iff_self, ite_true, ite_false, Nat.reduceEqDiff, Nat.reduceLT, Nat.reduceSub, Nat.add_sub_cancel, Nat.reduceLeDiff, reduceIte, ne_eq, Nat.not_le, h0, Nat.le_refl]
    rw [e]
    have h : lok M nv x np ↔ ¬ ∃ p, p < np ∧ ∃ v, v < nv ∧ x p = nI v ∧ ¬ M p v := by
      constructor
      · rintro h ⟨p, hp, v, v1, v2, v3⟩
        rcases h p hp with c | ⟨u, u1, u2, u3, u4⟩
        · rw [c] at v2
          exact (n_negeq (by omega) (by omega)).mp v2
        · have : u = v := (nI_eq (by omega) (by omega)).mp (u2.symm.trans v2)
          subst this
          exact v3 u3
      · intro h p hp
        rcases hl p hp with c | ⟨u, u1, u2, -, u4⟩
        · exact Or.inl c
        · exact Or.inr ⟨u, u1, u2, Classical.byContradiction (fun z => h ⟨p, hp, u, u1, u2, z⟩), u4⟩
    by_cases c : lok M nv x np
    · rw [zb_t c]
      have c' := h.mp c
      exact ⟨fun z => z.2 c', fun z => ⟨fun y => absurd y c', fun _ => z⟩⟩
    · rw [zb_f c]
      have c' : ∃ p, p < np ∧ ∃ v, v < nv ∧ x p = nI v ∧ ¬ M p v := Classical.byContradiction (fun z => c (h.mpr z))
      exact ⟨fun z => z.1 c', fun z => ⟨fun _ => z, fun y => absurd c' y⟩⟩
end AM
