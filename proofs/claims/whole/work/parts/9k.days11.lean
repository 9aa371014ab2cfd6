/-! days: the loans on the day, the reference's rows, the call -/
section DL
variable {C V F T : Nat → Int32} {d : Int32}
theorem hdP_of {p l : Nat} : ∀ {n : Nat}, l < n → ln_on C F T (nI p) d l → (∀ m, m < n → ln_on C F T (nI p) d m → m = l) → hdP C V F T d n p = V l
  | 0, h, _, _ => absurd h (Nat.not_lt_zero _)
  | n + 1, h, c, u => by
    by_cases q : ln_on C F T (nI p) d n
    · have e := u n (by omega) q
      subst e
      exact cif_t ⟨q.2.1, q.2.2, q.1⟩
    · have hl : l < n := by
        by_cases z : l = n
        · rw [z] at c; exact absurd c q
        · omega
      have ih := hdP_of hl c (fun m hm z => u m (by omega) z)
      rw [← ih]
      exact cif_f (fun z => q ⟨z.2.2, z.1, z.2.1⟩)
theorem hdP_no {p : Nat} : ∀ {n : Nat}, (∀ m, m < n → ¬ ln_on C F T (nI p) d m) → hdP C V F T d n p = -nI 1
  | 0, _ => rfl
  | n + 1, h => by
    have ih := hdP_no (n := n) (fun m hm => h m (by omega))
    rw [← ih]
    exact cif_f (fun z => h n (by omega) ⟨z.2.2, z.1, z.2.1⟩)
theorem hd_cases {p nl : Nat} (u : ∀ l m, l < nl → m < nl → ln_on C F T (nI p) d l → ln_on C F T (nI p) d m → l = m) :
    (zi (-9) nl (fst (ln_on C F T (nI p) d) nl) = -nI 9 ∧ hdP C V F T d nl p = -nI 1) ∨ ∃ l, l < nl ∧ ln_on C F T (nI p) d l ∧ zi (-9) nl (fst (ln_on C F T (nI p) d) nl) = nI l ∧ hdP C V F T d nl p = V l := by
  have s := fst_spec (c := ln_on C F T (nI p) d) nl
  by_cases q : fst (ln_on C F T (nI p) d) nl < nl
  · have c := s.2 q
    exact Or.inr ⟨_, q, c, zi_t q, hdP_of q c (fun m hm z => u m _ hm q z c)⟩
  · exact Or.inl ⟨zi_f (by omega), hdP_no (fun m hm => s.1 m (by omega))⟩
end DL
theorem dW_sub {H O x : Nat → Int32} {np nv : Nat} (hnp : np ≤ 10) (hnv : nv ≤ 10) (hl : lok (fun _ _ => True) nv x np) (hc : ∀ v q, v < nv → q < 10 → O v = nI q → q < np ∧ H q = nI v) (hO : ∀ v, v < nv → O v = -nI 1 ∨ ∃ q, q < 10 ∧ O v = nI q) :
    ∀ j, j < cnt (dgt H x) np → dgl (dgt H x) (dwt H O x) np j &&& bitsOf (dgv H x) np = dgl (dgt H x) (dwt H O x) np j := by
  intro j hj
  obtain ⟨p, hp, g, e⟩ := dgl_is (wt := dwt H O x) hj
  rw [e]
  refine n_sub.mpr (fun i hi => ?_)
  rw [bitsOf_bit]
  unfold dwt at hi
  rw [Nat.testBit_or, Bool.or_eq_true] at hi
  rcases hl p hp with z | ⟨v, v1, v2, -, v4⟩
  · exact absurd z g.1
  · have exv : (x p).toNatClampNeg = v := by rw [v2]; exact nI_clamp (by omega)
    rcases hi with hi | hi
    · by_cases z : H p = -nI 1
      · have e0 : dw1 (H p) p = 0 := cif_t z
        rw [e0, Nat.zero_testBit] at hi
        cases hi
      · have e0 : dw1 (H p) p = 2 ^ p := cif_f z
        rw [e0, Nat.testBit_two_pow, decide_eq_true_eq] at hi
        subst hi
        exact ⟨hp, z, g.2⟩
    · rw [exv] at hi
      rcases hO v v1 with z | ⟨q, q1, q2⟩
      · rw [z, dw2_n, Nat.zero_testBit] at hi
        cases hi
      · rw [q2, dw2_s q1, Nat.testBit_two_pow, decide_eq_true_eq] at hi
        subst hi
        obtain ⟨c1, c2⟩ := hc v q v1 q1 q2
        refine ⟨c1, fun z => (n_eqneg (show v < 2 ^ 31 by omega) (by omega)).mp (c2.symm.trans z), fun z => ?_⟩
        have xq : x q = nI v := z.symm.trans c2
        have pq : q = p := by
          rcases Nat.lt_trichotomy q p with a | a | a
          · exact absurd xq (v4 q a)
          · exact a
          · rcases hl q c1 with w | ⟨u, u1, u2, -, u4⟩
            · rw [xq] at w
              exact absurd w (fun w => (n_eqneg (show v < 2 ^ 31 by omega) (by omega)).mp w)
            · exact absurd (by rw [v2, ← xq, u2]) (u4 p a)
        rw [pq] at z
        exact g.2 z
theorem dyF_0 {W : Nat → Nat} {h : Nat} (hh : 1 ≤ h) : dyF W 0 h 0 = 0 := by
  have e1 : (popr 0 10 + h - 1) / h = 0 := by
    rw [pop_0]
    exact Nat.div_eq_of_lt (by omega)
  have e2 : dyE W 0 h 0 = 0 := cif_t e1
  unfold dyF
  rw [e1, e2]
  exact (Nat.zero_add _).trans (Nat.div_eq_of_lt (by omega))
section DM
variable {sc : zX} {τ : zS} {Q : Option Value → zS → Prop}
theorem rdays_w {np nv nl h k l s : Nat} {day : Int32} {x H O : Nat → Int32} (hnp : np ≤ 10) (hnv : nv ≤ 10) (hnl : nl ≤ 40) (hh : 1 ≤ h ∧ h ≤ 9) (h0 : τ.1 12 6 = nI np) (hc : τ.1 12 19 = nI nl) (hx : ∀ p, p < np → τ.2.1 107 p = x p) (hl : lok (fun _ _ => True) nv x np)
    (hP : ∀ p, p < np → (zi (-9) nl (fst (ln_on (τ.2.1 108) (τ.2.1 110) (τ.2.1 111) (nI p) day) nl) = -nI 9 ∧ H p = -nI 1) ∨ ∃ l u, l < 40 ∧ u < 10 ∧ zi (-9) nl (fst (ln_on (τ.2.1 108) (τ.2.1 110) (τ.2.1 111) (nI p) day) nl) = nI l ∧ τ.2.1 109 l = nI u ∧ H p = nI u)
    (hV : ∀ v, v < nv → (zi (-9) nl (fst (ln_on (τ.2.1 109) (τ.2.1 110) (τ.2.1 111) (nI v) day) nl) = -nI 9 ∧ O v = -nI 1) ∨ ∃ l q, l < 40 ∧ q < 10 ∧ zi (-9) nl (fst (ln_on (τ.2.1 109) (τ.2.1 110) (τ.2.1 111) (nI v) day) nl) = nI l ∧ τ.2.1 108 l = nI q ∧ O v = nI q)
    (hWG : ∀ j, j < cnt (dgt H x) np → dgl (dgt H x) (dwt H O x) np j &&& bitsOf (dgv H x) np = dgl (dgt H x) (dwt H O x) np j)
    (hQ : ∀ S, Fr τ S → Q (some (.int (nI (dyF (dgl (dgt H x) (dwt H O x) np) (cnt (dgt H x) np) h (bitsOf (dgv H x) np))))) S) :
    PW sc 201 (zblk 201 6) 7 [some (.ref 12), some (.int (day)), some (.int (nI h)), some (.int (nI k)), some (.int (nI l)), some (.int (nI s)), some (.int (nI 0)), some (.int (nI 0)), some (.int (nI 0)), none, none, none] [] (zuf τ 12 32 (nI 0)) Q := by
  have lnP : ∀ (S : zS) (p : Nat) (z : Int32), S.1 12 19 = nI nl → S.2.1 108 = τ.2.1 108 → S.2.1 110 = τ.2.1 110 → S.2.1 111 = τ.2.1 111 → zi (-9) nl (fst (ln_on (τ.2.1 108) (τ.2.1 110) (τ.2.1 111) (nI p) day) nl) = z → ∀ Q, PC sc 192 [.ref 12, .int (nI 1), .int (nI p), .int day] S Q ↔ Q (some (.int z)) S := by
    intro S p z e1 e2 e3 e4 e5 Q
    have a := sp_loanOnP (sc := sc) (σ := S) (Q := Q) (m := nI p) (d := day) e1 hnl
    rw [e2, e3, e4, e5] at a
    exact a
  have lnV : ∀ (S : zS) (p : Nat) (z : Int32), S.1 12 19 = nI nl → S.2.1 109 = τ.2.1 109 → S.2.1 110 = τ.2.1 110 → S.2.1 111 = τ.2.1 111 → zi (-9) nl (fst (ln_on (τ.2.1 109) (τ.2.1 110) (τ.2.1 111) (nI p) day) nl) = z → ∀ Q, PC sc 192 [.ref 12, .int (nI 0), .int (nI p), .int day] S Q ↔ Q (some (.int z)) S := by
    intro S p z e1 e2 e3 e4 e5 Q
    have a := sp_loanOnV (sc := sc) (σ := S) (Q := Q) (m := nI p) (d := day) e1 hnl
    rw [e2, e3, e4, e5] at a
    exact a
  have key : ∀ e i, i + e = np → ∀ a9 a10 a11, PW sc 201 (zblk 201 6) 7 [some (.ref 12), some (.int (day)), some (.int (nI h)), some (.int (nI k)), some (.int (nI l)), some (.int (nI s)), some (.int (nI 0)), some (.int (nI (bitsOf (dgv H x) i))), some (.int (nI i)), a9, a10, a11] [] (zur (zuf τ 12 32 (nI (cnt (dgt H x) (i)))) 116 (drw (dgt H x) (dwt H O x) (τ.2.1 116) (i))) Q := by
    intro e
    induction e with
    | zero =>
      intro i hi a9 a10 a11
      rw [show i = np by omega]
      have hb : bitsOf (dgv H x) np < 2 ^ np := bitsOf_lt
      have hp10 : 2 ^ np ≤ 2 ^ 10 := Nat.pow_le_pow_right (by omega) hnp
      have hcn : cnt (dgt H x) np ≤ np := cnt_le np
      have F : Fr τ (zur (zuf τ 12 32 (nI (cnt (dgt H x) (np)))) 116 (drw (dgt H x) (dwt H O x) (τ.2.1 116) (np))) := (Fr.refl.uf (by unfold scF; omega)).ur (by unfold scR; omega)
      have hrow : ∀ j, j < cnt (dgt H x) np → (zur (zuf τ 12 32 (nI (cnt (dgt H x) (np)))) 116 (drw (dgt H x) (dwt H O x) (τ.2.1 116) (np))).2.1 116 j = nI (dgl (dgt H x) (dwt H O x) np j) ∧ dgl (dgt H x) (dwt H O x) np j < 1024 := fun j hj => by
        refine ⟨if_pos hj, ?_⟩
        have a : dgl (dgt H x) (dwt H O x) np j &&& bitsOf (dgv H x) np ≤ bitsOf (dgv H x) np := Nat.and_le_right
        rw [hWG j hj] at a
        have h10 : (2 : Nat) ^ 10 = 1024 := rfl
        omega
      have fw := fun (Q' : Option Value → zS → Prop) hq => few_w (sc := sc) (Q := Q') (σ := zur (zuf τ 12 32 (nI (cnt (dgt H x) (np)))) 116 (drw (dgt H x) (dwt H O x) (τ.2.1 116) (np))) (np := np) (n := cnt (dgt H x) np) (h := h) (G := bitsOf (dgv H x) np) (W := dgl (dgt H x) (dwt H O x) np) hnp (by omega) hh hb h0 (by exact rfl) hrow hWG hq
      have hlt : bitsOf (dgv H x) np < 2 ^ 31 := by omega
      rw [zb_201_6]
      by_cases g0 : bitsOf (dgv H x) np = 0
      · by_cases c0 : cnt (dgt H x) np = 0
        · have q := hQ _ F
          have ez : dyF (dgl (dgt H x) (dwt H O x) np) (cnt (dgt H x) np) h (bitsOf (dgv H x) np) = 0 := by
            rw [g0, c0]
            exact dyF_0 hh.1
          rw [ez] at q
          have g0' := eq_true g0
          have c0' := eq_true c0
          simp (disch := first | exact zl_i | exact zl_r | exact zl_n | omega | exact zlen0 | exact zlen1 | exact zlen2 | exact zlen3 | exact zlen4 | exact zl_l | (unfold scF; omega) | (unfold scR; omega) | (simp only [zS_uf1, zS_uf2, zS_ur1, zS_ur2, Nat.reduceEqDiff, reduceIte, and_false, false_and, and_true, true_and, ite_true, ite_false]; done) | exact zl_n) only [Int.reduceToNat, Nat.reduceAdd, Nat.reduceMul, List.length_nil, List.length_cons, Nat.reduceLeDiff, Nat.zero_le, Option.toList_some, Option.toList_none, List.cons_append, List.nil_append, PW_nil, PW_goto, zl_i, zl_r, zl_n, PW_aload_0, PW_k0, PW_p768, PW_iload_3, PX_c174, PW_if_ne, PW_km1, PW_ret_i zret_201, PW_iload_4, PX_c175, PW_if_eq, PW_iload_1, PX_c151, PW_iload_2, PW_k1, PW_k9, PX_c150, PW_km2, PW_iload_5, PW_g774, PX_c173, PW_istore_6, PW_iload_6, PX_c176, PW_istore_7, PW_p800, PW_istore_8, PW_iload_8, PW_ic_ge, PX_c192, PW_istore_9, PW_iload_9, PW_km9, PW_ic_ne, PW_g789, PW_ia107, PW_ia108, PW_ia109, PW_ia116, PW_istore_10, PW_iload_7, PW_iload_10, PW_if_lt, PW_g786, PW_ic_eq, PW_ishl, PW_ior, PW_istore_11, PW_g799, PW_g800, PW_iload_11, PW_g788, PW_is107, PW_is108, PW_is109, PW_is116, PW_dup_i, PW_dup_r, PW_iadd, PW_iinc_8_p1, PX_c200, zb_201_1, zb_201_2, zb_201_3, zb_201_4, zb_201_5, zb_201_7, zb_201_8, zb_201_9, zb_201_10, zb_201_11, zb_201_12, zb_201_13, zb_201_14, zb_201_15, zb_201_16, zb_201_17, zb_201_18, PK_app, n_l0, n_l1, n_l2, n_l3, n_l4, n_l5, n_l8, n_l9, n_l10, n_l15, n_l20, n_l31, n_l40, n_l48, n_l57, n_l59, n_l60, n_l70, n_l99, n_l100, n_l255, n_l601, n_l602, n_l1024, n_l1500, n_l2100, n_l2101, n_l65535, n_l100000, n_l1000000, n_l100000000, i_lt, nI_clamp, nI_leI, nI_eq, nI_1, nI_add, pk_mul, pk_sub, n_in, n_negle, n_legne, n_eqneg, n_negeq, n_nn, n_bit, n_shl1, n_or, zb_e0, zb_e1, zb_r, n_em, zb_T, zb_F, zS_uf1, zS_uf2, zS_ur1, zS_ur2, zS_ur3, zS_ul1, zS_ul2, zS_ul3, z_if0, z_if1, Int.reduceEq, Nat.reduceOr, Nat.or_zero, Nat.zero_or, Bool.false_eq_true, reduceCtorEq, nar0, nar1, nar_zb, eq_self, true_and, and_true, false_and, and_false, or_true, true_or, or_false, false_or, not_true_eq_false, not_false_eq_true, Classical.not_not, true_implies, false_implies, implies_true, iff_true, iff_self, ite_true, ite_false, Nat.reduceEqDiff, Nat.reduceLT, Nat.reduceSub, Nat.add_sub_cancel, Nat.reduceLeDiff, reduceIte, ne_eq, Nat.not_le, h0, Nat.le_refl, g0', c0']
          exact q
        · have g0' := eq_true g0
          simp (disch := first | exact zl_i | exact zl_r | exact zl_n | omega | exact zlen0 | exact zlen1 | exact zlen2 | exact zlen3 | exact zlen4 | exact zl_l | (unfold scF; omega) | (unfold scR; omega) | (simp only [zS_uf1, zS_uf2, zS_ur1, zS_ur2, Nat.reduceEqDiff, reduceIte, and_false, false_and, and_true, true_and, ite_true, ite_false]; done) | exact zl_n) only [Int.reduceToNat, Nat.reduceAdd, Nat.reduceMul, List.length_nil, List.length_cons, Nat.reduceLeDiff, Nat.zero_le, Option.toList_some, Option.toList_none, List.cons_append, List.nil_append, PW_nil, PW_goto, zl_i, zl_r, zl_n, PW_aload_0, PW_k0, PW_p768, PW_iload_3, PX_c174, PW_if_ne, PW_km1, PW_ret_i zret_201, PW_iload_4, PX_c175, PW_if_eq, PW_iload_1, PX_c151, PW_iload_2, PW_k1, PW_k9, PX_c150, PW_km2, PW_iload_5, PW_g774, PX_c173, PW_istore_6, PW_iload_6, PX_c176, PW_istore_7, PW_p800, PW_istore_8, PW_iload_8, PW_ic_ge, PX_c192, PW_istore_9, PW_iload_9, PW_km9, PW_ic_ne, PW_g789, PW_ia107, PW_ia108, PW_ia109, PW_ia116, PW_istore_10, PW_iload_7, PW_iload_10, PW_if_lt, PW_g786, PW_ic_eq, PW_ishl, PW_ior, PW_istore_11, PW_g799, PW_g800, PW_iload_11, PW_g788, PW_is107, PW_is108, PW_is109, PW_is116, PW_dup_i, PW_dup_r, PW_iadd, PW_iinc_8_p1, PX_c200, zb_201_1, zb_201_2, zb_201_3, zb_201_4, zb_201_5, zb_201_7, zb_201_8, zb_201_9, zb_201_10, zb_201_11, zb_201_12, zb_201_13, zb_201_14, zb_201_15, zb_201_16, zb_201_17, zb_201_18, PK_app, n_l0, n_l1, n_l2, n_l3, n_l4, n_l5, n_l8, n_l9, n_l10, n_l15, n_l20, n_l31, n_l40, n_l48, n_l57, n_l59, n_l60, n_l70, n_l99, n_l100, n_l255, n_l601, n_l602, n_l1024, n_l1500, n_l2100, n_l2101, n_l65535, n_l100000, n_l1000000, n_l100000000, i_lt, nI_clamp, nI_leI, nI_eq, nI_1, nI_add, pk_mul, pk_sub, n_in, n_negle, n_legne, n_eqneg, n_negeq, n_nn, n_bit, n_shl1, n_or, zb_e0, zb_e1, zb_r, n_em, zb_T, zb_F, zS_uf1, zS_uf2, zS_ur1, zS_ur2, zS_ur3, zS_ul1, zS_ul2, zS_ul3, z_if0, z_if1, Int.reduceEq, Nat.reduceOr, Nat.or_zero, Nat.zero_or, Bool.false_eq_true, reduceCtorEq, nar0, nar1, nar_zb, eq_self, true_and, and_true, false_and, and_false, or_true, true_or, or_false, false_or, not_true_eq_false, not_false_eq_true, Classical.not_not, true_implies, false_implies, implies_true, iff_true, iff_self, ite_true, ite_false, Nat.reduceEqDiff, Nat.reduceLT, Nat.reduceSub, Nat.add_sub_cancel, Nat.reduceLeDiff, reduceIte, ne_eq, Nat.not_le, h0, Nat.le_refl, g0', c0]
          refine fw _ (fun f g k => ?_)
          simp (disch := first | exact zl_i | exact zl_r | exact zl_n | omega | exact zlen0 | exact zlen1 | exact zlen2 | exact zlen3 | exact zlen4 | exact zl_l | (unfold scF; omega) | (unfold scR; omega) | (simp only [zS_uf1, zS_uf2, zS_ur1, zS_ur2, Nat.reduceEqDiff, reduceIte, and_false, false_and, and_true, true_and, ite_true, ite_false]; done) | exact zl_n) only [Int.reduceToNat, Nat.reduceAdd, Nat.reduceMul, List.length_nil, List.length_cons, Nat.reduceLeDiff, Nat.zero_le, Option.toList_some, Option.toList_none, List.cons_append, List.nil_append, PW_nil, PW_goto, zl_i, zl_r, zl_n, PW_aload_0, PW_k0, PW_p768, PW_iload_3, PX_c174, PW_if_ne, PW_km1, PW_ret_i zret_201, PW_iload_4, PX_c175, PW_if_eq, PW_iload_1, PX_c151, PW_iload_2, PW_k1, PW_k9, PX_c150, PW_km2, PW_iload_5, PW_g774, PX_c173, PW_istore_6, PW_iload_6, PX_c176, PW_istore_7, PW_p800, PW_istore_8, PW_iload_8, PW_ic_ge, PX_c192, PW_istore_9, PW_iload_9, PW_km9, PW_ic_ne, PW_g789, PW_ia107, PW_ia108, PW_ia109, PW_ia116, PW_istore_10, PW_iload_7, PW_iload_10, PW_if_lt, PW_g786, PW_ic_eq, PW_ishl, PW_ior, PW_istore_11, PW_g799, PW_g800, PW_iload_11, PW_g788, PW_is107, PW_is108, PW_is109, PW_is116, PW_dup_i, PW_dup_r, PW_iadd, PW_iinc_8_p1, PX_c200, zb_201_1, zb_201_2, zb_201_3, zb_201_4, zb_201_5, zb_201_7, zb_201_8, zb_201_9, zb_201_10, zb_201_11, zb_201_12, zb_201_13, zb_201_14, zb_201_15, zb_201_16, zb_201_17, zb_201_18, PK_app, n_l0, n_l1, n_l2, n_l3, n_l4, n_l5, n_l8, n_l9, n_l10, n_l15, n_l20, n_l31, n_l40, n_l48, n_l57, n_l59, n_l60, n_l70, n_l99, n_l100, n_l255, n_l601, n_l602, n_l1024, n_l1500, n_l2100, n_l2101, n_l65535, n_l100000, n_l1000000, n_l100000000, i_lt, nI_clamp, nI_leI, nI_eq, nI_1, nI_add, pk_mul, pk_sub, n_in, n_negle, n_legne, n_eqneg, n_negeq, n_nn, n_bit, n_shl1, n_or, zb_e0, zb_e1, zb_r, n_em, zb_T, zb_F, zS_uf1, zS_uf2, zS_ur1, zS_ur2, zS_ur3, zS_ul1, zS_ul2, zS_ul3, z_if0, z_if1, Int.reduceEq, Nat.reduceOr, Nat.or_zero, Nat.zero_or, Bool.false_eq_true, reduceCtorEq, nar0, nar1, nar_zb, eq_self, true_and, and_true, false_and, and_false, or_true, true_or, or_false, false_or, not_true_eq_false, not_false_eq_true, Classical.not_not, true_implies, false_implies, implies_true, iff_true, iff_self, ite_true, ite_false, Nat.reduceEqDiff, Nat.reduceLT, Nat.reduceSub, Nat.add_sub_cancel, Nat.reduceLeDiff, reduceIte, ne_eq, Nat.not_le, PK_app]
          exact hQ _ (((F.ur (by unfold scR; omega)).ur (by unfold scR; omega)).ur (by unfold scR; omega))
      · simp (disch := first | exact zl_i | exact zl_r | exact zl_n | omega | exact zlen0 | exact zlen1 | exact zlen2 | exact zlen3 | exact zlen4 | exact zl_l | (unfold scF; omega) | (unfold scR; omega) | (simp only [zS_uf1, zS_uf2, zS_ur1, zS_ur2, Nat.reduceEqDiff, reduceIte, and_false, false_and, and_true, true_and, ite_true, ite_false]; done) | exact zl_n) only [Int.reduceToNat, Nat.reduceAdd, Nat.reduceMul, List.length_nil, List.length_cons, Nat.reduceLeDiff, Nat.zero_le, Option.toList_some, Option.toList_none, List.cons_append, List.nil_append, PW_nil, PW_goto, zl_i, zl_r, zl_n, PW_aload_0, PW_k0, PW_p768, PW_iload_3, PX_c174, PW_if_ne, PW_km1, PW_ret_i zret_201, PW_iload_4, PX_c175, PW_if_eq, PW_iload_1, PX_c151, PW_iload_2, PW_k1, PW_k9, PX_c150, PW_km2, PW_iload_5, PW_g774, PX_c173, PW_istore_6, PW_iload_6, PX_c176, PW_istore_7, PW_p800, PW_istore_8, PW_iload_8, PW_ic_ge, PX_c192, PW_istore_9, PW_iload_9, PW_km9, PW_ic_ne, PW_g789, PW_ia107, PW_ia108, PW_ia109, PW_ia116, PW_istore_10, PW_iload_7, PW_iload_10, PW_if_lt, PW_g786, PW_ic_eq, PW_ishl, PW_ior, PW_istore_11, PW_g799, PW_g800, PW_iload_11, PW_g788, PW_is107, PW_is108, PW_is109, PW_is116, PW_dup_i, PW_dup_r, PW_iadd, PW_iinc_8_p1, PX_c200, zb_201_1, zb_201_2, zb_201_3, zb_201_4, zb_201_5, zb_201_7, zb_201_8, zb_201_9, zb_201_10, zb_201_11, zb_201_12, zb_201_13, zb_201_14, zb_201_15, zb_201_16, zb_201_17, zb_201_18, PK_app, n_l0, n_l1, n_l2, n_l3, n_l4, n_l5, n_l8, n_l9, n_l10, n_l15, n_l20, n_l31, n_l40, n_l48, n_l57, n_l59, n_l60, n_l70, n_l99, n_l100, n_l255, n_l601, n_l602, n_l1024, n_l1500, n_l2100, n_l2101, n_l65535, n_l100000, n_l1000000, n_l100000000, i_lt, nI_clamp, nI_leI, nI_eq, nI_1, nI_add, pk_mul, pk_sub, n_in, n_negle, n_legne, n_eqneg, n_negeq, n_nn, n_bit, n_shl1, n_or, zb_e0, zb_e1, zb_r, n_em, zb_T, zb_F, zS_uf1, zS_uf2, zS_ur1, zS_ur2, zS_ur3, zS_ul1, zS_ul2, zS_ul3, z_if0, z_if1, Int.reduceEq, Nat.reduceOr, Nat.or_zero, Nat.zero_or, Bool.false_eq_true, reduceCtorEq, nar0, nar1, nar_zb, eq_self, true_and, and_true, false_and, and_false, or_true, true_or, or_false, false_or, not_true_eq_false, not_false_eq_true, Classical.not_not, true_implies, false_implies, implies_true, iff_true, iff_self, ite_true, ite_false, Nat.reduceEqDiff, Nat.reduceLT, Nat.reduceSub, Nat.add_sub_cancel, Nat.reduceLeDiff, reduceIte, ne_eq, Nat.not_le, h0, Nat.le_refl, g0]
        refine fw _ (fun f g k => ?_)
        simp (disch := first | exact zl_i | exact zl_r | exact zl_n | omega | exact zlen0 | exact zlen1 | exact zlen2 | exact zlen3 | exact zlen4 | exact zl_l | (unfold scF; omega) | (unfold scR; omega) | (simp only [zS_uf1, zS_uf2, zS_ur1, zS_ur2, Nat.reduceEqDiff, reduceIte, and_false, false_and, and_true, true_and, ite_true, ite_false]; done) | exact zl_n) only [Int.reduceToNat, Nat.reduceAdd, Nat.reduceMul, List.length_nil, List.length_cons, Nat.reduceLeDiff, Nat.zero_le, Option.toList_some, Option.toList_none, List.cons_append, List.nil_append, PW_nil, PW_goto, zl_i, zl_r, zl_n, PW_aload_0, PW_k0, PW_p768, PW_iload_3, PX_c174, PW_if_ne, PW_km1, PW_ret_i zret_201, PW_iload_4, PX_c175, PW_if_eq, PW_iload_1, PX_c151, PW_iload_2, PW_k1, PW_k9, PX_c150, PW_km2, PW_iload_5, PW_g774, PX_c173, PW_istore_6, PW_iload_6, PX_c176, PW_istore_7, PW_p800, PW_istore_8, PW_iload_8, PW_ic_ge, PX_c192, PW_istore_9, PW_iload_9, PW_km9, PW_ic_ne, PW_g789, PW_ia107, PW_ia108, PW_ia109, PW_ia116, PW_istore_10, PW_iload_7, PW_iload_10, PW_if_lt, PW_g786, PW_ic_eq, PW_ishl, PW_ior, PW_istore_11, PW_g799, PW_g800, PW_iload_11, PW_g788, PW_is107, PW_is108, PW_is109, PW_is116, PW_dup_i, PW_dup_r, PW_iadd, PW_iinc_8_p1, PX_c200, zb_201_1, zb_201_2, zb_201_3, zb_201_4, zb_201_5, zb_201_7, zb_201_8, zb_201_9, zb_201_10, zb_201_11, zb_201_12, zb_201_13, zb_201_14, zb_201_15, zb_201_16, zb_201_17, zb_201_18, PK_app, n_l0, n_l1, n_l2, n_l3, n_l4, n_l5, n_l8, n_l9, n_l10, n_l15, n_l20, n_l31, n_l40, n_l48, n_l57, n_l59, n_l60, n_l70, n_l99, n_l100, n_l255, n_l601, n_l602, n_l1024, n_l1500, n_l2100, n_l2101, n_l65535, n_l100000, n_l1000000, n_l100000000, i_lt, nI_clamp, nI_leI, nI_eq, nI_1, nI_add, pk_mul, pk_sub, n_in, n_negle, n_legne, n_eqneg, n_negeq, n_nn, n_bit, n_shl1, n_or, zb_e0, zb_e1, zb_r, n_em, zb_T, zb_F, zS_uf1, zS_uf2, zS_ur1, zS_ur2, zS_ur3, zS_ul1, zS_ul2, zS_ul3, z_if0, z_if1, Int.reduceEq, Nat.reduceOr, Nat.or_zero, Nat.zero_or, Bool.false_eq_true, reduceCtorEq, nar0, nar1, nar_zb, eq_self, true_and, and_true, false_and, and_false, or_true, true_or, or_false, false_or, not_true_eq_false, not_false_eq_true, Classical.not_not, true_implies, false_implies, implies_true, iff_true, iff_self, ite_true, ite_false, Nat.reduceEqDiff, Nat.reduceLT, Nat.reduceSub, Nat.add_sub_cancel, Nat.reduceLeDiff, reduceIte, ne_eq, Nat.not_le, PK_app]
        exact hQ _ (((F.ur (by unfold scR; omega)).ur (by unfold scR; omega)).ur (by unfold scR; omega))
    | succ e ih =>
      intro i hi a9 a10 a11
      have hin : i < np := by omega
      have hck : cnt (dgt H x) i ≤ i := cnt_le i
      have hxi := hx i hin
      have ih' := fun a9 a10 a11 => ih (i + 1) (by omega) a9 a10 a11
      rw [zb_201_6]
      rcases hP i hin with ⟨z1, hh1⟩ | ⟨lo, u, lo1, u1, z1, z2, hh1⟩
      · have g1 : ¬ dgv H x i := fun z => z.1 hh1
        have lp := lnP (zur (zuf τ 12 32 (nI (cnt (dgt H x) (i)))) 116 (drw (dgt H x) (dwt H O x) (τ.2.1 116) (i))) i (-nI 9) hc rfl rfl rfl z1
        rw [bitsOf_f g1] at ih'
        rcases hl i hin with c | ⟨v, hv, e, -, -⟩
        · have g2 : ¬ dgt H x i := fun z => z.1 c
          rw [drw_k g2, cnt_f g2] at ih'
          simp (disch := first | exact zl_i | exact zl_r | exact zl_n | omega | exact zlen0 | exact zlen1 | exact zlen2 | exact zlen3 | exact zlen4 | exact zl_l | (unfold scF; omega) | (unfold scR; omega) | (simp only [zS_uf1, zS_uf2, zS_ur1, zS_ur2, Nat.reduceEqDiff, reduceIte, and_false, false_and, and_true, true_and, ite_true, ite_false]; done) | exact zl_n) only [Int.reduceToNat, Nat.reduceAdd, Nat.reduceMul, List.length_nil, List.length_cons, Nat.reduceLeDiff, Nat.zero_le, Option.toList_some, Option.toList_none, List.cons_append, List.nil_append, PW_nil, PW_goto, zl_i, zl_r, zl_n, PW_aload_0, PW_k0, PW_p768, PW_iload_3, PX_c174, PW_if_ne, PW_km1, PW_ret_i zret_201, PW_iload_4, PX_c175, PW_if_eq, PW_iload_1, PX_c151, PW_iload_2, PW_k1, PW_k9, PX_c150, PW_km2, PW_iload_5, PW_g774, PX_c173, PW_istore_6, PW_iload_6, PX_c176, PW_istore_7, PW_p800, PW_istore_8, PW_iload_8, PW_ic_ge, PX_c192, PW_istore_9, PW_iload_9, PW_km9, PW_ic_ne, PW_g789, PW_ia107, PW_ia108, PW_ia109, PW_ia116, PW_istore_10, PW_iload_7, PW_iload_10, PW_if_lt, PW_g786, PW_ic_eq, PW_ishl, PW_ior, PW_istore_11, PW_g799, PW_g800, PW_iload_11, PW_g788, PW_is107, PW_is108, PW_is109, PW_is116, PW_dup_i, PW_dup_r, PW_iadd, PW_iinc_8_p1, PX_c200, zb_201_1, zb_201_2, zb_201_3, zb_201_4, zb_201_5, zb_201_7, zb_201_8, zb_201_9, zb_201_10, zb_201_11, zb_201_12, zb_201_13, zb_201_14, zb_201_15, zb_201_16, zb_201_17, zb_201_18, PK_app, n_l0, n_l1, n_l2, n_l3, n_l4, n_l5, n_l8, n_l9, n_l10, n_l15, n_l20, n_l31, n_l40, n_l48, n_l57, n_l59, n_l60, n_l70, n_l99, n_l100, n_l255, n_l601, n_l602, n_l1024, n_l1500, n_l2100, n_l2101, n_l65535, n_l100000, n_l1000000, n_l100000000, i_lt, nI_clamp, nI_leI, nI_eq, nI_1, nI_add, pk_mul, pk_sub, n_in, n_negle, n_legne, n_eqneg, n_negeq, n_nn, n_bit, n_shl1, n_or, zb_e0, zb_e1, zb_r, n_em, zb_T, zb_F, zS_uf1, zS_uf2, zS_ur1, zS_ur2, zS_ur3, zS_ul1, zS_ul2, zS_ul3, z_if0, z_if1, Int.reduceEq, Nat.reduceOr, Nat.or_zero, Nat.zero_or, Bool.false_eq_true, reduceCtorEq, nar0, nar1, nar_zb, eq_self, true_and, and_true, false_and, and_false, or_true, true_or, or_false, false_or, not_true_eq_false, not_false_eq_true, Classical.not_not, true_implies, false_implies, implies_true, iff_true, iff_self, ite_true, ite_false, Nat.reduceEqDiff, Nat.reduceLT, Nat.reduceSub, Nat.add_sub_cancel, Nat.reduceLeDiff, reduceIte, ne_eq, Nat.not_le, h0, Nat.not_le.mpr hin, lp, PK_app, hxi, c]
          exact ih' _ _ _
        · have exv : (x i).toNatClampNeg = v := by rw [e]; exact nI_clamp (by omega)
          have g2 : dgt H x i := ⟨fun z => (n_eqneg (show v < 2 ^ 31 by omega) (by omega)).mp (e.symm.trans z), fun z => (n_negeq (show v < 2 ^ 31 by omega) (by omega)).mp (hh1.symm.trans (z.trans e))⟩
          rcases hV v hv with ⟨y1, y2⟩ | ⟨m, q, m1, q1, y1, y2, y3⟩
          · have ew : dwt H O x i = 0 := by
              unfold dwt
              rw [exv, hh1, y2, dw1_n, dw2_n]
              exact rfl
            have lv := lnV (zur (zuf τ 12 32 (nI (cnt (dgt H x) (i)))) 116 (drw (dgt H x) (dwt H O x) (τ.2.1 116) (i))) v (-nI 9) hc rfl rfl rfl y1
            rw [← drw_s g2, cnt_t g2, ew] at ih'
            simp (disch := first | exact zl_i | exact zl_r | exact zl_n | omega | exact zlen0 | exact zlen1 | exact zlen2 | exact zlen3 | exact zlen4 | exact zl_l | (unfold scF; omega) | (unfold scR; omega) | (simp only [zS_uf1, zS_uf2, zS_ur1, zS_ur2, Nat.reduceEqDiff, reduceIte, and_false, false_and, and_true, true_and, ite_true, ite_false]; done) | exact zl_n) only [Int.reduceToNat, Nat.reduceAdd, Nat.reduceMul, List.length_nil, List.length_cons, Nat.reduceLeDiff, Nat.zero_le, Option.toList_some, Option.toList_none, List.cons_append, List.nil_append, PW_nil, PW_goto, zl_i, zl_r, zl_n, PW_aload_0, PW_k0, PW_p768, PW_iload_3, PX_c174, PW_if_ne, PW_km1, PW_ret_i zret_201, PW_iload_4, PX_c175, PW_if_eq, PW_iload_1, PX_c151, PW_iload_2, PW_k1, PW_k9, PX_c150, PW_km2, PW_iload_5, PW_g774, PX_c173, PW_istore_6, PW_iload_6, PX_c176, PW_istore_7, PW_p800, PW_istore_8, PW_iload_8, PW_ic_ge, PX_c192, PW_istore_9, PW_iload_9, PW_km9, PW_ic_ne, PW_g789, PW_ia107, PW_ia108, PW_ia109, PW_ia116, PW_istore_10, PW_iload_7, PW_iload_10, PW_if_lt, PW_g786, PW_ic_eq, PW_ishl, PW_ior, PW_istore_11, PW_g799, PW_g800, PW_iload_11, PW_g788, PW_is107, PW_is108, PW_is109, PW_is116, PW_dup_i, PW_dup_r, PW_iadd, PW_iinc_8_p1, PX_c200, zb_201_1, zb_201_2, zb_201_3, zb_201_4, zb_201_5, zb_201_7, zb_201_8, zb_201_9, zb_201_10, zb_201_11, zb_201_12, zb_201_13, zb_201_14, zb_201_15, zb_201_16, zb_201_17, zb_201_18, PK_app, n_l0, n_l1, n_l2, n_l3, n_l4, n_l5, n_l8, n_l9, n_l10, n_l15, n_l20, n_l31, n_l40, n_l48, n_l57, n_l59, n_l60, n_l70, n_l99, n_l100, n_l255, n_l601, n_l602, n_l1024, n_l1500, n_l2100, n_l2101, n_l65535, n_l100000, n_l1000000, n_l100000000, i_lt, nI_clamp, nI_leI, nI_eq, nI_1, nI_add, pk_mul, pk_sub, n_in, n_negle, n_legne, n_eqneg, n_negeq, n_nn, n_bit, n_shl1, n_or, zb_e0, zb_e1, zb_r, n_em, zb_T, zb_F, zS_uf1, zS_uf2, zS_ur1, zS_ur2, zS_ur3, zS_ul1, zS_ul2, zS_ul3, z_if0, z_if1, Int.reduceEq, Nat.reduceOr, Nat.or_zero, Nat.zero_or, Bool.false_eq_true, reduceCtorEq, nar0, nar1, nar_zb, eq_self, true_and, and_true, false_and, and_false, or_true, true_or, or_false, false_or, not_true_eq_false, not_false_eq_true, Classical.not_not, true_implies, false_implies, implies_true, iff_true, iff_self, ite_true, ite_false, Nat.reduceEqDiff, Nat.reduceLT, Nat.reduceSub, Nat.add_sub_cancel, Nat.reduceLeDiff, reduceIte, ne_eq, Nat.not_le, h0, Nat.not_le.mpr hin, lp, lv, PK_app, hxi, e, Nat.zero_le, zur_same, zur_uf, zuf_same]
            exact ih' _ _ _
          · have ew : dwt H O x i = 2 ^ q := by
              unfold dwt
              rw [exv, hh1, y3, dw1_n, dw2_s q1, Nat.zero_or]
            have lv := lnV (zur (zuf τ 12 32 (nI (cnt (dgt H x) (i)))) 116 (drw (dgt H x) (dwt H O x) (τ.2.1 116) (i))) v (nI m) hc rfl rfl rfl y1
            rw [← drw_s g2, cnt_t g2, ew] at ih'
            simp (disch := first | exact zl_i | exact zl_r | exact zl_n | omega | exact zlen0 | exact zlen1 | exact zlen2 | exact zlen3 | exact zlen4 | exact zl_l | (unfold scF; omega) | (unfold scR; omega) | (simp only [zS_uf1, zS_uf2, zS_ur1, zS_ur2, Nat.reduceEqDiff, reduceIte, and_false, false_and, and_true, true_and, ite_true, ite_false]; done) | exact zl_n) only [Int.reduceToNat, Nat.reduceAdd, Nat.reduceMul, List.length_nil, List.length_cons, Nat.reduceLeDiff, Nat.zero_le, Option.toList_some, Option.toList_none, List.cons_append, List.nil_append, PW_nil, PW_goto, zl_i, zl_r, zl_n, PW_aload_0, PW_k0, PW_p768, PW_iload_3, PX_c174, PW_if_ne, PW_km1, PW_ret_i zret_201, PW_iload_4, PX_c175, PW_if_eq, PW_iload_1, PX_c151, PW_iload_2, PW_k1, PW_k9, PX_c150, PW_km2, PW_iload_5, PW_g774, PX_c173, PW_istore_6, PW_iload_6, PX_c176, PW_istore_7, PW_p800, PW_istore_8, PW_iload_8, PW_ic_ge, PX_c192, PW_istore_9, PW_iload_9, PW_km9, PW_ic_ne, PW_g789, PW_ia107, PW_ia108, PW_ia109, PW_ia116, PW_istore_10, PW_iload_7, PW_iload_10, PW_if_lt, PW_g786, PW_ic_eq, PW_ishl, PW_ior, PW_istore_11, PW_g799, PW_g800, PW_iload_11, PW_g788, PW_is107, PW_is108, PW_is109, PW_is116, PW_dup_i, PW_dup_r, PW_iadd, PW_iinc_8_p1, PX_c200, zb_201_1, zb_201_2, zb_201_3, zb_201_4, zb_201_5, zb_201_7, zb_201_8, zb_201_9, zb_201_10, zb_201_11, zb_201_12, zb_201_13, zb_201_14, zb_201_15, zb_201_16, zb_201_17, zb_201_18, PK_app, n_l0, n_l1, n_l2, n_l3, n_l4, n_l5, n_l8, n_l9, n_l10, n_l15, n_l20, n_l31, n_l40, n_l48, n_l57, n_l59, n_l60, n_l70, n_l99, n_l100, n_l255, n_l601, n_l602, n_l1024, n_l1500, n_l2100, n_l2101, n_l65535, n_l100000, n_l1000000, n_l100000000, i_lt, nI_clamp, nI_leI, nI_eq, nI_1, nI_add, pk_mul, pk_sub, n_in, n_negle, n_legne, n_eqneg, n_negeq, n_nn, n_bit, n_shl1, n_or, zb_e0, zb_e1, zb_r, n_em, zb_T, zb_F, zS_uf1, zS_uf2, zS_ur1, zS_ur2, zS_ur3, zS_ul1, zS_ul2, zS_ul3, z_if0, z_if1, Int.reduceEq, Nat.reduceOr, Nat.or_zero, Nat.zero_or, Bool.false_eq_true, reduceCtorEq, nar0, nar1, nar_zb, eq_self, true_and, and_true, false_and, and_false, or_true, true_or, or_false, false_or, not_true_eq_false, not_false_eq_true, Classical.not_not, true_implies, false_implies, implies_true, iff_true, iff_self, ite_true, ite_false, Nat.reduceEqDiff, Nat.reduceLT, Nat.reduceSub, Nat.add_sub_cancel, Nat.reduceLeDiff, reduceIte, ne_eq, Nat.not_le, h0, Nat.not_le.mpr hin, lp, lv, PK_app, hxi, e, Nat.zero_le, y2, zur_same, zur_uf, zuf_same]
            exact ih' _ _ _
      · have lp := lnP (zur (zuf τ 12 32 (nI (cnt (dgt H x) (i)))) 116 (drw (dgt H x) (dwt H O x) (τ.2.1 116) (i))) i (nI lo) hc rfl rfl rfl z1
        rcases hl i hin with c | ⟨v, hv, e, -, -⟩
        · have g2 : ¬ dgt H x i := fun z => z.1 c
          have g1 : dgv H x i := ⟨fun z => (n_eqneg (show u < 2 ^ 31 by omega) (by omega)).mp (hh1.symm.trans z), fun z => (n_eqneg (show u < 2 ^ 31 by omega) (by omega)).mp (hh1.symm.trans (z.trans c))⟩
          rw [drw_k g2, cnt_f g2, bitsOf_t g1] at ih'
          simp (disch := first | exact zl_i | exact zl_r | exact zl_n | omega | exact zlen0 | exact zlen1 | exact zlen2 | exact zlen3 | exact zlen4 | exact zl_l | (unfold scF; omega) | (unfold scR; omega) | (simp only [zS_uf1, zS_uf2, zS_ur1, zS_ur2, Nat.reduceEqDiff, reduceIte, and_false, false_and, and_true, true_and, ite_true, ite_false]; done) | exact zl_n) only [Int.reduceToNat, Nat.reduceAdd, Nat.reduceMul, List.length_nil, List.length_cons, Nat.reduceLeDiff, Nat.zero_le, Option.toList_some, Option.toList_none, List.cons_append, List.nil_append, PW_nil, PW_goto, zl_i, zl_r, zl_n, PW_aload_0, PW_k0, PW_p768, PW_iload_3, PX_c174, PW_if_ne, PW_km1, PW_ret_i zret_201, PW_iload_4, PX_c175, PW_if_eq, PW_iload_1, PX_c151, PW_iload_2, PW_k1, PW_k9, PX_c150, PW_km2, PW_iload_5, PW_g774, PX_c173, PW_istore_6, PW_iload_6, PX_c176, PW_istore_7, PW_p800, PW_istore_8, PW_iload_8, PW_ic_ge, PX_c192, PW_istore_9, PW_iload_9, PW_km9, PW_ic_ne, PW_g789, PW_ia107, PW_ia108, PW_ia109, PW_ia116, PW_istore_10, PW_iload_7, PW_iload_10, PW_if_lt, PW_g786, PW_ic_eq, PW_ishl, PW_ior, PW_istore_11, PW_g799, PW_g800, PW_iload_11, PW_g788, PW_is107, PW_is108, PW_is109, PW_is116, PW_dup_i, PW_dup_r, PW_iadd, PW_iinc_8_p1, PX_c200, zb_201_1, zb_201_2, zb_201_3, zb_201_4, zb_201_5, zb_201_7, zb_201_8, zb_201_9, zb_201_10, zb_201_11, zb_201_12, zb_201_13, zb_201_14, zb_201_15, zb_201_16, zb_201_17, zb_201_18, PK_app, n_l0, n_l1, n_l2, n_l3, n_l4, n_l5, n_l8, n_l9, n_l10, n_l15, n_l20, n_l31, n_l40, n_l48, n_l57, n_l59, n_l60, n_l70, n_l99, n_l100, n_l255, n_l601, n_l602, n_l1024, n_l1500, n_l2100, n_l2101, n_l65535, n_l100000, n_l1000000, n_l100000000, i_lt, nI_clamp, nI_leI, nI_eq, nI_1, nI_add, pk_mul, pk_sub, n_in, n_negle, n_legne, n_eqneg, n_negeq, n_nn, n_bit, n_shl1, n_or, zb_e0, zb_e1, zb_r, n_em, zb_T, zb_F, zS_uf1, zS_uf2, zS_ur1, zS_ur2, zS_ur3, zS_ul1, zS_ul2, zS_ul3, z_if0, z_if1, Int.reduceEq, Nat.reduceOr, Nat.or_zero, Nat.zero_or, Bool.false_eq_true, reduceCtorEq, nar0, nar1, nar_zb, eq_self, true_and, and_true, false_and, and_false, or_true, true_or, or_false, false_or, not_true_eq_false, not_false_eq_true, Classical.not_not, true_implies, false_implies, implies_true, iff_true, iff_self, ite_true, ite_false, Nat.reduceEqDiff, Nat.reduceLT, Nat.reduceSub, Nat.add_sub_cancel, Nat.reduceLeDiff, reduceIte, ne_eq, Nat.not_le, h0, Nat.not_le.mpr hin, lp, PK_app, hxi, c, z2, Nat.zero_le]
          exact ih' _ _ _
        · have exv : (x i).toNatClampNeg = v := by rw [e]; exact nI_clamp (by omega)
          by_cases w : u = v
          · have hh' : H i = nI v := by rw [hh1, w]
            have g1 : ¬ dgv H x i := fun z => z.2 (hh'.trans e.symm)
            have g2 : ¬ dgt H x i := fun z => z.2 (hh'.trans e.symm)
            rw [bitsOf_f g1, drw_k g2, cnt_f g2] at ih'
            subst w
            simp (disch := first | exact zl_i | exact zl_r | exact zl_n | omega | exact zlen0 | exact zlen1 | exact zlen2 | exact zlen3 | exact zlen4 | exact zl_l | (unfold scF; omega) | (unfold scR; omega) | (simp only [zS_uf1, zS_uf2, zS_ur1, zS_ur2, Nat.reduceEqDiff, reduceIte, and_false, false_and, and_true, true_and, ite_true, ite_false]; done) | exact zl_n) only [Int.reduceToNat, Nat.reduceAdd, Nat.reduceMul, List.length_nil, List.length_cons, Nat.reduceLeDiff, Nat.zero_le, Option.toList_some, Option.toList_none, List.cons_append, List.nil_append, PW_nil, PW_goto, zl_i, zl_r, zl_n, PW_aload_0, PW_k0, PW_p768, PW_iload_3, PX_c174, PW_if_ne, PW_km1, PW_ret_i zret_201, PW_iload_4, PX_c175, PW_if_eq, PW_iload_1, PX_c151, PW_iload_2, PW_k1, PW_k9, PX_c150, PW_km2, PW_iload_5, PW_g774, PX_c173, PW_istore_6, PW_iload_6, PX_c176, PW_istore_7, PW_p800, PW_istore_8, PW_iload_8, PW_ic_ge, PX_c192, PW_istore_9, PW_iload_9, PW_km9, PW_ic_ne, PW_g789, PW_ia107, PW_ia108, PW_ia109, PW_ia116, PW_istore_10, PW_iload_7, PW_iload_10, PW_if_lt, PW_g786, PW_ic_eq, PW_ishl, PW_ior, PW_istore_11, PW_g799, PW_g800, PW_iload_11, PW_g788, PW_is107, PW_is108, PW_is109, PW_is116, PW_dup_i, PW_dup_r, PW_iadd, PW_iinc_8_p1, PX_c200, zb_201_1, zb_201_2, zb_201_3, zb_201_4, zb_201_5, zb_201_7, zb_201_8, zb_201_9, zb_201_10, zb_201_11, zb_201_12, zb_201_13, zb_201_14, zb_201_15, zb_201_16, zb_201_17, zb_201_18, PK_app, n_l0, n_l1, n_l2, n_l3, n_l4, n_l5, n_l8, n_l9, n_l10, n_l15, n_l20, n_l31, n_l40, n_l48, n_l57, n_l59, n_l60, n_l70, n_l99, n_l100, n_l255, n_l601, n_l602, n_l1024, n_l1500, n_l2100, n_l2101, n_l65535, n_l100000, n_l1000000, n_l100000000, i_lt, nI_clamp, nI_leI, nI_eq, nI_1, nI_add, pk_mul, pk_sub, n_in, n_negle, n_legne, n_eqneg, n_negeq, n_nn, n_bit, n_shl1, n_or, zb_e0, zb_e1, zb_r, n_em, zb_T, zb_F, zS_uf1, zS_uf2, zS_ur1, zS_ur2, zS_ur3, zS_ul1, zS_ul2, zS_ul3, z_if0, z_if1, Int.reduceEq, Nat.reduceOr, Nat.or_zero, Nat.zero_or, Bool.false_eq_true, reduceCtorEq, nar0, nar1, nar_zb, eq_self, true_and, and_true, false_and, and_false, or_true, true_or, or_false, false_or, not_true_eq_false, not_false_eq_true, Classical.not_not, true_implies, false_implies, implies_true, iff_true, iff_self, ite_true, ite_false, Nat.reduceEqDiff, Nat.reduceLT, Nat.reduceSub, Nat.add_sub_cancel, Nat.reduceLeDiff, reduceIte, ne_eq, Nat.not_le, h0, Nat.not_le.mpr hin, lp, PK_app, hxi, e, z2, Nat.zero_le]
            exact ih' _ _ _
          · have nh : ¬ H i = nI v := fun z => w ((nI_eq (by omega) (by omega)).mp (hh1.symm.trans z))
            have w' : ¬ v = u := fun z => w z.symm
            have g1 : dgv H x i := ⟨fun z => (n_eqneg (show u < 2 ^ 31 by omega) (by omega)).mp (hh1.symm.trans z), fun z => nh (z.trans e)⟩
            have g2 : dgt H x i := ⟨fun z => (n_eqneg (show v < 2 ^ 31 by omega) (by omega)).mp (e.symm.trans z), fun z => nh (z.trans e)⟩
            rcases hV v hv with ⟨y1, y2⟩ | ⟨m, q, m1, q1, y1, y2, y3⟩
            · have ew : dwt H O x i = 2 ^ i := by
                unfold dwt
                rw [exv, hh1, y2, dw1_s u1, dw2_n, Nat.or_zero]
              have lv := lnV (zur (zuf τ 12 32 (nI (cnt (dgt H x) (i)))) 116 (drw (dgt H x) (dwt H O x) (τ.2.1 116) (i))) v (-nI 9) hc rfl rfl rfl y1
              rw [bitsOf_t g1, ← drw_s g2, cnt_t g2, ew] at ih'
              simp (disch := first | exact zl_i | exact zl_r | exact zl_n | omega | exact zlen0 | exact zlen1 | exact zlen2 | exact zlen3 | exact zlen4 | exact zl_l | (unfold scF; omega) | (unfold scR; omega) | (simp only [zS_uf1, zS_uf2, zS_ur1, zS_ur2, Nat.reduceEqDiff, reduceIte, and_false, false_and, and_true, true_and, ite_true, ite_false]; done) | exact zl_n) only [Int.reduceToNat, Nat.reduceAdd, Nat.reduceMul, List.length_nil, List.length_cons, Nat.reduceLeDiff, Nat.zero_le, Option.toList_some, Option.toList_none, List.cons_append, List.nil_append, PW_nil, PW_goto, zl_i, zl_r, zl_n, PW_aload_0, PW_k0, PW_p768, PW_iload_3, PX_c174, PW_if_ne, PW_km1, PW_ret_i zret_201, PW_iload_4, PX_c175, PW_if_eq, PW_iload_1, PX_c151, PW_iload_2, PW_k1, PW_k9, PX_c150, PW_km2, PW_iload_5, PW_g774, PX_c173, PW_istore_6, PW_iload_6, PX_c176, PW_istore_7, PW_p800, PW_istore_8, PW_iload_8, PW_ic_ge, PX_c192, PW_istore_9, PW_iload_9, PW_km9, PW_ic_ne, PW_g789, PW_ia107, PW_ia108, PW_ia109, PW_ia116, PW_istore_10, PW_iload_7, PW_iload_10, PW_if_lt, PW_g786, PW_ic_eq, PW_ishl, PW_ior, PW_istore_11, PW_g799, PW_g800, PW_iload_11, PW_g788, PW_is107, PW_is108, PW_is109, PW_is116, PW_dup_i, PW_dup_r, PW_iadd, PW_iinc_8_p1, PX_c200, zb_201_1, zb_201_2, zb_201_3, zb_201_4, zb_201_5, zb_201_7, zb_201_8, zb_201_9, zb_201_10, zb_201_11, zb_201_12, zb_201_13, zb_201_14, zb_201_15, zb_201_16, zb_201_17, zb_201_18, PK_app, n_l0, n_l1, n_l2, n_l3, n_l4, n_l5, n_l8, n_l9, n_l10, n_l15, n_l20, n_l31, n_l40, n_l48, n_l57, n_l59, n_l60, n_l70, n_l99, n_l100, n_l255, n_l601, n_l602, n_l1024, n_l1500, n_l2100, n_l2101, n_l65535, n_l100000, n_l1000000, n_l100000000, i_lt, nI_clamp, nI_leI, nI_eq, nI_1, nI_add, pk_mul, pk_sub, n_in, n_negle, n_legne, n_eqneg, n_negeq, n_nn, n_bit, n_shl1, n_or, zb_e0, zb_e1, zb_r, n_em, zb_T, zb_F, zS_uf1, zS_uf2, zS_ur1, zS_ur2, zS_ur3, zS_ul1, zS_ul2, zS_ul3, z_if0, z_if1, Int.reduceEq, Nat.reduceOr, Nat.or_zero, Nat.zero_or, Bool.false_eq_true, reduceCtorEq, nar0, nar1, nar_zb, eq_self, true_and, and_true, false_and, and_false, or_true, true_or, or_false, false_or, not_true_eq_false, not_false_eq_true, Classical.not_not, true_implies, false_implies, implies_true, iff_true, iff_self, ite_true, ite_false, Nat.reduceEqDiff, Nat.reduceLT, Nat.reduceSub, Nat.add_sub_cancel, Nat.reduceLeDiff, reduceIte, ne_eq, Nat.not_le, h0, Nat.not_le.mpr hin, lp, lv, PK_app, hxi, e, Nat.zero_le, z2, w, w', zur_same, zur_uf, zuf_same]
              exact ih' _ _ _
            · have ew : dwt H O x i = 2 ^ i ||| 2 ^ q := by
                unfold dwt
                rw [exv, hh1, y3, dw1_s u1, dw2_s q1]
              have lv := lnV (zur (zuf τ 12 32 (nI (cnt (dgt H x) (i)))) 116 (drw (dgt H x) (dwt H O x) (τ.2.1 116) (i))) v (nI m) hc rfl rfl rfl y1
              rw [bitsOf_t g1, ← drw_s g2, cnt_t g2, ew] at ih'
              simp (disch := first | exact zl_i | exact zl_r | exact zl_n | omega | exact zlen0 | exact zlen1 | exact zlen2 | exact zlen3 | exact zlen4 | exact zl_l | (unfold scF; omega) | (unfold scR; omega) | (simp only [zS_uf1, zS_uf2, zS_ur1, zS_ur2, Nat.reduceEqDiff, reduceIte, and_false, false_and, and_true, true_and, ite_true, ite_false]; done) | exact zl_n) only [Int.reduceToNat, Nat.reduceAdd, Nat.reduceMul, List.length_nil, List.length_cons, Nat.reduceLeDiff, Nat.zero_le, Option.toList_some, Option.toList_none, List.cons_append, List.nil_append, PW_nil, PW_goto, zl_i, zl_r, zl_n, PW_aload_0, PW_k0, PW_p768, PW_iload_3, PX_c174, PW_if_ne, PW_km1, PW_ret_i zret_201, PW_iload_4, PX_c175, PW_if_eq, PW_iload_1, PX_c151, PW_iload_2, PW_k1, PW_k9, PX_c150, PW_km2, PW_iload_5, PW_g774, PX_c173, PW_istore_6, PW_iload_6, PX_c176, PW_istore_7, PW_p800, PW_istore_8, PW_iload_8, PW_ic_ge, PX_c192, PW_istore_9, PW_iload_9, PW_km9, PW_ic_ne, PW_g789, PW_ia107, PW_ia108, PW_ia109, PW_ia116, PW_istore_10, PW_iload_7, PW_iload_10, PW_if_lt, PW_g786, PW_ic_eq, PW_ishl, PW_ior, PW_istore_11, PW_g799, PW_g800, PW_iload_11, PW_g788, PW_is107, PW_is108, PW_is109, PW_is116, PW_dup_i, PW_dup_r, PW_iadd, PW_iinc_8_p1, PX_c200, zb_201_1, zb_201_2, zb_201_3, zb_201_4, zb_201_5, zb_201_7, zb_201_8, zb_201_9, zb_201_10, zb_201_11, zb_201_12, zb_201_13, zb_201_14, zb_201_15, zb_201_16, zb_201_17, zb_201_18, PK_app, n_l0, n_l1, n_l2, n_l3, n_l4, n_l5, n_l8, n_l9, n_l10, n_l15, n_l20, n_l31, n_l40, n_l48, n_l57, n_l59, n_l60, n_l70, n_l99, n_l100, n_l255, n_l601, n_l602, n_l1024, n_l1500, n_l2100, n_l2101, n_l65535, n_l100000, n_l1000000, n_l100000000, i_lt, nI_clamp, nI_leI, nI_eq, nI_1, nI_add, pk_mul, pk_sub, n_in, n_negle, n_legne, n_eqneg, n_negeq, n_nn, n_bit, n_shl1, n_or, zb_e0, zb_e1, zb_r, n_em, zb_T, zb_F, zS_uf1, zS_uf2, zS_ur1, zS_ur2, zS_ur3, zS_ul1, zS_ul2, zS_ul3, z_if0, z_if1, Int.reduceEq, Nat.reduceOr, Nat.or_zero, Nat.zero_or, Bool.false_eq_true, reduceCtorEq, nar0, nar1, nar_zb, eq_self, true_and, and_true, false_and, and_false, or_true, true_or, or_false, false_or, not_true_eq_false, not_false_eq_true, Classical.not_not, true_implies, false_implies, implies_true, iff_true, iff_self, ite_true, ite_false, Nat.reduceEqDiff, Nat.reduceLT, Nat.reduceSub, Nat.add_sub_cancel, Nat.reduceLeDiff, reduceIte, ne_eq, Nat.not_le, h0, Nat.not_le.mpr hin, lp, lv, PK_app, hxi, e, Nat.zero_le, z2, w, w', y2, zur_same, zur_uf, zuf_same]
              exact ih' _ _ _
  have e := key np 0 (Nat.zero_add np) none none none
  have ez : zur (zuf τ 12 32 (nI (cnt (dgt H x) (0)))) 116 (drw (dgt H x) (dwt H O x) (τ.2.1 116) (0)) = zuf τ 12 32 (nI 0) := by
    rw [drw_0]
    exact zur_id
  rw [ez] at e
  exact e
end DM
