/-! the best lending, the class: one more seat, all seats -/
theorem hS_ur {m : Nat} {S cf : Nat → Nat} {w u sl : Nat → Int} {σ : zS} {S' : Nat → Nat} {f : Nat → Int32} (h : hS m S cf w u sl σ) (hf : ∀ j, j ≤ m → f j = nI (S' j)) : hS m S' cf w u sl (zur σ 34 f) := ⟨hf, h.2.1, h.2.2.1, h.2.2.2.1, h.2.2.2.2⟩
section HP
variable {sc : zX} {σ : zS} {Q : Option Value → zS → Prop}
theorem seat_w {np nv n : Nat} {t : Nat → Nat → Nat} {rk : Nat → Nat} {S : Nat → Nat} {w u : Nat → Int} (hnp : np ≤ 10) (hnv : nv ≤ 10) (ht : ∀ p v, t p v ≤ 99) (hn : n < np) (hF : clF σ np nv t rk) (h34 : ∀ j, j ≤ nv + np → σ.2.1 34 j = nI (S j)) (h37 : ∀ j, j ≤ nv + np → σ.2.2 37 j = jI (w j)) (h38 : ∀ i, i ≤ 10 → σ.2.2 38 i = jI (u i)) (ho : hg_out (nv + np) n (hg_c nv t) S w u)
    (hQ : ∀ σ' S' cf w' u' sl, hFr σ σ' → hS (nv + np) S' cf w' u' sl σ' → hg_out (nv + np) (n + 1) (hg_c nv t) S' w' u' → Q none σ') : PC sc 25 [.ref 2, .int (nI (n + 1))] σ Q := by
  have hm : n < nv + np := by omega
  have hC : hg_C (nv + np) (n + 1) (hg_c nv t) := hg_cC hnv ht
  have main : ∀ e s b j0 S cf ord w u sl σ', nv + np + 1 ≤ s + e → hFr σ σ' → hS (nv + np) S cf w u sl σ' → hg_in (nv + np) n s j0 (hg_c nv t) S cf ord w u sl (fun j => b.testBit j = true) → b < 2 ^ 21 → ∀ a5, PW sc 25 (zblk 25 1) 2 [some (.ref 2), some (.int (nI (n + 1))), some (.int (nI j0)), some (.int (nI b)), some (.int (nI s)), a5] [] (σ') Q := by
    intro e
    induction e with
    | zero =>
      intro s b j0 S cf ord w u sl σ' he k H I hb a5
      exfalso
      obtain ⟨⟨i1, i2, i3, i4, i5⟩, -, ⟨r1, r2, r3, r4, r5⟩, -⟩ := I
      obtain ⟨jf, g1, g2, g3⟩ := hg_free i5 hm
      have hl : cnt (fun j => b.testBit j = true) (nv + np + 1) ≤ nv + np + 1 := cnt_le _
      exact (r1 jf (cnt_full (c := fun j => b.testBit j = true) (n := nv + np + 1) (by omega) jf (by omega))).2.1 g3
    | succ e ih =>
      intro s b j0 S cf ord w u sl σ' he k H I hb a5
      have hF' := clF_h hnp hF k
      have I' := I
      have bd := hg_bd hm hC I
      obtain ⟨⟨i1, i2, i3, i4, i5⟩, ⟨f1, f2, f3, f4⟩, ⟨r1, ⟨r2, r3, r4⟩, r5, r6, r7⟩, e1, ⟨q1, q2⟩, ⟨u1, u2, u3, u4, u5⟩⟩ := I'
      obtain ⟨jf, g1, g2, g3⟩ := hg_free i5 hm
      have hl : cnt (fun j => b.testBit j = true) (nv + np + 1) ≤ nv + np + 1 := cnt_le _
      have hs20 : s ≤ nv + np := by
        apply Classical.byContradiction
        intro z
        exact (r1 jf (cnt_full (c := fun j => b.testBit j = true) (n := nv + np + 1) (by omega) jf (by omega))).2.1 g3
      have h0 := H.1 j0 r2
      have S10 : ∀ j, j ≤ nv + np → S j ≤ n + 1 := fun j hj => by
        by_cases z : j = 0
        · rw [z, i1]; omega
        · have := i2 j (by omega) hj
          omega
      rw [zb_25_1]
      by_cases z0 : S j0 = 0
      · -- the way back
        have back : ∀ e step j T σ'', ord j ≤ e → step + ord j ≤ s → hFr σ σ'' → hS (nv + np) T cf w u sl σ'' → hg_bk (nv + np) n j0 j (hg_c nv t) S T ord w u (fun j => b.testBit j = true) → ∀ a5, PW sc 25 (zblk 25 3) 4 [some (.ref 2), some (.int (nI (n + 1))), some (.int (nI j)), some (.int (nI b)), some (.int (nI step)), a5] [] (σ'') Q := by
          intro e
          induction e with
          | zero =>
            intro step j T σ'' h1 h2 k2 H2 B a5
            have hz : j = 0 := by
              apply Classical.byContradiction
              intro y
              have := (hg_bks I B y).2.1
              omega
            subst hz
            rw [zb_25_3]
            simp (disch := first | exact zl_i | exact zl_r | exact zl_n | omega | exact zlen0 | exact zlen1 | exact zlen2 | exact zlen3 | exact zlen4 | exact zl_l | (unfold scF; omega) | (unfold scR; omega) | (simp only [zS_uf1, zS_uf2, zS_ur1, zS_ur2, Nat.reduceEqDiff, reduceIte, and_false, false_and, and_true, true_and, ite_true, ite_false]; done) | exact zl_n) only [Int.reduceToNat, Nat.reduceAdd, Nat.reduceMul, List.length_nil, List.length_cons, Nat.reduceLeDiff, Nat.zero_le, Option.toList_some, Option.toList_none, List.cons_append, List.nil_append, PW_nil, PW_goto, zl_i, zl_r, zl_n, PW_aload_0, PW_g136, PW_ld2, zLc, PX_c252, PW_g134, PW_k0, PW_iload_1, PW_is34, PW_is35, PW_istore_2, PW_istore_3, PW_istore_4, PW_iload_4, PW_k20, PW_ic_gt, PW_iload_2, PW_ia34, PW_ia35, PW_if_eq, PW_iload_3, PW_k1, PW_ishl, PW_ior, PX_c26, PX_c27, PW_istore_5, PW_iload_5, PW_la36, PX_c28, PW_iinc_4_p1, PW_g135, PW_ret_v zret_25, zb_25_2, zb_25_4, PK_app, n_l0, n_l1, n_l2, n_l3, n_l4, n_l5, n_l8, n_l9, n_l10, n_l15, n_l20, n_l31, n_l40, n_l48, n_l57, n_l59, n_l60, n_l70, n_l99, n_l100, n_l255, n_l601, n_l602, n_l1024, n_l1500, n_l2100, n_l2101, n_l65535, n_l100000, n_l1000000, n_l100000000, i_lt, nI_clamp, nI_leI, nI_eq, nI_1, nI_add, pk_mul, pk_sub, n_in, n_negle, n_legne, n_eqneg, n_negeq, n_nn, n_bit, n_shl1, n_or, zb_e0, zb_e1, zb_r, n_em, zb_T, zb_F, zS_uf1, zS_uf2, zS_ur1, zS_ur2, zS_ur3, zS_ul1, zS_ul2, zS_ul3, z_if0, z_if1, Int.reduceEq, Nat.reduceOr, Nat.or_zero, Nat.zero_or, Bool.false_eq_true, reduceCtorEq, nar0, nar1, nar_zb, eq_self, true_and, and_true, false_and, and_false, or_true, true_or, or_false, false_or, not_true_eq_false, not_false_eq_true, Classical.not_not, true_implies, false_implies, implies_true, iff_true, iff_self, ite_true, ite_false, Nat.reduceEqDiff, Nat.reduceLT, Nat.reduceSub, Nat.add_sub_cancel, Nat.reduceLeDiff, reduceIte, ne_eq, Nat.not_le, show ¬ 20 < step by omega, show step ≤ 20 by omega]
            exact hQ _ T cf w u sl k2 H2 (hg_end hm hC I z0 B)
          | succ e ihb =>
            intro step j T σ'' h1 h2 k2 H2 B a5
            rw [zb_25_3]
            by_cases y : j = 0
            · subst y
              simp (disch := first | exact zl_i | exact zl_r | exact zl_n | omega | exact zlen0 | exact zlen1 | exact zlen2 | exact zlen3 | exact zlen4 | exact zl_l | (unfold scF; omega) | (unfold scR; omega) | (simp only [zS_uf1, zS_uf2, zS_ur1, zS_ur2, Nat.reduceEqDiff, reduceIte, and_false, false_and, and_true, true_and, ite_true, ite_false]; done) | exact zl_n) only [Int.reduceToNat, Nat.reduceAdd, Nat.reduceMul, List.length_nil, List.length_cons, Nat.reduceLeDiff, Nat.zero_le, Option.toList_some, Option.toList_none, List.cons_append, List.nil_append, PW_nil, PW_goto, zl_i, zl_r, zl_n, PW_aload_0, PW_g136, PW_ld2, zLc, PX_c252, PW_g134, PW_k0, PW_iload_1, PW_is34, PW_is35, PW_istore_2, PW_istore_3, PW_istore_4, PW_iload_4, PW_k20, PW_ic_gt, PW_iload_2, PW_ia34, PW_ia35, PW_if_eq, PW_iload_3, PW_k1, PW_ishl, PW_ior, PX_c26, PX_c27, PW_istore_5, PW_iload_5, PW_la36, PX_c28, PW_iinc_4_p1, PW_g135, PW_ret_v zret_25, zb_25_2, zb_25_4, PK_app, n_l0, n_l1, n_l2, n_l3, n_l4, n_l5, n_l8, n_l9, n_l10, n_l15, n_l20, n_l31, n_l40, n_l48, n_l57, n_l59, n_l60, n_l70, n_l99, n_l100, n_l255, n_l601, n_l602, n_l1024, n_l1500, n_l2100, n_l2101, n_l65535, n_l100000, n_l1000000, n_l100000000, i_lt, nI_clamp, nI_leI, nI_eq, nI_1, nI_add, pk_mul, pk_sub, n_in, n_negle, n_legne, n_eqneg, n_negeq, n_nn, n_bit, n_shl1, n_or, zb_e0, zb_e1, zb_r, n_em, zb_T, zb_F, zS_uf1, zS_uf2, zS_ur1, zS_ur2, zS_ur3, zS_ul1, zS_ul2, zS_ul3, z_if0, z_if1, Int.reduceEq, Nat.reduceOr, Nat.or_zero, Nat.zero_or, Bool.false_eq_true, reduceCtorEq, nar0, nar1, nar_zb, eq_self, true_and, and_true, false_and, and_false, or_true, true_or, or_false, false_or, not_true_eq_false, not_false_eq_true, Classical.not_not, true_implies, false_implies, implies_true, iff_true, iff_self, ite_true, ite_false, Nat.reduceEqDiff, Nat.reduceLT, Nat.reduceSub, Nat.add_sub_cancel, Nat.reduceLeDiff, reduceIte, ne_eq, Nat.not_le, show ¬ 20 < step by omega, show step ≤ 20 by omega]
              exact hQ _ T cf w u sl k2 H2 (hg_end hm hC I z0 B)
            · obtain ⟨B2, o1, c1, j1⟩ := hg_bks I B y
              have x1 := H2.1 (cf j) c1
              have x2 := H2.2.1 j j1
              simp (disch := first | exact zl_i | exact zl_r | exact zl_n | omega | exact zlen0 | exact zlen1 | exact zlen2 | exact zlen3 | exact zlen4 | exact zl_l | (unfold scF; omega) | (unfold scR; omega) | (simp only [zS_uf1, zS_uf2, zS_ur1, zS_ur2, Nat.reduceEqDiff, reduceIte, and_false, false_and, and_true, true_and, ite_true, ite_false]; done) | exact zl_n) only [Int.reduceToNat, Nat.reduceAdd, Nat.reduceMul, List.length_nil, List.length_cons, Nat.reduceLeDiff, Nat.zero_le, Option.toList_some, Option.toList_none, List.cons_append, List.nil_append, PW_nil, PW_goto, zl_i, zl_r, zl_n, PW_aload_0, PW_g136, PW_ld2, zLc, PX_c252, PW_g134, PW_k0, PW_iload_1, PW_is34, PW_is35, PW_istore_2, PW_istore_3, PW_istore_4, PW_iload_4, PW_k20, PW_ic_gt, PW_iload_2, PW_ia34, PW_ia35, PW_if_eq, PW_iload_3, PW_k1, PW_ishl, PW_ior, PX_c26, PX_c27, PW_istore_5, PW_iload_5, PW_la36, PX_c28, PW_iinc_4_p1, PW_g135, PW_ret_v zret_25, zb_25_2, zb_25_4, PK_app, n_l0, n_l1, n_l2, n_l3, n_l4, n_l5, n_l8, n_l9, n_l10, n_l15, n_l20, n_l31, n_l40, n_l48, n_l57, n_l59, n_l60, n_l70, n_l99, n_l100, n_l255, n_l601, n_l602, n_l1024, n_l1500, n_l2100, n_l2101, n_l65535, n_l100000, n_l1000000, n_l100000000, i_lt, nI_clamp, nI_leI, nI_eq, nI_1, nI_add, pk_mul, pk_sub, n_in, n_negle, n_legne, n_eqneg, n_negeq, n_nn, n_bit, n_shl1, n_or, zb_e0, zb_e1, zb_r, n_em, zb_T, zb_F, zS_uf1, zS_uf2, zS_ur1, zS_ur2, zS_ur3, zS_ul1, zS_ul2, zS_ul3, z_if0, z_if1, Int.reduceEq, Nat.reduceOr, Nat.or_zero, Nat.zero_or, Bool.false_eq_true, reduceCtorEq, nar0, nar1, nar_zb, eq_self, true_and, and_true, false_and, and_false, or_true, true_or, or_false, false_or, not_true_eq_false, not_false_eq_true, Classical.not_not, true_implies, false_implies, implies_true, iff_true, iff_self, ite_true, ite_false, Nat.reduceEqDiff, Nat.reduceLT, Nat.reduceSub, Nat.add_sub_cancel, Nat.reduceLeDiff, reduceIte, ne_eq, Nat.not_le, show ¬ 20 < step by omega, show step ≤ 20 by omega, y, x1, x2]
              refine ihb (step + 1) (cf j) _ _ (by omega) (by omega) (hFr_t k2 (hFr_ur (Or.inl rfl))) (hS_ur H2 (fun x hx => ?_)) B2 _
              by_cases q : x = j
              · rw [q, pk_us, if_pos rfl]
              · rw [pk_un q, if_neg q]
                exact H2.1 x hx
        have z0' := eq_true z0
        simp (disch := first | exact zl_i | exact zl_r | exact zl_n | omega | exact zlen0 | exact zlen1 | exact zlen2 | exact zlen3 | exact zlen4 | exact zl_l | (unfold scF; omega) | (unfold scR; omega) | (simp only [zS_uf1, zS_uf2, zS_ur1, zS_ur2, Nat.reduceEqDiff, reduceIte, and_false, false_and, and_true, true_and, ite_true, ite_false]; done) | exact zl_n) only [Int.reduceToNat, Nat.reduceAdd, Nat.reduceMul, List.length_nil, List.length_cons, Nat.reduceLeDiff, Nat.zero_le, Option.toList_some, Option.toList_none, List.cons_append, List.nil_append, PW_nil, PW_goto, zl_i, zl_r, zl_n, PW_aload_0, PW_g136, PW_ld2, zLc, PX_c252, PW_g134, PW_k0, PW_iload_1, PW_is34, PW_is35, PW_istore_2, PW_istore_3, PW_istore_4, PW_iload_4, PW_k20, PW_ic_gt, PW_iload_2, PW_ia34, PW_ia35, PW_if_eq, PW_iload_3, PW_k1, PW_ishl, PW_ior, PX_c26, PX_c27, PW_istore_5, PW_iload_5, PW_la36, PX_c28, PW_iinc_4_p1, PW_g135, PW_ret_v zret_25, zb_25_2, zb_25_4, PK_app, n_l0, n_l1, n_l2, n_l3, n_l4, n_l5, n_l8, n_l9, n_l10, n_l15, n_l20, n_l31, n_l40, n_l48, n_l57, n_l59, n_l60, n_l70, n_l99, n_l100, n_l255, n_l601, n_l602, n_l1024, n_l1500, n_l2100, n_l2101, n_l65535, n_l100000, n_l1000000, n_l100000000, i_lt, nI_clamp, nI_leI, nI_eq, nI_1, nI_add, pk_mul, pk_sub, n_in, n_negle, n_legne, n_eqneg, n_negeq, n_nn, n_bit, n_shl1, n_or, zb_e0, zb_e1, zb_r, n_em, zb_T, zb_F, zS_uf1, zS_uf2, zS_ur1, zS_ur2, zS_ur3, zS_ul1, zS_ul2, zS_ul3, z_if0, z_if1, Int.reduceEq, Nat.reduceOr, Nat.or_zero, Nat.zero_or, Bool.false_eq_true, reduceCtorEq, nar0, nar1, nar_zb, eq_self, true_and, and_true, false_and, and_false, or_true, true_or, or_false, false_or, not_true_eq_false, not_false_eq_true, Classical.not_not, true_implies, false_implies, implies_true, iff_true, iff_self, ite_true, ite_false, Nat.reduceEqDiff, Nat.reduceLT, Nat.reduceSub, Nat.add_sub_cancel, Nat.reduceLeDiff, reduceIte, ne_eq, Nat.not_le, h0, z0', show ¬ 20 < s by omega, show s ≤ 20 by omega]
        exact back s 0 j0 S σ' (by omega) (by omega) k H (hg_bk0 I z0) _
      · have bit : ∀ j, (b ||| 2 ^ j0).testBit j = true ↔ b.testBit j = true ∨ j = j0 := fun j => by
          rw [bl_tb, Bool.or_eq_true, decide_eq_true_eq]
          exact ⟨fun z => z.elim Or.inl (fun w => Or.inr w.symm), fun z => z.elim Or.inl (fun w => Or.inr w.symm)⟩
        have hb' : b ||| 2 ^ j0 < 2 ^ 21 := Nat.or_lt_two_pow hb (Nat.pow_lt_pow_right (by omega) (by omega))
        have sj1 : 1 ≤ S j0 := by omega
        have sj2 := S10 j0 r2
        have bu := bd.1 (S j0) sj1 sj2
        have bw := bd.2.1
        have bwy : ∀ j, 1 ≤ j → j ≤ nv + np → -4000000000000000 ≤ hg_c nv t (S j0) j - u (S j0) - w j ∧ hg_c nv t (S j0) j - u (S j0) - w j ≤ 4000000000000000 := fun j j1 j2 => by
          have a := hC (S j0) j sj1 sj2 j1 j2
          have c := bw j j1 j2
          omega
        have bsl : ∀ j, 1 ≤ j → j ≤ nv + np → ¬ (b ||| 2 ^ j0).testBit j = true → -4000000000000000000 ≤ sl j ∧ sl j ≤ 4000000000000000000 := fun j j1 j2 j3 => by
          by_cases y : s = 0
          · rw [q2 y j j1 j2]; omega
          · obtain ⟨x1, x2, x3⟩ := q1 (by omega) j j1 j2 (fun z => j3 ((bit j).mpr (Or.inl z))) (fun z => j3 ((bit j).mpr (Or.inr z)))
            have y1 := r1 _ x1
            have y2 := S10 _ y1.1
            have a := hC (S (cf j)) j (by omega) y2 j1 j2
            have c := bw j j1 j2
            have d := bd.1 (S (cf j)) (by omega) y2
            omega
        simp (disch := first | exact zl_i | exact zl_r | exact zl_n | omega | exact zlen0 | exact zlen1 | exact zlen2 | exact zlen3 | exact zlen4 | exact zl_l | (unfold scF; omega) | (unfold scR; omega) | (simp only [zS_uf1, zS_uf2, zS_ur1, zS_ur2, Nat.reduceEqDiff, reduceIte, and_false, false_and, and_true, true_and, ite_true, ite_false]; done) | exact zl_n) only [Int.reduceToNat, Nat.reduceAdd, Nat.reduceMul, List.length_nil, List.length_cons, Nat.reduceLeDiff, Nat.zero_le, Option.toList_some, Option.toList_none, List.cons_append, List.nil_append, PW_nil, PW_goto, zl_i, zl_r, zl_n, PW_aload_0, PW_g136, PW_ld2, zLc, PX_c252, PW_g134, PW_k0, PW_iload_1, PW_is34, PW_is35, PW_istore_2, PW_istore_3, PW_istore_4, PW_iload_4, PW_k20, PW_ic_gt, PW_iload_2, PW_ia34, PW_ia35, PW_if_eq, PW_iload_3, PW_k1, PW_ishl, PW_ior, PX_c26, PX_c27, PW_istore_5, PW_iload_5, PW_la36, PX_c28, PW_iinc_4_p1, PW_g135, PW_ret_v zret_25, zb_25_2, zb_25_4, PK_app, n_l0, n_l1, n_l2, n_l3, n_l4, n_l5, n_l8, n_l9, n_l10, n_l15, n_l20, n_l31, n_l40, n_l48, n_l57, n_l59, n_l60, n_l70, n_l99, n_l100, n_l255, n_l601, n_l602, n_l1024, n_l1500, n_l2100, n_l2101, n_l65535, n_l100000, n_l1000000, n_l100000000, i_lt, nI_clamp, nI_leI, nI_eq, nI_1, nI_add, pk_mul, pk_sub, n_in, n_negle, n_legne, n_eqneg, n_negeq, n_nn, n_bit, n_shl1, n_or, zb_e0, zb_e1, zb_r, n_em, zb_T, zb_F, zS_uf1, zS_uf2, zS_ur1, zS_ur2, zS_ur3, zS_ul1, zS_ul2, zS_ul3, z_if0, z_if1, Int.reduceEq, Nat.reduceOr, Nat.or_zero, Nat.zero_or, Bool.false_eq_true, reduceCtorEq, nar0, nar1, nar_zb, eq_self, true_and, and_true, false_and, and_false, or_true, true_or, or_false, false_or, not_true_eq_false, not_false_eq_true, Classical.not_not, true_implies, false_implies, implies_true, iff_true, iff_self, ite_true, ite_false, Nat.reduceEqDiff, Nat.reduceLT, Nat.reduceSub, Nat.add_sub_cancel, Nat.reduceLeDiff, reduceIte, ne_eq, Nat.not_le, h0, z0, show ¬ 20 < s by omega, show s ≤ 20 by omega]
        refine look_w hnp hnv rfl hF' H hb' r2 sj1 (by omega) (fun j j1 j2 j3 => ?_) (fun σ1 k1 H1 => ?_)
        · have a := bwy j j1 j2
          have c := bsl j j1 j2 j3
          omega
        · simp (disch := first | exact zl_i | exact zl_r | exact zl_n | omega | exact zlen0 | exact zlen1 | exact zlen2 | exact zlen3 | exact zlen4 | exact zl_l | (unfold scF; omega) | (unfold scR; omega) | (simp only [zS_uf1, zS_uf2, zS_ur1, zS_ur2, Nat.reduceEqDiff, reduceIte, and_false, false_and, and_true, true_and, ite_true, ite_false]; done) | exact zl_n) only [Int.reduceToNat, Nat.reduceAdd, Nat.reduceMul, List.length_nil, List.length_cons, Nat.reduceLeDiff, Nat.zero_le, Option.toList_some, Option.toList_none, List.cons_append, List.nil_append, PW_nil, PW_goto, zl_i, zl_r, zl_n, PW_aload_0, PW_g136, PW_ld2, zLc, PX_c252, PW_g134, PW_k0, PW_iload_1, PW_is34, PW_is35, PW_istore_2, PW_istore_3, PW_istore_4, PW_iload_4, PW_k20, PW_ic_gt, PW_iload_2, PW_ia34, PW_ia35, PW_if_eq, PW_iload_3, PW_k1, PW_ishl, PW_ior, PX_c26, PX_c27, PW_istore_5, PW_iload_5, PW_la36, PX_c28, PW_iinc_4_p1, PW_g135, PW_ret_v zret_25, zb_25_2, zb_25_4, PK_app, n_l0, n_l1, n_l2, n_l3, n_l4, n_l5, n_l8, n_l9, n_l10, n_l15, n_l20, n_l31, n_l40, n_l48, n_l57, n_l59, n_l60, n_l70, n_l99, n_l100, n_l255, n_l601, n_l602, n_l1024, n_l1500, n_l2100, n_l2101, n_l65535, n_l100000, n_l1000000, n_l100000000, i_lt, nI_clamp, nI_leI, nI_eq, nI_1, nI_add, pk_mul, pk_sub, n_in, n_negle, n_legne, n_eqneg, n_negeq, n_nn, n_bit, n_shl1, n_or, zb_e0, zb_e1, zb_r, n_em, zb_T, zb_F, zS_uf1, zS_uf2, zS_ur1, zS_ur2, zS_ur3, zS_ul1, zS_ul2, zS_ul3, z_if0, z_if1, Int.reduceEq, Nat.reduceOr, Nat.or_zero, Nat.zero_or, Bool.false_eq_true, reduceCtorEq, nar0, nar1, nar_zb, eq_self, true_and, and_true, false_and, and_false, or_true, true_or, or_false, false_or, not_true_eq_false, not_false_eq_true, Classical.not_not, true_implies, false_implies, implies_true, iff_true, iff_self, ite_true, ite_false, Nat.reduceEqDiff, Nat.reduceLT, Nat.reduceSub, Nat.add_sub_cancel, Nat.reduceLeDiff, reduceIte, ne_eq, Nat.not_le, PK_app]
          have hF1 := clF_h hnp hF' k1
          have S1 : ∀ j, 1 ≤ j → j ≤ nv + np → ¬ (b ||| 2 ^ j0).testBit j = true → (hg_c nv t (S j0) j - u (S j0) - w j < sl j → lkS (b ||| 2 ^ j0) (fun j => hg_c nv t (S j0) j - u (S j0) - w j) sl (nv + np + 1) j = hg_c nv t (S j0) j - u (S j0) - w j ∧ lkC (b ||| 2 ^ j0) j0 (fun j => hg_c nv t (S j0) j - u (S j0) - w j) sl cf (nv + np + 1) j = j0) ∧ (¬ hg_c nv t (S j0) j - u (S j0) - w j < sl j → lkS (b ||| 2 ^ j0) (fun j => hg_c nv t (S j0) j - u (S j0) - w j) sl (nv + np + 1) j = sl j ∧ lkC (b ||| 2 ^ j0) j0 (fun j => hg_c nv t (S j0) j - u (S j0) - w j) sl cf (nv + np + 1) j = cf j) := fun j j1 j2 j3 =>
            ⟨fun y => ⟨cif_t ⟨j1, by omega, j3, y⟩, cif_t ⟨j1, by omega, j3, y⟩⟩, fun y => ⟨cif_f (fun z => y z.2.2.2), cif_f (fun z => y z.2.2.2)⟩⟩
          have C1 : ∀ j, (b.testBit j = true ∨ j = j0) → lkC (b ||| 2 ^ j0) j0 (fun j => hg_c nv t (S j0) j - u (S j0) - w j) sl cf (nv + np + 1) j = cf j := fun j hj => cif_f (fun z => z.2.2.1 ((bit j).mpr hj))
          generalize lkS (b ||| 2 ^ j0) (fun j => hg_c nv t (S j0) j - u (S j0) - w j) sl (nv + np + 1) = sl1 at *
          generalize lkC (b ||| 2 ^ j0) j0 (fun j => hg_c nv t (S j0) j - u (S j0) - w j) sl cf (nv + np + 1) = cf1 at *
          have bs1 : ∀ j, 1 ≤ j → j ≤ nv + np → ¬ (b ||| 2 ^ j0).testBit j = true → -5000000000000000000 ≤ sl1 j ∧ sl1 j ≤ 5000000000000000000 := fun j j1 j2 j3 => by
            have a := bwy j j1 j2
            have c := bsl j j1 j2 j3
            obtain ⟨x1, x2⟩ := S1 j j1 j2 j3
            by_cases y : hg_c nv t (S j0) j - u (S j0) - w j < sl j
            · rw [(x1 y).1]; omega
            · rw [(x2 y).1]; omega
          refine near_w hnp hnv rfl hF1 H1 hb' ⟨jf, g1, g2, fun z => ?_⟩ bs1 (fun j1 n1 n2 n3 n4 => ?_)
          · rcases (bit jf).mp z with y | y
            · exact (r1 jf y).2.1 g3
            · rw [y] at g3; exact z0 g3
          · have x3 := H1.2.2.1 j1 n2
            simp (disch := first | exact zl_i | exact zl_r | exact zl_n | omega | exact zlen0 | exact zlen1 | exact zlen2 | exact zlen3 | exact zlen4 | exact zl_l | (unfold scF; omega) | (unfold scR; omega) | (simp only [zS_uf1, zS_uf2, zS_ur1, zS_ur2, Nat.reduceEqDiff, reduceIte, and_false, false_and, and_true, true_and, ite_true, ite_false]; done) | exact zl_n) only [Int.reduceToNat, Nat.reduceAdd, Nat.reduceMul, List.length_nil, List.length_cons, Nat.reduceLeDiff, Nat.zero_le, Option.toList_some, Option.toList_none, List.cons_append, List.nil_append, PW_nil, PW_goto, zl_i, zl_r, zl_n, PW_aload_0, PW_g136, PW_ld2, zLc, PX_c252, PW_g134, PW_k0, PW_iload_1, PW_is34, PW_is35, PW_istore_2, PW_istore_3, PW_istore_4, PW_iload_4, PW_k20, PW_ic_gt, PW_iload_2, PW_ia34, PW_ia35, PW_if_eq, PW_iload_3, PW_k1, PW_ishl, PW_ior, PX_c26, PX_c27, PW_istore_5, PW_iload_5, PW_la36, PX_c28, PW_iinc_4_p1, PW_g135, PW_ret_v zret_25, zb_25_2, zb_25_4, PK_app, n_l0, n_l1, n_l2, n_l3, n_l4, n_l5, n_l8, n_l9, n_l10, n_l15, n_l20, n_l31, n_l40, n_l48, n_l57, n_l59, n_l60, n_l70, n_l99, n_l100, n_l255, n_l601, n_l602, n_l1024, n_l1500, n_l2100, n_l2101, n_l65535, n_l100000, n_l1000000, n_l100000000, i_lt, nI_clamp, nI_leI, nI_eq, nI_1, nI_add, pk_mul, pk_sub, n_in, n_negle, n_legne, n_eqneg, n_negeq, n_nn, n_bit, n_shl1, n_or, zb_e0, zb_e1, zb_r, n_em, zb_T, zb_F, zS_uf1, zS_uf2, zS_ur1, zS_ur2, zS_ur3, zS_ul1, zS_ul2, zS_ul3, z_if0, z_if1, Int.reduceEq, Nat.reduceOr, Nat.or_zero, Nat.zero_or, Bool.false_eq_true, reduceCtorEq, nar0, nar1, nar_zb, eq_self, true_and, and_true, false_and, and_false, or_true, true_or, or_false, false_or, not_true_eq_false, not_false_eq_true, Classical.not_not, true_implies, false_implies, implies_true, iff_true, iff_self, ite_true, ite_false, Nat.reduceEqDiff, Nat.reduceLT, Nat.reduceSub, Nat.add_sub_cancel, Nat.reduceLeDiff, reduceIte, ne_eq, Nat.not_le, PK_app, x3]
            have inS : ∀ r, r ≤ nv + np → (b ||| 2 ^ j0).testBit r = true → S r ≠ 0 := fun r _ hr => by
              rcases (bit r).mp hr with y | y
              · exact (r1 r y).2.1
              · rw [y]; exact z0
            have le_m : ∀ r, (b.testBit r = true ∨ r = j0) → r ≤ nv + np := fun r hr => by
              rcases hr with y | y
              · exact (r1 r y).1
              · rw [y]; exact r2
            refine pay_w hnp hnv rfl hF1 H1 hb' (fun r hr _ => Nat.le_trans (S10 r hr) (by omega)) (fun r q hr hq br bq e => ?_) (fun σ2 k2 H2 => ?_)
            · have nr := inS r hr br
              by_cases y : r = 0
              · by_cases x : q = 0
                · omega
                · have := i2 q (by omega) hq
                  rw [← e, y, i1] at this
                  omega
              · by_cases x : q = 0
                · have := i2 r (by omega) hr
                  rw [e, x, i1] at this
                  omega
                · exact i3 r q (by omega) hr (by omega) hq e nr
            · simp (disch := first | exact zl_i | exact zl_r | exact zl_n | omega | exact zlen0 | exact zlen1 | exact zlen2 | exact zlen3 | exact zlen4 | exact zl_l | (unfold scF; omega) | (unfold scR; omega) | (simp only [zS_uf1, zS_uf2, zS_ur1, zS_ur2, Nat.reduceEqDiff, reduceIte, and_false, false_and, and_true, true_and, ite_true, ite_false]; done) | exact zl_n) only [Int.reduceToNat, Nat.reduceAdd, Nat.reduceMul, List.length_nil, List.length_cons, Nat.reduceLeDiff, Nat.zero_le, Option.toList_some, Option.toList_none, List.cons_append, List.nil_append, PW_nil, PW_goto, zl_i, zl_r, zl_n, PW_aload_0, PW_g136, PW_ld2, zLc, PX_c252, PW_g134, PW_k0, PW_iload_1, PW_is34, PW_is35, PW_istore_2, PW_istore_3, PW_istore_4, PW_iload_4, PW_k20, PW_ic_gt, PW_iload_2, PW_ia34, PW_ia35, PW_if_eq, PW_iload_3, PW_k1, PW_ishl, PW_ior, PX_c26, PX_c27, PW_istore_5, PW_iload_5, PW_la36, PX_c28, PW_iinc_4_p1, PW_g135, PW_ret_v zret_25, zb_25_2, zb_25_4, PK_app, n_l0, n_l1, n_l2, n_l3, n_l4, n_l5, n_l8, n_l9, n_l10, n_l15, n_l20, n_l31, n_l40, n_l48, n_l57, n_l59, n_l60, n_l70, n_l99, n_l100, n_l255, n_l601, n_l602, n_l1024, n_l1500, n_l2100, n_l2101, n_l65535, n_l100000, n_l1000000, n_l100000000, i_lt, nI_clamp, nI_leI, nI_eq, nI_1, nI_add, pk_mul, pk_sub, n_in, n_negle, n_legne, n_eqneg, n_negeq, n_nn, n_bit, n_shl1, n_or, zb_e0, zb_e1, zb_r, n_em, zb_T, zb_F, zS_uf1, zS_uf2, zS_ur1, zS_ur2, zS_ur3, zS_ul1, zS_ul2, zS_ul3, z_if0, z_if1, Int.reduceEq, Nat.reduceOr, Nat.or_zero, Nat.zero_or, Bool.false_eq_true, reduceCtorEq, nar0, nar1, nar_zb, eq_self, true_and, and_true, false_and, and_false, or_true, true_or, or_false, false_or, not_true_eq_false, not_false_eq_true, Classical.not_not, true_implies, false_implies, implies_true, iff_true, iff_self, ite_true, ite_false, Nat.reduceEqDiff, Nat.reduceLT, Nat.reduceSub, Nat.add_sub_cancel, Nat.reduceLeDiff, reduceIte, ne_eq, Nat.not_le, PK_app]
              have st := hg_step (w' := pyW (b ||| 2 ^ j0) (sl1 j1) w (nv + np + 1)) (u' := pyU (b ||| 2 ^ j0) S (sl1 j1) u (nv + np + 1)) (sl' := pyS (b ||| 2 ^ j0) (sl1 j1) sl1 (nv + np + 1)) (cf1 := cf1) hm hC I z0 (fun j a1 a2 a3 a4 => S1 j a1 a2 (fun z => ((bit j).mp z).elim a3 a4)) C1 n1 n2 (fun z => n3 ((bit j1).mpr (Or.inl z))) (fun z => n3 ((bit j1).mpr (Or.inr z))) (fun j a1 a2 a3 a4 => n4 j a1 a2 (fun z => ((bit j).mp z).elim a3 a4))
                (fun r hr => cif_t ⟨r, by have := le_m r hr; omega, (bit r).mpr hr, rfl⟩) (fun i hi => cif_f (fun z => by
                  obtain ⟨r, z1, z2, z3⟩ := z
                  exact hi r ((bit r).mp z2) z3)) (fun j hj => cif_t ⟨by have := le_m j hj; omega, (bit j).mpr hj⟩) (fun j _ hj => cif_f (fun z => hj ((bit j).mp z.2))) (fun j a1 a2 a3 a4 => cif_t ⟨by omega, fun z => ((bit j).mp z).elim a3 a4⟩)
              have eR : (fun j => (b ||| 2 ^ j0).testBit j = true) = (fun j => b.testBit j = true ∨ j = j0) := funext fun j => propext (bit j)
              rw [← eR] at st
              exact ih (s + 1) (b ||| 2 ^ j0) j1 S cf1 _ _ _ _ σ2 (by omega) (hFr_t (hFr_t k k1) k2) H2 st hb' _
  rw [PC_25, zb_25_0]
  simp (disch := first | exact zl_i | exact zl_r | exact zl_n | omega | exact zlen0 | exact zlen1 | exact zlen2 | exact zlen3 | exact zlen4 | exact zl_l | (unfold scF; omega) | (unfold scR; omega) | (simp only [zS_uf1, zS_uf2, zS_ur1, zS_ur2, Nat.reduceEqDiff, reduceIte, and_false, false_and, and_true, true_and, ite_true, ite_false]; done) | exact zl_n) only [Int.reduceToNat, Nat.reduceAdd, Nat.reduceMul, List.length_nil, List.length_cons, Nat.reduceLeDiff, Nat.zero_le, Option.toList_some, Option.toList_none, List.cons_append, List.nil_append, PW_nil, PW_goto, zl_i, zl_r, zl_n, PW_aload_0, PW_g136, PW_ld2, zLc, PX_c252, PW_g134, PW_k0, PW_iload_1, PW_is34, PW_is35, PW_istore_2, PW_istore_3, PW_istore_4, PW_iload_4, PW_k20, PW_ic_gt, PW_iload_2, PW_ia34, PW_ia35, PW_if_eq, PW_iload_3, PW_k1, PW_ishl, PW_ior, PX_c26, PX_c27, PW_istore_5, PW_iload_5, PW_la36, PX_c28, PW_iinc_4_p1, PW_g135, PW_ret_v zret_25, zb_25_2, zb_25_4, PK_app, n_l0, n_l1, n_l2, n_l3, n_l4, n_l5, n_l8, n_l9, n_l10, n_l15, n_l20, n_l31, n_l40, n_l48, n_l57, n_l59, n_l60, n_l70, n_l99, n_l100, n_l255, n_l601, n_l602, n_l1024, n_l1500, n_l2100, n_l2101, n_l65535, n_l100000, n_l1000000, n_l100000000, i_lt, nI_clamp, nI_leI, nI_eq, nI_1, nI_add, pk_mul, pk_sub, n_in, n_negle, n_legne, n_eqneg, n_negeq, n_nn, n_bit, n_shl1, n_or, zb_e0, zb_e1, zb_r, n_em, zb_T, zb_F, zS_uf1, zS_uf2, zS_ur1, zS_ur2, zS_ur3, zS_ul1, zS_ul2, zS_ul3, z_if0, z_if1, Int.reduceEq, Nat.reduceOr, Nat.or_zero, Nat.zero_or, Bool.false_eq_true, reduceCtorEq, nar0, nar1, nar_zb, eq_self, true_and, and_true, false_and, and_false, or_true, true_or, or_false, false_or, not_true_eq_false, not_false_eq_true, Classical.not_not, true_implies, false_implies, implies_true, iff_true, iff_self, ite_true, ite_false, Nat.reduceEqDiff, Nat.reduceLT, Nat.reduceSub, Nat.add_sub_cancel, Nat.reduceLeDiff, reduceIte, ne_eq, Nat.not_le, sp_fillL za_36]
  have hcf : ∀ j, ∃ c : Nat, σ.2.1 35 j = nI c := fun j => n_any _
  have start := hg_start (S' := fun j => if j = 0 then n + 1 else S j) (cf := fun j => Classical.choose (hcf j)) (sl := fun _ => 4000000000000000000) (show n < 10 by omega) ho (if_pos rfl) (fun j j1 _ => if_neg (by omega)) (fun _ _ _ => rfl)
  have eR : (fun j => (0 : Nat).testBit j = true) = (fun _ => False) := funext fun j => propext ⟨fun z => absurd z (by rw [Nat.zero_testBit]; decide), False.elim⟩
  rw [← eR] at start
  refine main (nv + np + 1) 0 0 0 _ _ _ w u (fun _ => 4000000000000000000) (zur (zul σ 36 (ffL (σ.2.2 36) 21 4000000000000000000)) 34 (upd (σ.2.1 34) 0 (nI (n + 1)))) (by omega) (hFr_t hFr_ul (hFr_ur (Or.inl rfl))) ⟨fun j hj => ?_, fun j hj => Classical.choose_spec (hcf j), fun j hj => (if_pos (show j < 21 by omega) : ffL (σ.2.2 36) 21 4000000000000000000 j = 4000000000000000000).trans jl18, h37, h38⟩ start (by omega) _
  by_cases z : j = 0
  · subst z
    exact (pk_us (f := σ.2.1 34) (k := 0) (x := nI (n + 1))).trans (by rw [if_pos rfl])
  · exact (pk_un (f := σ.2.1 34) (k := 0) (x := nI (n + 1)) z).trans (by rw [if_neg z]; exact h34 j hj)
theorem best2_w {np nv : Nat} {t : Nat → Nat → Nat} {rk : Nat → Nat} (hnp : np ≤ 10) (hnv : nv ≤ 10) (ht : ∀ p v, t p v ≤ 99) (hF : clF σ np nv t rk) (h32 : ∀ p, p < np → σ.2.1 32 p = -nI 1)
    (hQ : ∀ r S, Fr σ S → clF S np nv t rk → bl_best np nv t r → (∀ p, p < np → S.2.1 32 p = vo (-nI 1) (r p)) → Q none S) : PC sc 24 [.ref 2] σ Q := by
  have one : ∀ e n S w u σ', n + e = np → hFr σ σ' → (∀ j, j ≤ nv + np → σ'.2.1 34 j = nI (S j)) → (∀ j, j ≤ nv + np → σ'.2.2 37 j = jI (w j)) → (∀ i, i ≤ 10 → σ'.2.2 38 i = jI (u i)) → hg_out (nv + np) n (hg_c nv t) S w u → PW sc 24 (zblk 24 1) 2 [some (.ref 2), some (.int (nI (n + 1)))] [] (σ') Q := by
    intro e
    induction e with
    | zero =>
      intro n S w u σ' hne k H34 H37 H38 ho
      rw [show n = np by omega] at ho ⊢
      have hF' := clF_h hnp hF k
      have bb := hg_best hnp hnv ht ho.1
      have sb := ho.1
      obtain ⟨b1, b2, b3, -⟩ := sb
      have hs : ∀ p, p < np → 1 ≤ hg_s (nv + np) S p ∧ hg_s (nv + np) S p ≤ nv + np ∧ S (hg_s (nv + np) S p) = p + 1 := by
        intro p hp
        obtain ⟨j, j1, j2, j3⟩ := b3 (p + 1) (by omega) (by omega)
        have hl : fst (fun j => S (j + 1) = p + 1) (nv + np) < nv + np := fst_lt.mpr ⟨j - 1, by omega, by show S (j - 1 + 1) = p + 1; rw [show j - 1 + 1 = j by omega]; exact j3⟩
        have := (fst_spec (c := fun j => S (j + 1) = p + 1) (nv + np)).2 hl
        unfold hg_s
        exact ⟨by omega, by omega, this⟩
      have give : ∀ e i, i + e = nv + 1 → 1 ≤ i → ∀ f g, (∀ p, p < np → f p = cif (hg_s (nv + np) S p < i ∧ hg_s (nv + np) S p ≤ nv) (nI (hg_s (nv + np) S p - 1)) (-nI 1)) → PW sc 24 (zblk 24 3) 4 [some (.ref 2), some (.int (nI i))] [] (zur (zur σ' 32 f) 33 g) Q := by
        intro e
        induction e with
        | zero =>
          intro i hi i1 f g P
          rw [show i = nv + 1 by omega] at P ⊢
          rw [zb_24_3]
          simp (disch := first | exact zl_i | exact zl_r | exact zl_n | omega | exact zlen0 | exact zlen1 | exact zlen2 | exact zlen3 | exact zlen4 | exact zl_l | (unfold scF; omega) | (unfold scR; omega) | (simp only [zS_uf1, zS_uf2, zS_ur1, zS_ur2, Nat.reduceEqDiff, reduceIte, and_false, false_and, and_true, true_and, ite_true, ite_false]; done) | exact zl_n) only [Int.reduceToNat, Nat.reduceAdd, Nat.reduceMul, List.length_nil, List.length_cons, Nat.reduceLeDiff, Nat.zero_le, Option.toList_some, Option.toList_none, List.cons_append, List.nil_append, PW_nil, PW_goto, zl_i, zl_r, zl_n, PW_aload_0, PW_g134, PW_k0, PX_c253, PW_g137, PW_lconst0, PX_c252, PW_g138, PW_k1, PW_istore_1, PW_iload_1, PW_g128, PW_ic_gt, PX_c25, PW_iinc_1_p1, PW_g129, PW_iar21, PW_ia34, PW_if_le, PW_g131, PW_isub, PW_aa21, PX_c22, PW_ret_v zret_24, zb_24_2, zb_24_4, zb_24_5, PK_app, n_l0, n_l1, n_l2, n_l3, n_l4, n_l5, n_l8, n_l9, n_l10, n_l15, n_l20, n_l31, n_l40, n_l48, n_l57, n_l59, n_l60, n_l70, n_l99, n_l100, n_l255, n_l601, n_l602, n_l1024, n_l1500, n_l2100, n_l2101, n_l65535, n_l100000, n_l1000000, n_l100000000, i_lt, nI_clamp, nI_leI, nI_eq, nI_1, nI_add, pk_mul, pk_sub, n_in, n_negle, n_legne, n_eqneg, n_negeq, n_nn, n_bit, n_shl1, n_or, zb_e0, zb_e1, zb_r, n_em, zb_T, zb_F, zS_uf1, zS_uf2, zS_ur1, zS_ur2, zS_ur3, zS_ul1, zS_ul2, zS_ul3, z_if0, z_if1, Int.reduceEq, Nat.reduceOr, Nat.or_zero, Nat.zero_or, Bool.false_eq_true, reduceCtorEq, nar0, nar1, nar_zb, eq_self, true_and, and_true, false_and, and_false, or_true, true_or, or_false, false_or, not_true_eq_false, not_false_eq_true, Classical.not_not, true_implies, false_implies, implies_true, iff_true, iff_self, ite_true, ite_false, Nat.reduceEqDiff, Nat.reduceLT, Nat.reduceSub, Nat.add_sub_cancel, Nat.reduceLeDiff, reduceIte, ne_eq, Nat.not_le, hF'.2.1, show ¬ nv + 1 ≤ nv by omega]
          refine hQ (hg_r (nv + np) nv S) _ (((hFr_Fr k).ur (by unfold scR; omega)).ur (by unfold scR; omega)) ?_ bb (fun p hp => ?_)
          · obtain ⟨c1, c2, c3, c4⟩ := hF'
            refine ⟨c1, c2, c3, fun p hp v hv => ?_⟩
            rw [zS_ur2, if_neg (by omega), zS_ur2, if_neg (by omega)]
            exact c4 p hp v hv
          · have e := P p hp
            show f p = _
            rw [e]
            unfold hg_r
            by_cases z : hg_s (nv + np) S p ≤ nv
            · rw [if_pos z, cif_t ⟨by omega, z⟩, vo_s (by omega)]
            · rw [if_neg z, cif_f (fun y => z y.2), vo_n]
        | succ e ih =>
          intro i hi i1 f g P
          have him : i ≤ nv := by omega
          have h34 := H34 i (by omega)
          have sle := b1 i i1 (by omega)
          have keep : (∀ p, p < np → hg_s (nv + np) S p ≠ i) → ∀ p, p < np → f p = cif (hg_s (nv + np) S p < i + 1 ∧ hg_s (nv + np) S p ≤ nv) (nI (hg_s (nv + np) S p - 1)) (-nI 1) := fun z p hp => by
            rw [P p hp, lk_d (z p hp)]
          rw [zb_24_3]
          by_cases z0 : S i = 0
          · have z0' : S i ≤ 0 := by omega
            simp (disch := first | exact zl_i | exact zl_r | exact zl_n | omega | exact zlen0 | exact zlen1 | exact zlen2 | exact zlen3 | exact zlen4 | exact zl_l | (unfold scF; omega) | (unfold scR; omega) | (simp only [zS_uf1, zS_uf2, zS_ur1, zS_ur2, Nat.reduceEqDiff, reduceIte, and_false, false_and, and_true, true_and, ite_true, ite_false]; done) | exact zl_n) only [Int.reduceToNat, Nat.reduceAdd, Nat.reduceMul, List.length_nil, List.length_cons, Nat.reduceLeDiff, Nat.zero_le, Option.toList_some, Option.toList_none, List.cons_append, List.nil_append, PW_nil, PW_goto, zl_i, zl_r, zl_n, PW_aload_0, PW_g134, PW_k0, PX_c253, PW_g137, PW_lconst0, PX_c252, PW_g138, PW_k1, PW_istore_1, PW_iload_1, PW_g128, PW_ic_gt, PX_c25, PW_iinc_1_p1, PW_g129, PW_iar21, PW_ia34, PW_if_le, PW_g131, PW_isub, PW_aa21, PX_c22, PW_ret_v zret_24, zb_24_2, zb_24_4, zb_24_5, PK_app, n_l0, n_l1, n_l2, n_l3, n_l4, n_l5, n_l8, n_l9, n_l10, n_l15, n_l20, n_l31, n_l40, n_l48, n_l57, n_l59, n_l60, n_l70, n_l99, n_l100, n_l255, n_l601, n_l602, n_l1024, n_l1500, n_l2100, n_l2101, n_l65535, n_l100000, n_l1000000, n_l100000000, i_lt, nI_clamp, nI_leI, nI_eq, nI_1, nI_add, pk_mul, pk_sub, n_in, n_negle, n_legne, n_eqneg, n_negeq, n_nn, n_bit, n_shl1, n_or, zb_e0, zb_e1, zb_r, n_em, zb_T, zb_F, zS_uf1, zS_uf2, zS_ur1, zS_ur2, zS_ur3, zS_ul1, zS_ul2, zS_ul3, z_if0, z_if1, Int.reduceEq, Nat.reduceOr, Nat.or_zero, Nat.zero_or, Bool.false_eq_true, reduceCtorEq, nar0, nar1, nar_zb, eq_self, true_and, and_true, false_and, and_false, or_true, true_or, or_false, false_or, not_true_eq_false, not_false_eq_true, Classical.not_not, true_implies, false_implies, implies_true, iff_true, iff_self, ite_true, ite_false, Nat.reduceEqDiff, Nat.reduceLT, Nat.reduceSub, Nat.add_sub_cancel, Nat.reduceLeDiff, reduceIte, ne_eq, Nat.not_le, hF'.2.1, him, h34, z0']
            exact ih (i + 1) (by omega) (by omega) f g (keep (fun p hp y => by
              have := (hs p hp).2.2
              rw [y, z0] at this
              omega))
          · have hp : S i - 1 < np := by omega
            obtain ⟨s1, s2, s3⟩ := hs (S i - 1) hp
            have es : hg_s (nv + np) S (S i - 1) = i := b2 _ i s1 s2 i1 (by omega) (by rw [s3]; omega) (by rw [s3]; omega)
            have er : hg_r (nv + np) nv S (S i - 1) = i - 1 := by
              unfold hg_r
              rw [es, if_pos him]
            have ok := bb.1.1 (S i - 1) hp
            rw [er] at ok
            have tp : 0 < t (S i - 1) (i - 1) := by
              rcases ok with y | y
              · omega
              · exact y.2
            obtain ⟨c1, c2⟩ := hF'.2.2.2 (S i - 1) hp (i - 1) (by omega)
            simp (disch := first | exact zl_i | exact zl_r | exact zl_n | omega | exact zlen0 | exact zlen1 | exact zlen2 | exact zlen3 | exact zlen4 | exact zl_l | (unfold scF; omega) | (unfold scR; omega) | (simp only [zS_uf1, zS_uf2, zS_ur1, zS_ur2, Nat.reduceEqDiff, reduceIte, and_false, false_and, and_true, true_and, ite_true, ite_false]; done) | exact zl_n) only [Int.reduceToNat, Nat.reduceAdd, Nat.reduceMul, List.length_nil, List.length_cons, Nat.reduceLeDiff, Nat.zero_le, Option.toList_some, Option.toList_none, List.cons_append, List.nil_append, PW_nil, PW_goto, zl_i, zl_r, zl_n, PW_aload_0, PW_g134, PW_k0, PX_c253, PW_g137, PW_lconst0, PX_c252, PW_g138, PW_k1, PW_istore_1, PW_iload_1, PW_g128, PW_ic_gt, PX_c25, PW_iinc_1_p1, PW_g129, PW_iar21, PW_ia34, PW_if_le, PW_g131, PW_isub, PW_aa21, PX_c22, PW_ret_v zret_24, zb_24_2, zb_24_4, zb_24_5, PK_app, n_l0, n_l1, n_l2, n_l3, n_l4, n_l5, n_l8, n_l9, n_l10, n_l15, n_l20, n_l31, n_l40, n_l48, n_l57, n_l59, n_l60, n_l70, n_l99, n_l100, n_l255, n_l601, n_l602, n_l1024, n_l1500, n_l2100, n_l2101, n_l65535, n_l100000, n_l1000000, n_l100000000, i_lt, nI_clamp, nI_leI, nI_eq, nI_1, nI_add, pk_mul, pk_sub, n_in, n_negle, n_legne, n_eqneg, n_negeq, n_nn, n_bit, n_shl1, n_or, zb_e0, zb_e1, zb_r, n_em, zb_T, zb_F, zS_uf1, zS_uf2, zS_ur1, zS_ur2, zS_ur3, zS_ul1, zS_ul2, zS_ul3, z_if0, z_if1, Int.reduceEq, Nat.reduceOr, Nat.or_zero, Nat.zero_or, Bool.false_eq_true, reduceCtorEq, nar0, nar1, nar_zb, eq_self, true_and, and_true, false_and, and_false, or_true, true_or, or_false, false_or, not_true_eq_false, not_false_eq_true, Classical.not_not, true_implies, false_implies, implies_true, iff_true, iff_self, ite_true, ite_false, Nat.reduceEqDiff, Nat.reduceLT, Nat.reduceSub, Nat.add_sub_cancel, Nat.reduceLeDiff, reduceIte, ne_eq, Nat.not_le, hF'.2.1, him, h34, show ¬ S i ≤ 0 by omega, PW_aa21, c1, show ¬ t (S i - 1) (i - 1) ≤ 0 by omega, PC_22, zb_22_0, Int.reduceToNat, Nat.reduceAdd, Nat.reduceMul, List.length_nil, List.length_cons, Nat.reduceLeDiff, Nat.zero_le, Option.toList_some, Option.toList_none, List.cons_append, List.nil_append, PW_nil, PW_goto, zl_i, zl_r, zl_n, PW_aload_0, PW_g132, PW_iload_1, PW_iload_2, PW_is32, PW_is33, PW_g133, PW_ret_v zret_22, PK_app, zur_same, zur_sw]
            refine ih (i + 1) (by omega) (by omega) _ _ (fun p hp2 => ?_)
            by_cases y : p = S i - 1
            · subst y
              rw [pk_us, es, cif_t ⟨by omega, him⟩]
            · rw [pk_un y, P p hp2, lk_d (fun x => by
                have := (hs p hp2).2.2
                rw [x] at this
                omega)]
      rw [zb_24_1]
      simp (disch := first | exact zl_i | exact zl_r | exact zl_n | omega | exact zlen0 | exact zlen1 | exact zlen2 | exact zlen3 | exact zlen4 | exact zl_l | (unfold scF; omega) | (unfold scR; omega) | (simp only [zS_uf1, zS_uf2, zS_ur1, zS_ur2, Nat.reduceEqDiff, reduceIte, and_false, false_and, and_true, true_and, ite_true, ite_false]; done) | exact zl_n) only [Int.reduceToNat, Nat.reduceAdd, Nat.reduceMul, List.length_nil, List.length_cons, Nat.reduceLeDiff, Nat.zero_le, Option.toList_some, Option.toList_none, List.cons_append, List.nil_append, PW_nil, PW_goto, zl_i, zl_r, zl_n, PW_aload_0, PW_g134, PW_k0, PX_c253, PW_g137, PW_lconst0, PX_c252, PW_g138, PW_k1, PW_istore_1, PW_iload_1, PW_g128, PW_ic_gt, PX_c25, PW_iinc_1_p1, PW_g129, PW_iar21, PW_ia34, PW_if_le, PW_g131, PW_isub, PW_aa21, PX_c22, PW_ret_v zret_24, zb_24_2, zb_24_4, zb_24_5, PK_app, n_l0, n_l1, n_l2, n_l3, n_l4, n_l5, n_l8, n_l9, n_l10, n_l15, n_l20, n_l31, n_l40, n_l48, n_l57, n_l59, n_l60, n_l70, n_l99, n_l100, n_l255, n_l601, n_l602, n_l1024, n_l1500, n_l2100, n_l2101, n_l65535, n_l100000, n_l1000000, n_l100000000, i_lt, nI_clamp, nI_leI, nI_eq, nI_1, nI_add, pk_mul, pk_sub, n_in, n_negle, n_legne, n_eqneg, n_negeq, n_nn, n_bit, n_shl1, n_or, zb_e0, zb_e1, zb_r, n_em, zb_T, zb_F, zS_uf1, zS_uf2, zS_ur1, zS_ur2, zS_ur3, zS_ul1, zS_ul2, zS_ul3, z_if0, z_if1, Int.reduceEq, Nat.reduceOr, Nat.or_zero, Nat.zero_or, Bool.false_eq_true, reduceCtorEq, nar0, nar1, nar_zb, eq_self, true_and, and_true, false_and, and_false, or_true, true_or, or_false, false_or, not_true_eq_false, not_false_eq_true, Classical.not_not, true_implies, false_implies, implies_true, iff_true, iff_self, ite_true, ite_false, Nat.reduceEqDiff, Nat.reduceLT, Nat.reduceSub, Nat.add_sub_cancel, Nat.reduceLeDiff, reduceIte, ne_eq, Nat.not_le, hF'.1, show ¬ np + 1 ≤ np by omega]
      have e := give nv 1 (by omega) (Nat.le_refl _) (σ'.2.1 32) (σ'.2.1 33) (fun p hp => by
        have := (hs p hp).1
        rw [k.2 32 (by omega), h32 p hp, cif_f (fun z => by omega)])
      have ez : zur (zur σ' 32 (σ'.2.1 32)) 33 (σ'.2.1 33) = σ' := by
        rw [zur_id]
        exact zur_id
      rw [ez] at e
      exact e
    | succ e ih =>
      intro n S w u σ' hne k H34 H37 H38 ho
      have hF' := clF_h hnp hF k
      rw [zb_24_1]
      simp (disch := first | exact zl_i | exact zl_r | exact zl_n | omega | exact zlen0 | exact zlen1 | exact zlen2 | exact zlen3 | exact zlen4 | exact zl_l | (unfold scF; omega) | (unfold scR; omega) | (simp only [zS_uf1, zS_uf2, zS_ur1, zS_ur2, Nat.reduceEqDiff, reduceIte, and_false, false_and, and_true, true_and, ite_true, ite_false]; done) | exact zl_n) only [Int.reduceToNat, Nat.reduceAdd, Nat.reduceMul, List.length_nil, List.length_cons, Nat.reduceLeDiff, Nat.zero_le, Option.toList_some, Option.toList_none, List.cons_append, List.nil_append, PW_nil, PW_goto, zl_i, zl_r, zl_n, PW_aload_0, PW_g134, PW_k0, PX_c253, PW_g137, PW_lconst0, PX_c252, PW_g138, PW_k1, PW_istore_1, PW_iload_1, PW_g128, PW_ic_gt, PX_c25, PW_iinc_1_p1, PW_g129, PW_iar21, PW_ia34, PW_if_le, PW_g131, PW_isub, PW_aa21, PX_c22, PW_ret_v zret_24, zb_24_2, zb_24_4, zb_24_5, PK_app, n_l0, n_l1, n_l2, n_l3, n_l4, n_l5, n_l8, n_l9, n_l10, n_l15, n_l20, n_l31, n_l40, n_l48, n_l57, n_l59, n_l60, n_l70, n_l99, n_l100, n_l255, n_l601, n_l602, n_l1024, n_l1500, n_l2100, n_l2101, n_l65535, n_l100000, n_l1000000, n_l100000000, i_lt, nI_clamp, nI_leI, nI_eq, nI_1, nI_add, pk_mul, pk_sub, n_in, n_negle, n_legne, n_eqneg, n_negeq, n_nn, n_bit, n_shl1, n_or, zb_e0, zb_e1, zb_r, n_em, zb_T, zb_F, zS_uf1, zS_uf2, zS_ur1, zS_ur2, zS_ur3, zS_ul1, zS_ul2, zS_ul3, z_if0, z_if1, Int.reduceEq, Nat.reduceOr, Nat.or_zero, Nat.zero_or, Bool.false_eq_true, reduceCtorEq, nar0, nar1, nar_zb, eq_self, true_and, and_true, false_and, and_false, or_true, true_or, or_false, false_or, not_true_eq_false, not_false_eq_true, Classical.not_not, true_implies, false_implies, implies_true, iff_true, iff_self, ite_true, ite_false, Nat.reduceEqDiff, Nat.reduceLT, Nat.reduceSub, Nat.add_sub_cancel, Nat.reduceLeDiff, reduceIte, ne_eq, Nat.not_le, hF'.1, show n + 1 ≤ np by omega]
      refine seat_w hnp hnv ht (by omega) hF' H34 H37 H38 ho (fun σ2 S' cf w' u' sl k2 H2 ho2 => ?_)
      simp (disch := first | exact zl_i | exact zl_r | exact zl_n | omega | exact zlen0 | exact zlen1 | exact zlen2 | exact zlen3 | exact zlen4 | exact zl_l | (unfold scF; omega) | (unfold scR; omega) | (simp only [zS_uf1, zS_uf2, zS_ur1, zS_ur2, Nat.reduceEqDiff, reduceIte, and_false, false_and, and_true, true_and, ite_true, ite_false]; done) | exact zl_n) only [Int.reduceToNat, Nat.reduceAdd, Nat.reduceMul, List.length_nil, List.length_cons, Nat.reduceLeDiff, Nat.zero_le, Option.toList_some, Option.toList_none, List.cons_append, List.nil_append, PW_nil, PW_goto, zl_i, zl_r, zl_n, PW_aload_0, PW_g134, PW_k0, PX_c253, PW_g137, PW_lconst0, PX_c252, PW_g138, PW_k1, PW_istore_1, PW_iload_1, PW_g128, PW_ic_gt, PX_c25, PW_iinc_1_p1, PW_g129, PW_iar21, PW_ia34, PW_if_le, PW_g131, PW_isub, PW_aa21, PX_c22, PW_ret_v zret_24, zb_24_2, zb_24_4, zb_24_5, PK_app, n_l0, n_l1, n_l2, n_l3, n_l4, n_l5, n_l8, n_l9, n_l10, n_l15, n_l20, n_l31, n_l40, n_l48, n_l57, n_l59, n_l60, n_l70, n_l99, n_l100, n_l255, n_l601, n_l602, n_l1024, n_l1500, n_l2100, n_l2101, n_l65535, n_l100000, n_l1000000, n_l100000000, i_lt, nI_clamp, nI_leI, nI_eq, nI_1, nI_add, pk_mul, pk_sub, n_in, n_negle, n_legne, n_eqneg, n_negeq, n_nn, n_bit, n_shl1, n_or, zb_e0, zb_e1, zb_r, n_em, zb_T, zb_F, zS_uf1, zS_uf2, zS_ur1, zS_ur2, zS_ur3, zS_ul1, zS_ul2, zS_ul3, z_if0, z_if1, Int.reduceEq, Nat.reduceOr, Nat.or_zero, Nat.zero_or, Bool.false_eq_true, reduceCtorEq, nar0, nar1, nar_zb, eq_self, true_and, and_true, false_and, and_false, or_true, true_or, or_false, false_or, not_true_eq_false, not_false_eq_true, Classical.not_not, true_implies, false_implies, implies_true, iff_true, iff_self, ite_true, ite_false, Nat.reduceEqDiff, Nat.reduceLT, Nat.reduceSub, Nat.add_sub_cancel, Nat.reduceLeDiff, reduceIte, ne_eq, Nat.not_le, PK_app]
      exact ih (n + 1) S' w' u' σ2 (by omega) (hFr_t k k2) H2.1 H2.2.2.2.1 H2.2.2.2.2 ho2
  rw [PC_24, zb_24_0]
  simp (disch := first | exact zl_i | exact zl_r | exact zl_n | omega | exact zlen0 | exact zlen1 | exact zlen2 | exact zlen3 | exact zlen4 | exact zl_l | (unfold scF; omega) | (unfold scR; omega) | (simp only [zS_uf1, zS_uf2, zS_ur1, zS_ur2, Nat.reduceEqDiff, reduceIte, and_false, false_and, and_true, true_and, ite_true, ite_false]; done) | exact zl_n) only [Int.reduceToNat, Nat.reduceAdd, Nat.reduceMul, List.length_nil, List.length_cons, Nat.reduceLeDiff, Nat.zero_le, Option.toList_some, Option.toList_none, List.cons_append, List.nil_append, PW_nil, PW_goto, zl_i, zl_r, zl_n, PW_aload_0, PW_g134, PW_k0, PX_c253, PW_g137, PW_lconst0, PX_c252, PW_g138, PW_k1, PW_istore_1, PW_iload_1, PW_g128, PW_ic_gt, PX_c25, PW_iinc_1_p1, PW_g129, PW_iar21, PW_ia34, PW_if_le, PW_g131, PW_isub, PW_aa21, PX_c22, PW_ret_v zret_24, zb_24_2, zb_24_4, zb_24_5, PK_app, n_l0, n_l1, n_l2, n_l3, n_l4, n_l5, n_l8, n_l9, n_l10, n_l15, n_l20, n_l31, n_l40, n_l48, n_l57, n_l59, n_l60, n_l70, n_l99, n_l100, n_l255, n_l601, n_l602, n_l1024, n_l1500, n_l2100, n_l2101, n_l65535, n_l100000, n_l1000000, n_l100000000, i_lt, nI_clamp, nI_leI, nI_eq, nI_1, nI_add, pk_mul, pk_sub, n_in, n_negle, n_legne, n_eqneg, n_negeq, n_nn, n_bit, n_shl1, n_or, zb_e0, zb_e1, zb_r, n_em, zb_T, zb_F, zS_uf1, zS_uf2, zS_ur1, zS_ur2, zS_ur3, zS_ul1, zS_ul2, zS_ul3, z_if0, z_if1, Int.reduceEq, Nat.reduceOr, Nat.or_zero, Nat.zero_or, Bool.false_eq_true, reduceCtorEq, nar0, nar1, nar_zb, eq_self, true_and, and_true, false_and, and_false, or_true, true_or, or_false, false_or, not_true_eq_false, not_false_eq_true, Classical.not_not, true_implies, false_implies, implies_true, iff_true, iff_self, ite_true, ite_false, Nat.reduceEqDiff, Nat.reduceLT, Nat.reduceSub, Nat.add_sub_cancel, Nat.reduceLeDiff, reduceIte, ne_eq, Nat.not_le, sp_fill za_34, sp_fillL za_37, sp_fillL za_38, jl0]
  refine one np 0 (fun _ => 0) (fun _ => 0) (fun _ => 0) _ (Nat.zero_add np) (hFr_t (hFr_t (hFr_ur (Or.inl rfl)) hFr_ul) hFr_ul) (fun j hj => if_pos (by omega)) (fun j hj => if_pos (by omega)) (fun j hj => if_pos (by omega)) ⟨⟨fun _ _ _ => Nat.zero_le _, fun _ _ _ _ _ _ _ n => absurd rfl n, fun i h1 h2 => by omega, fun i j h1 h2 => by omega, fun _ _ _ n => absurd rfl n, fun _ _ _ => Int.le_refl _, fun _ _ _ _ => rfl, cnt_no (fun _ _ n => n rfl)⟩, fun _ _ _ => rfl, by show -(((0 : Nat) : Int) * 1000000000000000) ≤ 0; omega, by show (0 : Int) ≤ ((0 : Nat) : Int) * 1000000000000000; omega⟩
theorem sp_sumOf {np nv : Nat} {t : Nat → Nat → Nat} {rk r : Nat → Nat} (hnp : np ≤ 10) (hnv : nv ≤ 10) (hF : clF σ np nv t rk) (hr : bl_ok np nv t r) (h32 : ∀ p, p < np → σ.2.1 32 p = vo (-nI 1) (r p)) : PC sc 23 [.ref 2] σ Q ↔ Q (some (.int (nI (bl_sum t r np)))) σ := by
  obtain ⟨f1, f2, f3, f4⟩ := hF
  rw [PC_23, zb_23_0]
  simp (disch := first | exact zl_i | exact zl_r | exact zl_n | omega | exact zlen0 | exact zlen1 | exact zlen2 | exact zlen3 | exact zlen4 | exact zl_l | (unfold scF; omega) | (unfold scR; omega) | (simp only [zS_uf1, zS_uf2, zS_ur1, zS_ur2, Nat.reduceEqDiff, reduceIte, and_false, false_and, and_true, true_and, ite_true, ite_false]; done) | exact zl_n) only [Int.reduceToNat, Nat.reduceAdd, Nat.reduceMul, List.length_nil, List.length_cons, Nat.reduceLeDiff, Nat.zero_le, Option.toList_some, Option.toList_none, List.cons_append, List.nil_append, PW_nil, PW_goto, zl_i, zl_r, zl_n, PW_k0, PW_istore_1, PW_istore_2, PW_iload_2, PW_aload_0, PW_g128, PW_ic_ge, PW_g132, PW_iar21, PW_ia32, PW_if_lt, PW_iload_1, PW_g131, PW_aa21, PW_iadd, PW_iinc_2_p1, PW_ret_i zret_23, zb_23_2, zb_23_3, PK_app, n_l0, n_l1, n_l2, n_l3, n_l4, n_l5, n_l8, n_l9, n_l10, n_l15, n_l20, n_l31, n_l40, n_l48, n_l57, n_l59, n_l60, n_l70, n_l99, n_l100, n_l255, n_l601, n_l602, n_l1024, n_l1500, n_l2100, n_l2101, n_l65535, n_l100000, n_l1000000, n_l100000000, i_lt, nI_clamp, nI_leI, nI_eq, nI_1, nI_add, pk_mul, pk_sub, n_in, n_negle, n_legne, n_eqneg, n_negeq, n_nn, n_bit, n_shl1, n_or, zb_e0, zb_e1, zb_r, n_em, zb_T, zb_F, zS_uf1, zS_uf2, zS_ur1, zS_ur2, zS_ur3, zS_ul1, zS_ul2, zS_ul3, z_if0, z_if1, Int.reduceEq, Nat.reduceOr, Nat.or_zero, Nat.zero_or, Bool.false_eq_true, reduceCtorEq, nar0, nar1, nar_zb, eq_self, true_and, and_true, false_and, and_false, or_true, true_or, or_false, false_or, not_true_eq_false, not_false_eq_true, Classical.not_not, true_implies, false_implies, implies_true, iff_true, iff_self, ite_true, ite_false, Nat.reduceEqDiff, Nat.reduceLT, Nat.reduceSub, Nat.add_sub_cancel, Nat.reduceLeDiff, reduceIte, ne_eq, Nat.not_le]
  have sb : ∀ i, i ≤ np → bl_sum t r i ≤ i * 99 := by
    intro i
    induction i with
    | zero => intro _; exact Nat.le_refl _
    | succ i ih =>
      intro hi
      have := ih (by omega)
      show bl_sum t r i + bl_val t i (r i) ≤ _
      have hv : bl_val t i (r i) ≤ 99 := by
        unfold bl_val
        rcases hr.1 i (by omega) with z | z
        · rw [if_pos z]; omega
        · have := (f4 i (by omega) (r i) z.1).2
          split <;> omega
      omega
  refine ((lp_all np (fun i => PW sc 23 (zblk 23 1) 2 [some (.ref 2), some (.int (nI (bl_sum t r i))), some (.int (nI i))] [] (σ) Q) (fun i hi => ?_)).trans ?_)
  · conv => lhs; rw [zb_23_1]
    have h := h32 i hi
    have es : bl_sum t r (i + 1) = bl_sum t r i + bl_val t i (r i) := rfl
    rw [es]
    unfold bl_val
    rcases hr.1 i hi with z | z
    · rw [z, vo_n] at h
      rw [z, if_pos rfl]
      simp (disch := first | exact zl_i | exact zl_r | exact zl_n | omega | exact zlen0 | exact zlen1 | exact zlen2 | exact zlen3 | exact zlen4 | exact zl_l | (unfold scF; omega) | (unfold scR; omega) | (simp only [zS_uf1, zS_uf2, zS_ur1, zS_ur2, Nat.reduceEqDiff, reduceIte, and_false, false_and, and_true, true_and, ite_true, ite_false]; done) | exact zl_n) only [Int.reduceToNat, Nat.reduceAdd, Nat.reduceMul, List.length_nil, List.length_cons, Nat.reduceLeDiff, Nat.zero_le, Option.toList_some, Option.toList_none, List.cons_append, List.nil_append, PW_nil, PW_goto, zl_i, zl_r, zl_n, PW_k0, PW_istore_1, PW_istore_2, PW_iload_2, PW_aload_0, PW_g128, PW_ic_ge, PW_g132, PW_iar21, PW_ia32, PW_if_lt, PW_iload_1, PW_g131, PW_aa21, PW_iadd, PW_iinc_2_p1, PW_ret_i zret_23, zb_23_2, zb_23_3, PK_app, n_l0, n_l1, n_l2, n_l3, n_l4, n_l5, n_l8, n_l9, n_l10, n_l15, n_l20, n_l31, n_l40, n_l48, n_l57, n_l59, n_l60, n_l70, n_l99, n_l100, n_l255, n_l601, n_l602, n_l1024, n_l1500, n_l2100, n_l2101, n_l65535, n_l100000, n_l1000000, n_l100000000, i_lt, nI_clamp, nI_leI, nI_eq, nI_1, nI_add, pk_mul, pk_sub, n_in, n_negle, n_legne, n_eqneg, n_negeq, n_nn, n_bit, n_shl1, n_or, zb_e0, zb_e1, zb_r, n_em, zb_T, zb_F, zS_uf1, zS_uf2, zS_ur1, zS_ur2, zS_ur3, zS_ul1, zS_ul2, zS_ul3, z_if0, z_if1, Int.reduceEq, Nat.reduceOr, Nat.or_zero, Nat.zero_or, Bool.false_eq_true, reduceCtorEq, nar0, nar1, nar_zb, eq_self, true_and, and_true, false_and, and_false, or_true, true_or, or_false, false_or, not_true_eq_false, not_false_eq_true, Classical.not_not, true_implies, false_implies, implies_true, iff_true, iff_self, ite_true, ite_false, Nat.reduceEqDiff, Nat.reduceLT, Nat.reduceSub, Nat.add_sub_cancel, Nat.reduceLeDiff, reduceIte, ne_eq, Nat.not_le, f1, Nat.not_le.mpr hi, h, Nat.add_zero]
    · rw [vo_s (by omega)] at h
      obtain ⟨c1, c2⟩ := f4 i hi (r i) z.1
      rw [if_neg (by omega)]
      simp (disch := first | exact zl_i | exact zl_r | exact zl_n | omega | exact zlen0 | exact zlen1 | exact zlen2 | exact zlen3 | exact zlen4 | exact zl_l | (unfold scF; omega) | (unfold scR; omega) | (simp only [zS_uf1, zS_uf2, zS_ur1, zS_ur2, Nat.reduceEqDiff, reduceIte, and_false, false_and, and_true, true_and, ite_true, ite_false]; done) | exact zl_n) only [Int.reduceToNat, Nat.reduceAdd, Nat.reduceMul, List.length_nil, List.length_cons, Nat.reduceLeDiff, Nat.zero_le, Option.toList_some, Option.toList_none, List.cons_append, List.nil_append, PW_nil, PW_goto, zl_i, zl_r, zl_n, PW_k0, PW_istore_1, PW_istore_2, PW_iload_2, PW_aload_0, PW_g128, PW_ic_ge, PW_g132, PW_iar21, PW_ia32, PW_if_lt, PW_iload_1, PW_g131, PW_aa21, PW_iadd, PW_iinc_2_p1, PW_ret_i zret_23, zb_23_2, zb_23_3, PK_app, n_l0, n_l1, n_l2, n_l3, n_l4, n_l5, n_l8, n_l9, n_l10, n_l15, n_l20, n_l31, n_l40, n_l48, n_l57, n_l59, n_l60, n_l70, n_l99, n_l100, n_l255, n_l601, n_l602, n_l1024, n_l1500, n_l2100, n_l2101, n_l65535, n_l100000, n_l1000000, n_l100000000, i_lt, nI_clamp, nI_leI, nI_eq, nI_1, nI_add, pk_mul, pk_sub, n_in, n_negle, n_legne, n_eqneg, n_negeq, n_nn, n_bit, n_shl1, n_or, zb_e0, zb_e1, zb_r, n_em, zb_T, zb_F, zS_uf1, zS_uf2, zS_ur1, zS_ur2, zS_ur3, zS_ul1, zS_ul2, zS_ul3, z_if0, z_if1, Int.reduceEq, Nat.reduceOr, Nat.or_zero, Nat.zero_or, Bool.false_eq_true, reduceCtorEq, nar0, nar1, nar_zb, eq_self, true_and, and_true, false_and, and_false, or_true, true_or, or_false, false_or, not_true_eq_false, not_false_eq_true, Classical.not_not, true_implies, false_implies, implies_true, iff_true, iff_self, ite_true, ite_false, Nat.reduceEqDiff, Nat.reduceLT, Nat.reduceSub, Nat.add_sub_cancel, Nat.reduceLeDiff, reduceIte, ne_eq, Nat.not_le, f1, Nat.not_le.mpr hi, h, PW_aa21, c1, Nat.zero_le]
  · rw [zb_23_1]
    simp (disch := first | exact zl_i | exact zl_r | exact zl_n | omega | exact zlen0 | exact zlen1 | exact zlen2 | exact zlen3 | exact zlen4 | exact zl_l | (unfold scF; omega) | (unfold scR; omega) | (simp only [zS_uf1, zS_uf2, zS_ur1, zS_ur2, Nat.reduceEqDiff, reduceIte, and_false, false_and, and_true, true_and, ite_true, ite_false]; done) | exact zl_n) only [Int.reduceToNat, Nat.reduceAdd, Nat.reduceMul, List.length_nil, List.length_cons, Nat.reduceLeDiff, Nat.zero_le, Option.toList_some, Option.toList_none, List.cons_append, List.nil_append, PW_nil, PW_goto, zl_i, zl_r, zl_n, PW_k0, PW_istore_1, PW_istore_2, PW_iload_2, PW_aload_0, PW_g128, PW_ic_ge, PW_g132, PW_iar21, PW_ia32, PW_if_lt, PW_iload_1, PW_g131, PW_aa21, PW_iadd, PW_iinc_2_p1, PW_ret_i zret_23, zb_23_2, zb_23_3, PK_app, n_l0, n_l1, n_l2, n_l3, n_l4, n_l5, n_l8, n_l9, n_l10, n_l15, n_l20, n_l31, n_l40, n_l48, n_l57, n_l59, n_l60, n_l70, n_l99, n_l100, n_l255, n_l601, n_l602, n_l1024, n_l1500, n_l2100, n_l2101, n_l65535, n_l100000, n_l1000000, n_l100000000, i_lt, nI_clamp, nI_leI, nI_eq, nI_1, nI_add, pk_mul, pk_sub, n_in, n_negle, n_legne, n_eqneg, n_negeq, n_nn, n_bit, n_shl1, n_or, zb_e0, zb_e1, zb_r, n_em, zb_T, zb_F, zS_uf1, zS_uf2, zS_ur1, zS_ur2, zS_ur3, zS_ul1, zS_ul2, zS_ul3, z_if0, z_if1, Int.reduceEq, Nat.reduceOr, Nat.or_zero, Nat.zero_or, Bool.false_eq_true, reduceCtorEq, nar0, nar1, nar_zb, eq_self, true_and, and_true, false_and, and_false, or_true, true_or, or_false, false_or, not_true_eq_false, not_false_eq_true, Classical.not_not, true_implies, false_implies, implies_true, iff_true, iff_self, ite_true, ite_false, Nat.reduceEqDiff, Nat.reduceLT, Nat.reduceSub, Nat.add_sub_cancel, Nat.reduceLeDiff, reduceIte, ne_eq, Nat.not_le, f1, Nat.le_refl]
end HP
