/-! laid, oneTree -/
theorem zuf_id {σ : zS} {c j : Nat} : zuf σ c j (σ.1 c j) = σ := by
  refine zs_ext (fun a b => ?_) (fun _ => rfl) (fun _ => rfl)
  rw [zS_uf1]
  split
  · rename_i h; rw [h.1, h.2]
  · rfl
noncomputable def tr_ag (R G : Nat → Int32) (L M : Nat) (k : Int) : Nat := cnt (tr_a R G L M k) L
noncomputable def tr_un (R G : Nat → Int32) (L M : Nat) (k : Int) : Nat := cnt (tr_u R G L M k) L
theorem tr_le {R G : Nat → Int32} {L M : Nat} {k : Int} : tr_ag R G L M k ≤ L ∧ tr_un R G L M k ≤ L := ⟨cnt_le L, cnt_le L⟩
section TT
variable {sc : zX} {σ : zS} {Q : Option Value → zS → Prop}
theorem sp_lay {v L M : Nat} {k : Int} (hv : v < 10) (hL : L ≤ 20) (hM : M ≤ 60) (hm : σ.1 6 1 = nI M) (hk : -60 ≤ k ∧ k ≤ 60) :
    PC sc 9 [.ref 6, .ref (83 + v), .int (nI L), .int (iI k)] σ Q ↔ Q none (zuf (zuf σ 6 3 (nI (tr_ag (σ.2.1 (83 + v)) (σ.2.1 50) L M k))) 6 4 (nI (tr_un (σ.2.1 (83 + v)) (σ.2.1 50) L M k))) := by
  rw [PC_9, zb_9_0]
  simp (disch := first | exact zl_i | exact zl_r | exact zl_n | omega | exact zlen0 | exact zlen1 | exact zlen2 | exact zlen3 | exact zlen4 | exact zl_l | (simp only [zS_uf1, zS_uf2, zS_ur1, zS_ur2, Nat.reduceEqDiff, reduceIte, and_false, false_and, and_true, true_and, ite_true, ite_false]; done) | exact zl_n) only [Int.reduceToNat, Nat.reduceAdd, Nat.reduceMul, List.length_nil, List.length_cons, Nat.reduceLeDiff, Nat.zero_le, Option.toList_some, Option.toList_none, List.cons_append, List.nil_append, PW_nil, PW_goto, zl_i, zl_r, zl_n, PW_aload_0, PW_aload_1, PW_iload_2, PW_iload_3, PW_g384, PW_g385, PX_c10, PW_ret_v zret_9, PK_app, n_l0, n_l1, n_l2, n_l3, n_l4, n_l5, n_l8, n_l9, n_l10, n_l15, n_l20, n_l31, n_l40, n_l48, n_l57, n_l59, n_l60, n_l70, n_l99, n_l100, n_l255, n_l601, n_l602, n_l1024, n_l1500, n_l2100, n_l2101, n_l65535, n_l100000, n_l1000000, n_l100000000, i_lt, nI_clamp, nI_leI, nI_eq, nI_1, nI_add, pk_mul, pk_sub, n_in, n_negle, n_legne, n_eqneg, n_negeq, n_nn, n_bit, n_shl1, n_or, zb_e0, zb_e1, zb_r, n_em, zb_T, zb_F, zS_uf1, zS_uf2, zS_ur1, zS_ur2, zS_ur3, zS_ul1, zS_ul2, zS_ul3, z_if0, z_if1, Int.reduceEq, Nat.reduceOr, Nat.or_zero, Nat.zero_or, Bool.false_eq_true, reduceCtorEq, nar0, nar1, nar_zb, eq_self, true_and, and_true, false_and, and_false, or_true, true_or, or_false, false_or, not_true_eq_false, not_false_eq_true, Classical.not_not, true_implies, false_implies, implies_true, iff_true, iff_self, ite_true, ite_false, Nat.reduceEqDiff, Nat.reduceLT, Nat.reduceSub, Nat.add_sub_cancel, Nat.reduceLeDiff, reduceIte, ne_eq, Nat.not_le, hm, sp_layOn (za_82_in v hv) za_50 hL hM (by omega) (by omega) hk]
  exact Iff.rfl
end TT
