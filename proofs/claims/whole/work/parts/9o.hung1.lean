/-! the best lending, the class: longs, costs, one seat's look -/
def jI (z : Int) : Int64 := Int64.ofInt z
theorem jI_add {a b : Int} : jI a + jI b = jI (a + b) := (Int64.ofInt_add a b).symm
theorem jI_sub {a b : Int} : jI a - jI b = jI (a - b) := (Int64.ofInt_sub a b).symm
theorem jI_mul {a b : Int} : jI a * jI b = jI (a * b) := (Int64.ofInt_mul a b).symm
theorem jI_toInt {a : Int} (h : -9223372036854775808 ≤ a ∧ a < 9223372036854775808) : (jI a).toInt = a := Int64.toInt_ofInt_of_le h.1 h.2
theorem jcmp {a b : Int} (ha : -9223372036854775808 ≤ a ∧ a < 9223372036854775808) (hb : -9223372036854775808 ≤ b ∧ b < 9223372036854775808) : (nI 0 ≤ lg_cmp (jI a) (jI b)) = (b ≤ a) := by
  have e := lg_cmp_ge (jI a) (jI b)
  rw [Int64.le_iff_toInt_le, jI_toInt ha, jI_toInt hb] at e
  exact propext e
theorem jI_i2l {a : Nat} (h : a < 2 ^ 31) : (nI a).toInt64 = jI (a : Int) := by
  rw [iI_n]
  exact Int32.toInt64_ofInt (by rw [show Int32.minValue.toInt = -2147483648 from rfl]; omega) (by rw [show Int32.maxValue.toInt = 2147483647 from rfl]; omega)
theorem jpw : ∀ k, k < 10 → zpw k = jI ((11 ^ (9 - k) : Nat) : Int) := by decide
theorem jl0 : (0 : Int64) = jI 0 := rfl
theorem jl10 : (10 : Int64) = jI 10 := rfl
theorem jl15 : (1000000000000000 : Int64) = jI 1000000000000000 := rfl
theorem jl18 : (4000000000000000000 : Int64) = jI 4000000000000000000 := rfl
theorem jlt : (25937424601 : Int64) = jI 25937424601 := rfl
theorem n_any (x : Int32) : ∃ n : Nat, x = nI n := ⟨x.toUInt32.toNat, by
  apply Int32.toBitVec_inj.1
  show x.toBitVec = BitVec.ofNat 32 x.toBitVec.toNat
  rw [BitVec.ofNat_toNat, BitVec.setWidth_eq]⟩
def ffL (f : Nat → Int64) (n : Nat) (x : Int64) : Nat → Int64 := fun j => if j < n then x else f j
theorem ffL_0 {f : Nat → Int64} {x : Int64} : ffL f 0 x = f := funext fun j => if_neg (Nat.not_lt_zero j)
theorem ffL_s {f : Nat → Int64} {i : Nat} {x : Int64} : vp_updL (ffL f i x) i x = ffL f (i + 1) x := funext fun j => by
  unfold vp_updL ffL
  by_cases z : j = i
  · rw [if_pos z, if_pos (by omega)]
  · rw [if_neg z]
    by_cases q : j < i
    · rw [if_pos q, if_pos (by omega)]
    · rw [if_neg q, if_neg (show ¬ j < i + 1 by omega)]
theorem zul_sw {σ : zS} {a b : Nat} {f g h : Nat → Int64} (q : ¬ a = b) : zul (zul (zul σ a f) b g) a h = zul (zul σ a h) b g := by
  refine zs_ext (fun _ _ => rfl) (fun _ => rfl) (fun d => ?_)
  simp only [zS_ul3]
  by_cases z : d = a
  · subst z
    rw [if_pos rfl, if_neg q, if_pos rfl]
  · rw [if_neg z]
    by_cases y : d = b
    · rw [if_pos y, if_pos y]
    · rw [if_neg y, if_neg y, if_neg z, if_neg z]
theorem zul_sw2 {σ : zS} {a b c : Nat} {f g h k : Nat → Int64} (q : ¬ a = b) (q2 : ¬ a = c) : zul (zul (zul (zul σ a f) b g) c h) a k = zul (zul (zul σ a k) b g) c h := by
  refine zs_ext (fun _ _ => rfl) (fun _ => rfl) (fun d => ?_)
  simp only [zS_ul3]
  by_cases z : d = a
  · subst z
    rw [if_pos rfl, if_neg q2, if_neg q, if_pos rfl]
  · rw [if_neg z]
    by_cases y : d = c
    · rw [if_pos y, if_pos y]
    · rw [if_neg y, if_neg y]
      by_cases x : d = b
      · rw [if_pos x, if_pos x]
      · rw [if_neg x, if_neg x, if_neg z, if_neg z]
theorem zul_id {σ : zS} {a : Nat} : zul σ a (σ.2.2 a) = σ := by
  refine zs_ext (fun _ _ => rfl) (fun _ => rfl) (fun d => ?_)
  rw [zS_ul3]
  by_cases z : d = a
  · rw [if_pos z, z]
  · rw [if_neg z]
theorem zur_ul {σ : zS} {a b : Nat} {f : Nat → Int64} {g : Nat → Int32} : zur (zul σ a f) b g = zul (zur σ b g) a f := rfl
/-- what the class has in its rows -/
def hS (m : Nat) (S cf : Nat → Nat) (w u sl : Nat → Int) (σ : zS) : Prop := (∀ j, j ≤ m → σ.2.1 34 j = nI (S j)) ∧ (∀ j, j ≤ m → σ.2.1 35 j = nI (cf j)) ∧ (∀ j, j ≤ m → σ.2.2 36 j = jI (sl j)) ∧ (∀ j, j ≤ m → σ.2.2 37 j = jI (w j)) ∧ (∀ i, i ≤ 10 → σ.2.2 38 i = jI (u i))
def hFr (σ σ' : zS) : Prop := σ'.1 = σ.1 ∧ ∀ a, ¬ (a = 34 ∨ a = 35) → σ'.2.1 a = σ.2.1 a
theorem hFr_r {σ : zS} : hFr σ σ := ⟨rfl, fun _ _ => rfl⟩
theorem hFr_t {σ σ' τ : zS} (h : hFr σ σ') (k : hFr σ' τ) : hFr σ τ := ⟨k.1.trans h.1, fun a q => (k.2 a q).trans (h.2 a q)⟩
theorem hFr_ul {σ : zS} {a : Nat} {f : Nat → Int64} : hFr σ (zul σ a f) := ⟨rfl, fun _ _ => rfl⟩
theorem hFr_ur {σ : zS} {a : Nat} {f : Nat → Int32} (h : a = 34 ∨ a = 35) : hFr σ (zur σ a f) := ⟨rfl, fun b q => by rw [zS_ur2, if_neg (fun z => q (by rw [z]; exact h))]⟩
theorem hFr_Fr {σ σ' : zS} (h : hFr σ σ') : Fr σ σ' := ⟨fun c j _ => by rw [h.1], fun a q => h.2 a (fun z => q (by unfold scR; omega))⟩
theorem clF_h {σ σ' : zS} {np nv : Nat} {t : Nat → Nat → Nat} {rk : Nat → Nat} (hnp : np ≤ 10) (h : clF σ np nv t rk) (k : hFr σ σ') : clF σ' np nv t rk := by
  obtain ⟨h1, h2, h3, h4⟩ := h
  refine ⟨by rw [k.1]; exact h1, by rw [k.1]; exact h2, fun p hp => ?_, fun p hp v hv => ?_⟩
  · rw [k.2 20 (by omega)]; exact h3 p hp
  · rw [k.2 (22 + p) (by omega)]; exact h4 p hp v hv
section HL
variable {sc : zX} {σ : zS} {Q : Option Value → zS → Prop}
theorem sp_fillL {a n b : Nat} {x : Int64} (ha : zar a = some (2, n, b)) : PC sc 252 [.ref a, .long x] σ Q ↔ Q none (zul σ a (ffL (σ.2.2 a) n x)) := by
  have hn := (zar_some ha).2.2.2.1
  rw [PC_252, zb_252_0]
  simp (disch := first | exact zl_i | exact zl_r | exact zl_n | omega | exact zlen0 | exact zlen1 | exact zlen2 | exact zlen3 | exact zlen4 | exact zl_l | (unfold scF; omega) | (unfold scR; omega) | (simp only [zS_uf1, zS_uf2, zS_ur1, zS_ur2, Nat.reduceEqDiff, reduceIte, and_false, false_and, and_true, true_and, ite_true, ite_false]; done) | exact zl_n) only [Int.reduceToNat, Nat.reduceAdd, Nat.reduceMul, List.length_nil, List.length_cons, Nat.reduceLeDiff, Nat.zero_le, Option.toList_some, Option.toList_none, List.cons_append, List.nil_append, PW_nil, PW_goto, zl_i, zl_r, zl_n, PW_k0, PW_istore_3, PW_aload_0, PW_istore_4, PW_iload_3, PW_iload_4, PW_ic_ge, PW_lload_1, PW_iinc_3_p1, PW_ret_v zret_252, zb_252_2, PK_app, n_l0, n_l1, n_l2, n_l3, n_l4, n_l5, n_l8, n_l9, n_l10, n_l15, n_l20, n_l31, n_l40, n_l48, n_l57, n_l59, n_l60, n_l70, n_l99, n_l100, n_l255, n_l601, n_l602, n_l1024, n_l1500, n_l2100, n_l2101, n_l65535, n_l100000, n_l1000000, n_l100000000, i_lt, nI_clamp, nI_leI, nI_eq, nI_1, nI_add, pk_mul, pk_sub, n_in, n_negle, n_legne, n_eqneg, n_negeq, n_nn, n_bit, n_shl1, n_or, zb_e0, zb_e1, zb_r, n_em, zb_T, zb_F, zS_uf1, zS_uf2, zS_ur1, zS_ur2, zS_ur3, zS_ul1, zS_ul2, zS_ul3, z_if0, z_if1, Int.reduceEq, Nat.reduceOr, Nat.or_zero, Nat.zero_or, Bool.false_eq_true, reduceCtorEq, nar0, nar1, nar_zb, eq_self, true_and, and_true, false_and, and_false, or_true, true_or, or_false, false_or, not_true_eq_false, not_false_eq_true, Classical.not_not, true_implies, false_implies, implies_true, iff_true, iff_self, ite_true, ite_false, Nat.reduceEqDiff, Nat.reduceLT, Nat.reduceSub, Nat.add_sub_cancel, Nat.reduceLeDiff, reduceIte, ne_eq, Nat.not_le, PW_alen ha, n_of]
  refine Iff.trans ?_ ((lp_all n (fun i => PW sc 252 (zblk 252 1) 2 [some (.ref (a)), some (.long (x)), none, some (.int (nI i)), some (.int (nI n))] [] (zul σ a (ffL (σ.2.2 a) i x)) Q) (fun i hi => ?_)).trans ?_)
  · rw [ffL_0, zul_id]
  · conv => lhs; rw [zb_252_1]
    simp (disch := first | exact zl_i | exact zl_r | exact zl_n | omega | exact zlen0 | exact zlen1 | exact zlen2 | exact zlen3 | exact zlen4 | exact zl_l | (unfold scF; omega) | (unfold scR; omega) | (simp only [zS_uf1, zS_uf2, zS_ur1, zS_ur2, Nat.reduceEqDiff, reduceIte, and_false, false_and, and_true, true_and, ite_true, ite_false]; done) | exact zl_n) only [Int.reduceToNat, Nat.reduceAdd, Nat.reduceMul, List.length_nil, List.length_cons, Nat.reduceLeDiff, Nat.zero_le, Option.toList_some, Option.toList_none, List.cons_append, List.nil_append, PW_nil, PW_goto, zl_i, zl_r, zl_n, PW_k0, PW_istore_3, PW_aload_0, PW_istore_4, PW_iload_3, PW_iload_4, PW_ic_ge, PW_lload_1, PW_iinc_3_p1, PW_ret_v zret_252, zb_252_2, PK_app, n_l0, n_l1, n_l2, n_l3, n_l4, n_l5, n_l8, n_l9, n_l10, n_l15, n_l20, n_l31, n_l40, n_l48, n_l57, n_l59, n_l60, n_l70, n_l99, n_l100, n_l255, n_l601, n_l602, n_l1024, n_l1500, n_l2100, n_l2101, n_l65535, n_l100000, n_l1000000, n_l100000000, i_lt, nI_clamp, nI_leI, nI_eq, nI_1, nI_add, pk_mul, pk_sub, n_in, n_negle, n_legne, n_eqneg, n_negeq, n_nn, n_bit, n_shl1, n_or, zb_e0, zb_e1, zb_r, n_em, zb_T, zb_F, zS_uf1, zS_uf2, zS_ur1, zS_ur2, zS_ur3, zS_ul1, zS_ul2, zS_ul3, z_if0, z_if1, Int.reduceEq, Nat.reduceOr, Nat.or_zero, Nat.zero_or, Bool.false_eq_true, reduceCtorEq, nar0, nar1, nar_zb, eq_self, true_and, and_true, false_and, and_false, or_true, true_or, or_false, false_or, not_true_eq_false, not_false_eq_true, Classical.not_not, true_implies, false_implies, implies_true, iff_true, iff_self, ite_true, ite_false, Nat.reduceEqDiff, Nat.reduceLT, Nat.reduceSub, Nat.add_sub_cancel, Nat.reduceLeDiff, reduceIte, ne_eq, Nat.not_le, PW_last ha, Nat.not_le.mpr hi, zul_same, ffL_s]
  · rw [zb_252_1]
    simp (disch := first | exact zl_i | exact zl_r | exact zl_n | omega | exact zlen0 | exact zlen1 | exact zlen2 | exact zlen3 | exact zlen4 | exact zl_l | (unfold scF; omega) | (unfold scR; omega) | (simp only [zS_uf1, zS_uf2, zS_ur1, zS_ur2, Nat.reduceEqDiff, reduceIte, and_false, false_and, and_true, true_and, ite_true, ite_false]; done) | exact zl_n) only [Int.reduceToNat, Nat.reduceAdd, Nat.reduceMul, List.length_nil, List.length_cons, Nat.reduceLeDiff, Nat.zero_le, Option.toList_some, Option.toList_none, List.cons_append, List.nil_append, PW_nil, PW_goto, zl_i, zl_r, zl_n, PW_k0, PW_istore_3, PW_aload_0, PW_istore_4, PW_iload_3, PW_iload_4, PW_ic_ge, PW_lload_1, PW_iinc_3_p1, PW_ret_v zret_252, zb_252_2, PK_app, n_l0, n_l1, n_l2, n_l3, n_l4, n_l5, n_l8, n_l9, n_l10, n_l15, n_l20, n_l31, n_l40, n_l48, n_l57, n_l59, n_l60, n_l70, n_l99, n_l100, n_l255, n_l601, n_l602, n_l1024, n_l1500, n_l2100, n_l2101, n_l65535, n_l100000, n_l1000000, n_l100000000, i_lt, nI_clamp, nI_leI, nI_eq, nI_1, nI_add, pk_mul, pk_sub, n_in, n_negle, n_legne, n_eqneg, n_negeq, n_nn, n_bit, n_shl1, n_or, zb_e0, zb_e1, zb_r, n_em, zb_T, zb_F, zS_uf1, zS_uf2, zS_ur1, zS_ur2, zS_ur3, zS_ul1, zS_ul2, zS_ul3, z_if0, z_if1, Int.reduceEq, Nat.reduceOr, Nat.or_zero, Nat.zero_or, Bool.false_eq_true, reduceCtorEq, nar0, nar1, nar_zb, eq_self, true_and, and_true, false_and, and_false, or_true, true_or, or_false, false_or, not_true_eq_false, not_false_eq_true, Classical.not_not, true_implies, false_implies, implies_true, iff_true, iff_self, ite_true, ite_false, Nat.reduceEqDiff, Nat.reduceLT, Nat.reduceSub, Nat.add_sub_cancel, Nat.reduceLeDiff, reduceIte, ne_eq, Nat.not_le, Nat.le_refl]
theorem sp_cost {np nv i j : Nat} {t : Nat → Nat → Nat} {rk : Nat → Nat} (hnp : np ≤ 10) (hnv : nv ≤ 10) (hF : clF σ np nv t rk) (i1 : 1 ≤ i) (i2 : i ≤ np) (j1 : 1 ≤ j) (j2 : j ≤ nv + np) : PC sc 29 [.ref 2, .int (nI i), .int (nI j)] σ Q ↔ Q (some (.long (jI (hg_c nv t i j)))) σ := by
  obtain ⟨f1, f2, f3, f4⟩ := hF
  have hz := jpw (i - 1) (by omega)
  rw [show 9 - (i - 1) = 10 - i by omega] at hz
  rw [PC_29, zb_29_0]
  unfold hg_c
  by_cases c : nv < j
  · rw [if_pos c]
    have ec : ((10 * 11 ^ (10 - i) : Nat) : Int) = 10 * ((11 ^ (10 - i) : Nat) : Int) := Int.natCast_mul 10 _
    rw [ec]
    simp (disch := first | exact zl_i | exact zl_r | exact zl_n | omega | exact zlen0 | exact zlen1 | exact zlen2 | exact zlen3 | exact zlen4 | exact zl_l | (unfold scF; omega) | (unfold scR; omega) | (simp only [zS_uf1, zS_uf2, zS_ur1, zS_ur2, Nat.reduceEqDiff, reduceIte, and_false, false_and, and_true, true_and, ite_true, ite_false]; done) | exact zl_n) only [Int.reduceToNat, Nat.reduceAdd, Nat.reduceMul, List.length_nil, List.length_cons, Nat.reduceLeDiff, Nat.zero_le, Option.toList_some, Option.toList_none, List.cons_append, List.nil_append, PW_nil, PW_goto, zl_i, zl_r, zl_n, PW_gstat, PW_lpw, PW_iload_1, PW_k1, PW_isub, PW_lstore_3, PW_iload_2, PW_aload_0, PW_g129, PW_ic_le, PW_ld2, zLc, PW_lload_3, PW_lmul, PW_ret_l zret_29, PW_g131, PW_aa21, PW_iar21, PW_istore_5, PW_iload_5, PW_if_ne, PW_i2l, PW_lsub, zb_29_1, zb_29_2, zb_29_3, PK_app, n_l0, n_l1, n_l2, n_l3, n_l4, n_l5, n_l8, n_l9, n_l10, n_l15, n_l20, n_l31, n_l40, n_l48, n_l57, n_l59, n_l60, n_l70, n_l99, n_l100, n_l255, n_l601, n_l602, n_l1024, n_l1500, n_l2100, n_l2101, n_l65535, n_l100000, n_l1000000, n_l100000000, i_lt, nI_clamp, nI_leI, nI_eq, nI_1, nI_add, pk_mul, pk_sub, n_in, n_negle, n_legne, n_eqneg, n_negeq, n_nn, n_bit, n_shl1, n_or, zb_e0, zb_e1, zb_r, n_em, zb_T, zb_F, zS_uf1, zS_uf2, zS_ur1, zS_ur2, zS_ur3, zS_ul1, zS_ul2, zS_ul3, z_if0, z_if1, Int.reduceEq, Nat.reduceOr, Nat.or_zero, Nat.zero_or, Bool.false_eq_true, reduceCtorEq, nar0, nar1, nar_zb, eq_self, true_and, and_true, false_and, and_false, or_true, true_or, or_false, false_or, not_true_eq_false, not_false_eq_true, Classical.not_not, true_implies, false_implies, implies_true, iff_true, iff_self, ite_true, ite_false, Nat.reduceEqDiff, Nat.reduceLT, Nat.reduceSub, Nat.add_sub_cancel, Nat.reduceLeDiff, reduceIte, ne_eq, Nat.not_le, f2, show ¬ j ≤ nv by omega, hz, jl10, jI_mul]
  · rw [if_neg c]
    obtain ⟨r1, r2⟩ := f4 (i - 1) (by omega) (j - 1) (by omega)
    by_cases z : t (i - 1) (j - 1) = 0
    · rw [if_pos z]
      have z' := eq_true z
      rw [z] at r1
      simp (disch := first | exact zl_i | exact zl_r | exact zl_n | omega | exact zlen0 | exact zlen1 | exact zlen2 | exact zlen3 | exact zlen4 | exact zl_l | (unfold scF; omega) | (unfold scR; omega) | (simp only [zS_uf1, zS_uf2, zS_ur1, zS_ur2, Nat.reduceEqDiff, reduceIte, and_false, false_and, and_true, true_and, ite_true, ite_false]; done) | exact zl_n) only [Int.reduceToNat, Nat.reduceAdd, Nat.reduceMul, List.length_nil, List.length_cons, Nat.reduceLeDiff, Nat.zero_le, Option.toList_some, Option.toList_none, List.cons_append, List.nil_append, PW_nil, PW_goto, zl_i, zl_r, zl_n, PW_gstat, PW_lpw, PW_iload_1, PW_k1, PW_isub, PW_lstore_3, PW_iload_2, PW_aload_0, PW_g129, PW_ic_le, PW_ld2, zLc, PW_lload_3, PW_lmul, PW_ret_l zret_29, PW_g131, PW_aa21, PW_iar21, PW_istore_5, PW_iload_5, PW_if_ne, PW_i2l, PW_lsub, zb_29_1, zb_29_2, zb_29_3, PK_app, n_l0, n_l1, n_l2, n_l3, n_l4, n_l5, n_l8, n_l9, n_l10, n_l15, n_l20, n_l31, n_l40, n_l48, n_l57, n_l59, n_l60, n_l70, n_l99, n_l100, n_l255, n_l601, n_l602, n_l1024, n_l1500, n_l2100, n_l2101, n_l65535, n_l100000, n_l1000000, n_l100000000, i_lt, nI_clamp, nI_leI, nI_eq, nI_1, nI_add, pk_mul, pk_sub, n_in, n_negle, n_legne, n_eqneg, n_negeq, n_nn, n_bit, n_shl1, n_or, zb_e0, zb_e1, zb_r, n_em, zb_T, zb_F, zS_uf1, zS_uf2, zS_ur1, zS_ur2, zS_ur3, zS_ul1, zS_ul2, zS_ul3, z_if0, z_if1, Int.reduceEq, Nat.reduceOr, Nat.or_zero, Nat.zero_or, Bool.false_eq_true, reduceCtorEq, nar0, nar1, nar_zb, eq_self, true_and, and_true, false_and, and_false, or_true, true_or, or_false, false_or, not_true_eq_false, not_false_eq_true, Classical.not_not, true_implies, false_implies, implies_true, iff_true, iff_self, ite_true, ite_false, Nat.reduceEqDiff, Nat.reduceLT, Nat.reduceSub, Nat.add_sub_cancel, Nat.reduceLeDiff, reduceIte, ne_eq, Nat.not_le, f2, show j ≤ nv by omega, hz, PW_aa21, r1, jl15]
    · rw [if_neg z]
      have ec : (((j - 1) * 11 ^ (10 - i) : Nat) : Int) = ((j - 1 : Nat) : Int) * ((11 ^ (10 - i) : Nat) : Int) := Int.natCast_mul _ _
      rw [ec]
      simp (disch := first | exact zl_i | exact zl_r | exact zl_n | omega | exact zlen0 | exact zlen1 | exact zlen2 | exact zlen3 | exact zlen4 | exact zl_l | (unfold scF; omega) | (unfold scR; omega) | (simp only [zS_uf1, zS_uf2, zS_ur1, zS_ur2, Nat.reduceEqDiff, reduceIte, and_false, false_and, and_true, true_and, ite_true, ite_false]; done) | exact zl_n) only [Int.reduceToNat, Nat.reduceAdd, Nat.reduceMul, List.length_nil, List.length_cons, Nat.reduceLeDiff, Nat.zero_le, Option.toList_some, Option.toList_none, List.cons_append, List.nil_append, PW_nil, PW_goto, zl_i, zl_r, zl_n, PW_gstat, PW_lpw, PW_iload_1, PW_k1, PW_isub, PW_lstore_3, PW_iload_2, PW_aload_0, PW_g129, PW_ic_le, PW_ld2, zLc, PW_lload_3, PW_lmul, PW_ret_l zret_29, PW_g131, PW_aa21, PW_iar21, PW_istore_5, PW_iload_5, PW_if_ne, PW_i2l, PW_lsub, zb_29_1, zb_29_2, zb_29_3, PK_app, n_l0, n_l1, n_l2, n_l3, n_l4, n_l5, n_l8, n_l9, n_l10, n_l15, n_l20, n_l31, n_l40, n_l48, n_l57, n_l59, n_l60, n_l70, n_l99, n_l100, n_l255, n_l601, n_l602, n_l1024, n_l1500, n_l2100, n_l2101, n_l65535, n_l100000, n_l1000000, n_l100000000, i_lt, nI_clamp, nI_leI, nI_eq, nI_1, nI_add, pk_mul, pk_sub, n_in, n_negle, n_legne, n_eqneg, n_negeq, n_nn, n_bit, n_shl1, n_or, zb_e0, zb_e1, zb_r, n_em, zb_T, zb_F, zS_uf1, zS_uf2, zS_ur1, zS_ur2, zS_ur3, zS_ul1, zS_ul2, zS_ul3, z_if0, z_if1, Int.reduceEq, Nat.reduceOr, Nat.or_zero, Nat.zero_or, Bool.false_eq_true, reduceCtorEq, nar0, nar1, nar_zb, eq_self, true_and, and_true, false_and, and_false, or_true, true_or, or_false, false_or, not_true_eq_false, not_false_eq_true, Classical.not_not, true_implies, false_implies, implies_true, iff_true, iff_self, ite_true, ite_false, Nat.reduceEqDiff, Nat.reduceLT, Nat.reduceSub, Nat.add_sub_cancel, Nat.reduceLeDiff, reduceIte, ne_eq, Nat.not_le, f2, show j ≤ nv by omega, hz, PW_aa21, r1, z, jI_i2l, jlt, jI_mul, jI_sub]
noncomputable def lkS (b : Nat) (way sl : Nat → Int) (i j : Nat) : Int := cif (1 ≤ j ∧ j < i ∧ ¬ b.testBit j = true ∧ way j < sl j) (way j) (sl j)
noncomputable def lkC (b j0 : Nat) (way sl : Nat → Int) (cf : Nat → Nat) (i j : Nat) : Nat := cif (1 ≤ j ∧ j < i ∧ ¬ b.testBit j = true ∧ way j < sl j) j0 (cf j)
theorem lk_c {i j : Nat} {P : Prop} (ne : j ≠ i) : (1 ≤ j ∧ j < i + 1 ∧ P) = (1 ≤ j ∧ j < i ∧ P) := propext ⟨fun z => ⟨z.1, by have := z.2.1; omega, z.2.2⟩, fun z => ⟨z.1, by have := z.2.1; omega, z.2.2⟩⟩
theorem lk_d {i j : Nat} {P : Prop} (ne : j ≠ i) : (j < i + 1 ∧ P) = (j < i ∧ P) := propext ⟨fun z => ⟨by have := z.1; omega, z.2⟩, fun z => ⟨by have := z.1; omega, z.2⟩⟩
theorem lkS_n {b i j : Nat} {way sl : Nat → Int} (ne : j ≠ i) : lkS b way sl (i + 1) j = lkS b way sl i j := by
  unfold lkS
  rw [lk_c ne]
theorem lkC_n {b j0 i j : Nat} {way sl : Nat → Int} {cf : Nat → Nat} (ne : j ≠ i) : lkC b j0 way sl cf (i + 1) j = lkC b j0 way sl cf i j := by
  unfold lkC
  rw [lk_c ne]
theorem lkS_k {b i j : Nat} {way sl : Nat → Int} (h : ¬ (¬ b.testBit i = true ∧ way i < sl i)) : lkS b way sl (i + 1) j = lkS b way sl i j := by
  by_cases z : j = i
  · subst z
    unfold lkS
    rw [cif_f (fun y => h y.2.2), cif_f (fun y => h y.2.2)]
  · exact lkS_n z
theorem lkC_k {b j0 i j : Nat} {way sl : Nat → Int} {cf : Nat → Nat} (h : ¬ (¬ b.testBit i = true ∧ way i < sl i)) : lkC b j0 way sl cf (i + 1) j = lkC b j0 way sl cf i j := by
  by_cases z : j = i
  · subst z
    unfold lkC
    rw [cif_f (fun y => h y.2.2), cif_f (fun y => h y.2.2)]
  · exact lkC_n z
theorem look_w {np nv m b j0 : Nat} {t : Nat → Nat → Nat} {rk : Nat → Nat} {S cf : Nat → Nat} {w u sl : Nat → Int} (hnp : np ≤ 10) (hnv : nv ≤ 10) (hm : m = nv + np) (hF : clF σ np nv t rk) (H : hS m S cf w u sl σ) (hb : b < 2 ^ 21) (j0m : j0 ≤ m) (s1 : 1 ≤ S j0) (s2 : S j0 ≤ np)
    (bd : ∀ j, 1 ≤ j → j ≤ m → ¬ b.testBit j = true → (-5000000000000000000 ≤ hg_c nv t (S j0) j - u (S j0) - w j ∧ hg_c nv t (S j0) j - u (S j0) - w j ≤ 5000000000000000000) ∧ (-5000000000000000000 ≤ sl j ∧ sl j ≤ 5000000000000000000))
    (hQ : ∀ σ', hFr σ σ' → hS m S (lkC b j0 (fun j => hg_c nv t (S j0) j - u (S j0) - w j) sl cf (m + 1)) w u (lkS b (fun j => hg_c nv t (S j0) j - u (S j0) - w j) sl (m + 1)) σ' → Q none σ') : PC sc 26 [.ref 2, .int (nI j0), .int (nI b)] σ Q := by
  obtain ⟨H1, H2, H3, H4, H5⟩ := H
  have h0 := H1 j0 j0m
  have hu := H5 (S j0) (by omega)
  have f1 := hF.1
  have f2 := hF.2.1
  subst hm
  rw [PC_26, zb_26_0]
  simp (disch := first | exact zl_i | exact zl_r | exact zl_n | omega | exact zlen0 | exact zlen1 | exact zlen2 | exact zlen3 | exact zlen4 | exact zl_l | (unfold scF; omega) | (unfold scR; omega) | (simp only [zS_uf1, zS_uf2, zS_ur1, zS_ur2, Nat.reduceEqDiff, reduceIte, and_false, false_and, and_true, true_and, ite_true, ite_false]; done) | exact zl_n) only [Int.reduceToNat, Nat.reduceAdd, Nat.reduceMul, List.length_nil, List.length_cons, Nat.reduceLeDiff, Nat.zero_le, Option.toList_some, Option.toList_none, List.cons_append, List.nil_append, PW_nil, PW_goto, zl_i, zl_r, zl_n, PW_aload_0, PW_g134, PW_iload_1, PW_ia34, PW_ia35, PW_istore_3, PW_k1, PW_istore_4, PW_iload_4, PW_g129, PW_g128, PW_iadd, PW_ic_gt, PW_iload_3, PX_c29, PW_g138, PW_la36, PW_la37, PW_la38, PW_lsub, PW_g137, PW_lstore_5, PW_iload_2, PW_ishr, PW_iand, PW_if_ne, PW_lload_5, PW_g136, PW_lcmp, PW_if_ge, PW_ls36, PW_ls37, PW_ls38, PW_g135, PW_is34, PW_is35, PW_iinc_4_p1, PW_ret_v zret_26, zb_26_2, zb_26_3, PK_app, n_l0, n_l1, n_l2, n_l3, n_l4, n_l5, n_l8, n_l9, n_l10, n_l15, n_l20, n_l31, n_l40, n_l48, n_l57, n_l59, n_l60, n_l70, n_l99, n_l100, n_l255, n_l601, n_l602, n_l1024, n_l1500, n_l2100, n_l2101, n_l65535, n_l100000, n_l1000000, n_l100000000, i_lt, nI_clamp, nI_leI, nI_eq, nI_1, nI_add, pk_mul, pk_sub, n_in, n_negle, n_legne, n_eqneg, n_negeq, n_nn, n_bit, n_shl1, n_or, zb_e0, zb_e1, zb_r, n_em, zb_T, zb_F, zS_uf1, zS_uf2, zS_ur1, zS_ur2, zS_ur3, zS_ul1, zS_ul2, zS_ul3, z_if0, z_if1, Int.reduceEq, Nat.reduceOr, Nat.or_zero, Nat.zero_or, Bool.false_eq_true, reduceCtorEq, nar0, nar1, nar_zb, eq_self, true_and, and_true, false_and, and_false, or_true, true_or, or_false, false_or, not_true_eq_false, not_false_eq_true, Classical.not_not, true_implies, false_implies, implies_true, iff_true, iff_self, ite_true, ite_false, Nat.reduceEqDiff, Nat.reduceLT, Nat.reduceSub, Nat.add_sub_cancel, Nat.reduceLeDiff, reduceIte, ne_eq, Nat.not_le, h0]
  have key : ∀ e i, i + e = nv + np + 1 → 1 ≤ i → ∀ f35 f36, (∀ j, j ≤ nv + np → f35 j = nI (lkC b j0 (fun j => hg_c nv t (S j0) j - u (S j0) - w j) sl cf i j)) → (∀ j, j ≤ nv + np → f36 j = jI (lkS b (fun j => hg_c nv t (S j0) j - u (S j0) - w j) sl i j)) → ∀ a5 a6, PW sc 26 (zblk 26 1) 2 [some (.ref 2), some (.int (nI j0)), some (.int (nI b)), some (.int (nI (S j0))), some (.int (nI i)), a5, a6] [] (zul (zur σ 35 f35) 36 f36) Q := by
    intro e
    induction e with
    | zero =>
      intro i hi i1 f35 f36 P1 P2 a5 a6
      rw [show i = nv + np + 1 by omega] at P1 P2 ⊢
      rw [zb_26_1]
      simp (disch := first | exact zl_i | exact zl_r | exact zl_n | omega | exact zlen0 | exact zlen1 | exact zlen2 | exact zlen3 | exact zlen4 | exact zl_l | (unfold scF; omega) | (unfold scR; omega) | (simp only [zS_uf1, zS_uf2, zS_ur1, zS_ur2, Nat.reduceEqDiff, reduceIte, and_false, false_and, and_true, true_and, ite_true, ite_false]; done) | exact zl_n) only [Int.reduceToNat, Nat.reduceAdd, Nat.reduceMul, List.length_nil, List.length_cons, Nat.reduceLeDiff, Nat.zero_le, Option.toList_some, Option.toList_none, List.cons_append, List.nil_append, PW_nil, PW_goto, zl_i, zl_r, zl_n, PW_aload_0, PW_g134, PW_iload_1, PW_ia34, PW_ia35, PW_istore_3, PW_k1, PW_istore_4, PW_iload_4, PW_g129, PW_g128, PW_iadd, PW_ic_gt, PW_iload_3, PX_c29, PW_g138, PW_la36, PW_la37, PW_la38, PW_lsub, PW_g137, PW_lstore_5, PW_iload_2, PW_ishr, PW_iand, PW_if_ne, PW_lload_5, PW_g136, PW_lcmp, PW_if_ge, PW_ls36, PW_ls37, PW_ls38, PW_g135, PW_is34, PW_is35, PW_iinc_4_p1, PW_ret_v zret_26, zb_26_2, zb_26_3, PK_app, n_l0, n_l1, n_l2, n_l3, n_l4, n_l5, n_l8, n_l9, n_l10, n_l15, n_l20, n_l31, n_l40, n_l48, n_l57, n_l59, n_l60, n_l70, n_l99, n_l100, n_l255, n_l601, n_l602, n_l1024, n_l1500, n_l2100, n_l2101, n_l65535, n_l100000, n_l1000000, n_l100000000, i_lt, nI_clamp, nI_leI, nI_eq, nI_1, nI_add, pk_mul, pk_sub, n_in, n_negle, n_legne, n_eqneg, n_negeq, n_nn, n_bit, n_shl1, n_or, zb_e0, zb_e1, zb_r, n_em, zb_T, zb_F, zS_uf1, zS_uf2, zS_ur1, zS_ur2, zS_ur3, zS_ul1, zS_ul2, zS_ul3, z_if0, z_if1, Int.reduceEq, Nat.reduceOr, Nat.or_zero, Nat.zero_or, Bool.false_eq_true, reduceCtorEq, nar0, nar1, nar_zb, eq_self, true_and, and_true, false_and, and_false, or_true, true_or, or_false, false_or, not_true_eq_false, not_false_eq_true, Classical.not_not, true_implies, false_implies, implies_true, iff_true, iff_self, ite_true, ite_false, Nat.reduceEqDiff, Nat.reduceLT, Nat.reduceSub, Nat.add_sub_cancel, Nat.reduceLeDiff, reduceIte, ne_eq, Nat.not_le, f1, f2, show ¬ nv + np + 1 ≤ nv + np by omega]
      refine hQ _ (hFr_t (hFr_ur (Or.inr rfl)) hFr_ul) ⟨fun j hj => ?_, P1, P2, fun j hj => ?_, fun j hj => ?_⟩
      · exact H1 j hj
      · exact H4 j hj
      · exact H5 j hj
    | succ e ih =>
      intro i hi i1 f35 f36 P1 P2 a5 a6
      have him : i ≤ nv + np := by omega
      have hF' : clF (zul (zur σ 35 f35) 36 f36) np nv t rk := clF_h hnp hF (hFr_t (hFr_ur (Or.inr rfl)) hFr_ul)
      have sc' := fun Q => sp_cost (sc := sc) (Q := Q) (i := S j0) (j := i) hnp hnv hF' s1 s2 i1 him
      have hbit := n_bit (a := b) (k := i) (by omega) (by omega)
      have hw := H4 i him
      have p1 := P1 i him
      have p2 := P2 i him
      have eS : lkS b (fun j => hg_c nv t (S j0) j - u (S j0) - w j) sl i i = sl i := cif_f (fun z => by omega)
      rw [eS] at p2
      rw [zb_26_1]
      by_cases c1 : b.testBit i = true
      · have P1' : ∀ j, j ≤ nv + np → f35 j = nI (lkC b j0 (fun j => hg_c nv t (S j0) j - u (S j0) - w j) sl cf (i + 1) j) := fun j hj => by
          rw [P1 j hj, lkC_k (fun z => z.1 c1)]
        have P2' : ∀ j, j ≤ nv + np → f36 j = jI (lkS b (fun j => hg_c nv t (S j0) j - u (S j0) - w j) sl (i + 1) j) := fun j hj => by
          rw [P2 j hj, lkS_k (fun z => z.1 c1)]
        simp (disch := first | exact zl_i | exact zl_r | exact zl_n | omega | exact zlen0 | exact zlen1 | exact zlen2 | exact zlen3 | exact zlen4 | exact zl_l | (unfold scF; omega) | (unfold scR; omega) | (simp only [zS_uf1, zS_uf2, zS_ur1, zS_ur2, Nat.reduceEqDiff, reduceIte, and_false, false_and, and_true, true_and, ite_true, ite_false]; done) | exact zl_n) only [Int.reduceToNat, Nat.reduceAdd, Nat.reduceMul, List.length_nil, List.length_cons, Nat.reduceLeDiff, Nat.zero_le, Option.toList_some, Option.toList_none, List.cons_append, List.nil_append, PW_nil, PW_goto, zl_i, zl_r, zl_n, PW_aload_0, PW_g134, PW_iload_1, PW_ia34, PW_ia35, PW_istore_3, PW_k1, PW_istore_4, PW_iload_4, PW_g129, PW_g128, PW_iadd, PW_ic_gt, PW_iload_3, PX_c29, PW_g138, PW_la36, PW_la37, PW_la38, PW_lsub, PW_g137, PW_lstore_5, PW_iload_2, PW_ishr, PW_iand, PW_if_ne, PW_lload_5, PW_g136, PW_lcmp, PW_if_ge, PW_ls36, PW_ls37, PW_ls38, PW_g135, PW_is34, PW_is35, PW_iinc_4_p1, PW_ret_v zret_26, zb_26_2, zb_26_3, PK_app, n_l0, n_l1, n_l2, n_l3, n_l4, n_l5, n_l8, n_l9, n_l10, n_l15, n_l20, n_l31, n_l40, n_l48, n_l57, n_l59, n_l60, n_l70, n_l99, n_l100, n_l255, n_l601, n_l602, n_l1024, n_l1500, n_l2100, n_l2101, n_l65535, n_l100000, n_l1000000, n_l100000000, i_lt, nI_clamp, nI_leI, nI_eq, nI_1, nI_add, pk_mul, pk_sub, n_in, n_negle, n_legne, n_eqneg, n_negeq, n_nn, n_bit, n_shl1, n_or, zb_e0, zb_e1, zb_r, n_em, zb_T, zb_F, zS_uf1, zS_uf2, zS_ur1, zS_ur2, zS_ur3, zS_ul1, zS_ul2, zS_ul3, z_if0, z_if1, Int.reduceEq, Nat.reduceOr, Nat.or_zero, Nat.zero_or, Bool.false_eq_true, reduceCtorEq, nar0, nar1, nar_zb, eq_self, true_and, and_true, false_and, and_false, or_true, true_or, or_false, false_or, not_true_eq_false, not_false_eq_true, Classical.not_not, true_implies, false_implies, implies_true, iff_true, iff_self, ite_true, ite_false, Nat.reduceEqDiff, Nat.reduceLT, Nat.reduceSub, Nat.add_sub_cancel, Nat.reduceLeDiff, reduceIte, ne_eq, Nat.not_le, f1, f2, him, sc', PK_app, hu, hw, jI_sub, hbit, c1]
        exact ih (i + 1) (by omega) (by omega) f35 f36 P1' P2' _ _
      · obtain ⟨b1, b2⟩ := bd i i1 him c1
        have hc := jcmp (a := hg_c nv t (S j0) i - u (S j0) - w i) (b := sl i) (by omega) (by omega)
        by_cases c2 : sl i ≤ hg_c nv t (S j0) i - u (S j0) - w i
        · have P1' : ∀ j, j ≤ nv + np → f35 j = nI (lkC b j0 (fun j => hg_c nv t (S j0) j - u (S j0) - w j) sl cf (i + 1) j) := fun j hj => by
            rw [P1 j hj, lkC_k (fun z => absurd z.2 (Int.not_lt.mpr c2))]
          have P2' : ∀ j, j ≤ nv + np → f36 j = jI (lkS b (fun j => hg_c nv t (S j0) j - u (S j0) - w j) sl (i + 1) j) := fun j hj => by
            rw [P2 j hj, lkS_k (fun z => absurd z.2 (Int.not_lt.mpr c2))]
          simp (disch := first | exact zl_i | exact zl_r | exact zl_n | omega | exact zlen0 | exact zlen1 | exact zlen2 | exact zlen3 | exact zlen4 | exact zl_l | (unfold scF; omega) | (unfold scR; omega) | (simp only [zS_uf1, zS_uf2, zS_ur1, zS_ur2, Nat.reduceEqDiff, reduceIte, and_false, false_and, and_true, true_and, ite_true, ite_false]; done) | exact zl_n) only [Int.reduceToNat, Nat.reduceAdd, Nat.reduceMul, List.length_nil, List.length_cons, Nat.reduceLeDiff, Nat.zero_le, Option.toList_some, Option.toList_none, List.cons_append, List.nil_append, PW_nil, PW_goto, zl_i, zl_r, zl_n, PW_aload_0, PW_g134, PW_iload_1, PW_ia34, PW_ia35, PW_istore_3, PW_k1, PW_istore_4, PW_iload_4, PW_g129, PW_g128, PW_iadd, PW_ic_gt, PW_iload_3, PX_c29, PW_g138, PW_la36, PW_la37, PW_la38, PW_lsub, PW_g137, PW_lstore_5, PW_iload_2, PW_ishr, PW_iand, PW_if_ne, PW_lload_5, PW_g136, PW_lcmp, PW_if_ge, PW_ls36, PW_ls37, PW_ls38, PW_g135, PW_is34, PW_is35, PW_iinc_4_p1, PW_ret_v zret_26, zb_26_2, zb_26_3, PK_app, n_l0, n_l1, n_l2, n_l3, n_l4, n_l5, n_l8, n_l9, n_l10, n_l15, n_l20, n_l31, n_l40, n_l48, n_l57, n_l59, n_l60, n_l70, n_l99, n_l100, n_l255, n_l601, n_l602, n_l1024, n_l1500, n_l2100, n_l2101, n_l65535, n_l100000, n_l1000000, n_l100000000, i_lt, nI_clamp, nI_leI, nI_eq, nI_1, nI_add, pk_mul, pk_sub, n_in, n_negle, n_legne, n_eqneg, n_negeq, n_nn, n_bit, n_shl1, n_or, zb_e0, zb_e1, zb_r, n_em, zb_T, zb_F, zS_uf1, zS_uf2, zS_ur1, zS_ur2, zS_ur3, zS_ul1, zS_ul2, zS_ul3, z_if0, z_if1, Int.reduceEq, Nat.reduceOr, Nat.or_zero, Nat.zero_or, Bool.false_eq_true, reduceCtorEq, nar0, nar1, nar_zb, eq_self, true_and, and_true, false_and, and_false, or_true, true_or, or_false, false_or, not_true_eq_false, not_false_eq_true, Classical.not_not, true_implies, false_implies, implies_true, iff_true, iff_self, ite_true, ite_false, Nat.reduceEqDiff, Nat.reduceLT, Nat.reduceSub, Nat.add_sub_cancel, Nat.reduceLeDiff, reduceIte, ne_eq, Nat.not_le, f1, f2, him, sc', PK_app, hu, hw, jI_sub, hbit, c1, p2, hc, c2]
          exact ih (i + 1) (by omega) (by omega) f35 f36 P1' P2' _ _
        · simp (disch := first | exact zl_i | exact zl_r | exact zl_n | omega | exact zlen0 | exact zlen1 | exact zlen2 | exact zlen3 | exact zlen4 | exact zl_l | (unfold scF; omega) | (unfold scR; omega) | (simp only [zS_uf1, zS_uf2, zS_ur1, zS_ur2, Nat.reduceEqDiff, reduceIte, and_false, false_and, and_true, true_and, ite_true, ite_false]; done) | exact zl_n) only [Int.reduceToNat, Nat.reduceAdd, Nat.reduceMul, List.length_nil, List.length_cons, Nat.reduceLeDiff, Nat.zero_le, Option.toList_some, Option.toList_none, List.cons_append, List.nil_append, PW_nil, PW_goto, zl_i, zl_r, zl_n, PW_aload_0, PW_g134, PW_iload_1, PW_ia34, PW_ia35, PW_istore_3, PW_k1, PW_istore_4, PW_iload_4, PW_g129, PW_g128, PW_iadd, PW_ic_gt, PW_iload_3, PX_c29, PW_g138, PW_la36, PW_la37, PW_la38, PW_lsub, PW_g137, PW_lstore_5, PW_iload_2, PW_ishr, PW_iand, PW_if_ne, PW_lload_5, PW_g136, PW_lcmp, PW_if_ge, PW_ls36, PW_ls37, PW_ls38, PW_g135, PW_is34, PW_is35, PW_iinc_4_p1, PW_ret_v zret_26, zb_26_2, zb_26_3, PK_app, n_l0, n_l1, n_l2, n_l3, n_l4, n_l5, n_l8, n_l9, n_l10, n_l15, n_l20, n_l31, n_l40, n_l48, n_l57, n_l59, n_l60, n_l70, n_l99, n_l100, n_l255, n_l601, n_l602, n_l1024, n_l1500, n_l2100, n_l2101, n_l65535, n_l100000, n_l1000000, n_l100000000, i_lt, nI_clamp, nI_leI, nI_eq, nI_1, nI_add, pk_mul, pk_sub, n_in, n_negle, n_legne, n_eqneg, n_negeq, n_nn, n_bit, n_shl1, n_or, zb_e0, zb_e1, zb_r, n_em, zb_T, zb_F, zS_uf1, zS_uf2, zS_ur1, zS_ur2, zS_ur3, zS_ul1, zS_ul2, zS_ul3, z_if0, z_if1, Int.reduceEq, Nat.reduceOr, Nat.or_zero, Nat.zero_or, Bool.false_eq_true, reduceCtorEq, nar0, nar1, nar_zb, eq_self, true_and, and_true, false_and, and_false, or_true, true_or, or_false, false_or, not_true_eq_false, not_false_eq_true, Classical.not_not, true_implies, false_implies, implies_true, iff_true, iff_self, ite_true, ite_false, Nat.reduceEqDiff, Nat.reduceLT, Nat.reduceSub, Nat.add_sub_cancel, Nat.reduceLeDiff, reduceIte, ne_eq, Nat.not_le, f1, f2, him, sc', PK_app, hu, hw, jI_sub, hbit, c1, p2, hc, c2, zul_same, zur_ul, zur_same]
          refine ih (i + 1) (by omega) (by omega) _ _ (fun j hj => ?_) (fun j hj => ?_) _ _
          · by_cases z : j = i
            · subst z
              rw [pk_us]
              unfold lkC
              rw [cif_t ⟨i1, Nat.lt_succ_self _, c1, Int.not_le.mp c2⟩]
            · rw [pk_un z, P1 j hj, lkC_n z]
          · by_cases z : j = i
            · subst z
              rw [pk_uLs]
              unfold lkS
              rw [cif_t ⟨i1, Nat.lt_succ_self _, c1, Int.not_le.mp c2⟩]
            · rw [pk_uLn z, P2 j hj, lkS_n z]
  have e := key (nv + np) 1 (by omega) (Nat.le_refl _) (σ.2.1 35) (σ.2.2 36) (fun j hj => by
    rw [H2 j hj]
    unfold lkC
    rw [cif_f (fun z => by omega)]) (fun j hj => by
    rw [H3 j hj]
    unfold lkS
    rw [cif_f (fun z => by omega)]) none none
  have ez : zul (zur σ 35 (σ.2.1 35)) 36 (σ.2.2 36) = σ := by
    rw [zur_id]
    exact zul_id
  rw [ez] at e
  exact e
theorem near_w {np nv m b : Nat} {t : Nat → Nat → Nat} {rk : Nat → Nat} {S cf : Nat → Nat} {w u sl : Nat → Int} (hnp : np ≤ 10) (hnv : nv ≤ 10) (hm : m = nv + np) (hF : clF σ np nv t rk) (H : hS m S cf w u sl σ) (hb : b < 2 ^ 21) (ex : ∃ j, 1 ≤ j ∧ j ≤ m ∧ ¬ b.testBit j = true)
    (bd : ∀ j, 1 ≤ j → j ≤ m → ¬ b.testBit j = true → -5000000000000000000 ≤ sl j ∧ sl j ≤ 5000000000000000000)
    (hQ : ∀ f, 1 ≤ f → f ≤ m → ¬ b.testBit f = true → (∀ j, 1 ≤ j → j ≤ m → ¬ b.testBit j = true → sl f ≤ sl j) → Q (some (.int (nI f))) σ) : PC sc 27 [.ref 2, .int (nI b)] σ Q := by
  obtain ⟨H1, H2, H3, H4, H5⟩ := H
  have f1 := hF.1
  have f2 := hF.2.1
  subst hm
  rw [PC_27, zb_27_0]
  simp (disch := first | exact zl_i | exact zl_r | exact zl_n | omega | exact zlen0 | exact zlen1 | exact zlen2 | exact zlen3 | exact zlen4 | exact zl_l | (unfold scF; omega) | (unfold scR; omega) | (simp only [zS_uf1, zS_uf2, zS_ur1, zS_ur2, Nat.reduceEqDiff, reduceIte, and_false, false_and, and_true, true_and, ite_true, ite_false]; done) | exact zl_n) only [Int.reduceToNat, Nat.reduceAdd, Nat.reduceMul, List.length_nil, List.length_cons, Nat.reduceLeDiff, Nat.zero_le, Option.toList_some, Option.toList_none, List.cons_append, List.nil_append, PW_nil, PW_goto, zl_i, zl_r, zl_n, PW_k0, PW_istore_2, PW_k1, PW_istore_3, PW_iload_3, PW_aload_0, PW_g129, PW_g128, PW_iadd, PW_ic_gt, PW_iload_1, PW_ishr, PW_iand, PW_if_ne, PW_iload_2, PW_if_eq, PW_g136, PW_la36, PW_lcmp, PW_if_ge, PW_iinc_3_p1, PW_ret_i zret_27, zb_27_2, zb_27_3, zb_27_4, PK_app, n_l0, n_l1, n_l2, n_l3, n_l4, n_l5, n_l8, n_l9, n_l10, n_l15, n_l20, n_l31, n_l40, n_l48, n_l57, n_l59, n_l60, n_l70, n_l99, n_l100, n_l255, n_l601, n_l602, n_l1024, n_l1500, n_l2100, n_l2101, n_l65535, n_l100000, n_l1000000, n_l100000000, i_lt, nI_clamp, nI_leI, nI_eq, nI_1, nI_add, pk_mul, pk_sub, n_in, n_negle, n_legne, n_eqneg, n_negeq, n_nn, n_bit, n_shl1, n_or, zb_e0, zb_e1, zb_r, n_em, zb_T, zb_F, zS_uf1, zS_uf2, zS_ur1, zS_ur2, zS_ur3, zS_ul1, zS_ul2, zS_ul3, z_if0, z_if1, Int.reduceEq, Nat.reduceOr, Nat.or_zero, Nat.zero_or, Bool.false_eq_true, reduceCtorEq, nar0, nar1, nar_zb, eq_self, true_and, and_true, false_and, and_false, or_true, true_or, or_false, false_or, not_true_eq_false, not_false_eq_true, Classical.not_not, true_implies, false_implies, implies_true, iff_true, iff_self, ite_true, ite_false, Nat.reduceEqDiff, Nat.reduceLT, Nat.reduceSub, Nat.add_sub_cancel, Nat.reduceLeDiff, reduceIte, ne_eq, Nat.not_le]
  have key : ∀ e i, i + e = nv + np + 1 → 1 ≤ i → ∀ f, ((f = 0 ∧ ∀ j, 1 ≤ j → j < i → b.testBit j = true) ∨ (1 ≤ f ∧ f < i ∧ ¬ b.testBit f = true ∧ ∀ j, 1 ≤ j → j < i → ¬ b.testBit j = true → sl f ≤ sl j)) → PW sc 27 (zblk 27 1) 2 [some (.ref 2), some (.int (nI b)), some (.int (nI f)), some (.int (nI i))] [] (σ) Q := by
    intro e
    induction e with
    | zero =>
      intro i hi i1 f P
      rw [show i = nv + np + 1 by omega] at P ⊢
      rw [zb_27_1]
      simp (disch := first | exact zl_i | exact zl_r | exact zl_n | omega | exact zlen0 | exact zlen1 | exact zlen2 | exact zlen3 | exact zlen4 | exact zl_l | (unfold scF; omega) | (unfold scR; omega) | (simp only [zS_uf1, zS_uf2, zS_ur1, zS_ur2, Nat.reduceEqDiff, reduceIte, and_false, false_and, and_true, true_and, ite_true, ite_false]; done) | exact zl_n) only [Int.reduceToNat, Nat.reduceAdd, Nat.reduceMul, List.length_nil, List.length_cons, Nat.reduceLeDiff, Nat.zero_le, Option.toList_some, Option.toList_none, List.cons_append, List.nil_append, PW_nil, PW_goto, zl_i, zl_r, zl_n, PW_k0, PW_istore_2, PW_k1, PW_istore_3, PW_iload_3, PW_aload_0, PW_g129, PW_g128, PW_iadd, PW_ic_gt, PW_iload_1, PW_ishr, PW_iand, PW_if_ne, PW_iload_2, PW_if_eq, PW_g136, PW_la36, PW_lcmp, PW_if_ge, PW_iinc_3_p1, PW_ret_i zret_27, zb_27_2, zb_27_3, zb_27_4, PK_app, n_l0, n_l1, n_l2, n_l3, n_l4, n_l5, n_l8, n_l9, n_l10, n_l15, n_l20, n_l31, n_l40, n_l48, n_l57, n_l59, n_l60, n_l70, n_l99, n_l100, n_l255, n_l601, n_l602, n_l1024, n_l1500, n_l2100, n_l2101, n_l65535, n_l100000, n_l1000000, n_l100000000, i_lt, nI_clamp, nI_leI, nI_eq, nI_1, nI_add, pk_mul, pk_sub, n_in, n_negle, n_legne, n_eqneg, n_negeq, n_nn, n_bit, n_shl1, n_or, zb_e0, zb_e1, zb_r, n_em, zb_T, zb_F, zS_uf1, zS_uf2, zS_ur1, zS_ur2, zS_ur3, zS_ul1, zS_ul2, zS_ul3, z_if0, z_if1, Int.reduceEq, Nat.reduceOr, Nat.or_zero, Nat.zero_or, Bool.false_eq_true, reduceCtorEq, nar0, nar1, nar_zb, eq_self, true_and, and_true, false_and, and_false, or_true, true_or, or_false, false_or, not_true_eq_false, not_false_eq_true, Classical.not_not, true_implies, false_implies, implies_true, iff_true, iff_self, ite_true, ite_false, Nat.reduceEqDiff, Nat.reduceLT, Nat.reduceSub, Nat.add_sub_cancel, Nat.reduceLeDiff, reduceIte, ne_eq, Nat.not_le, f1, f2, show ¬ nv + np + 1 ≤ nv + np by omega]
      rcases P with ⟨-, P⟩ | ⟨P1, P2, P3, P4⟩
      · obtain ⟨j, a1, a2, a3⟩ := ex
        exact absurd (P j a1 (by omega)) a3
      · exact hQ f P1 (by omega) P3 (fun j a1 a2 a3 => P4 j a1 (by omega) a3)
    | succ e ih =>
      intro i hi i1 f P
      have him : i ≤ nv + np := by omega
      have hbit := n_bit (a := b) (k := i) (by omega) (by omega)
      have p2 := H3 i him
      rw [zb_27_1]
      by_cases c1 : b.testBit i = true
      · simp (disch := first | exact zl_i | exact zl_r | exact zl_n | omega | exact zlen0 | exact zlen1 | exact zlen2 | exact zlen3 | exact zlen4 | exact zl_l | (unfold scF; omega) | (unfold scR; omega) | (simp only [zS_uf1, zS_uf2, zS_ur1, zS_ur2, Nat.reduceEqDiff, reduceIte, and_false, false_and, and_true, true_and, ite_true, ite_false]; done) | exact zl_n) only [Int.reduceToNat, Nat.reduceAdd, Nat.reduceMul, List.length_nil, List.length_cons, Nat.reduceLeDiff, Nat.zero_le, Option.toList_some, Option.toList_none, List.cons_append, List.nil_append, PW_nil, PW_goto, zl_i, zl_r, zl_n, PW_k0, PW_istore_2, PW_k1, PW_istore_3, PW_iload_3, PW_aload_0, PW_g129, PW_g128, PW_iadd, PW_ic_gt, PW_iload_1, PW_ishr, PW_iand, PW_if_ne, PW_iload_2, PW_if_eq, PW_g136, PW_la36, PW_lcmp, PW_if_ge, PW_iinc_3_p1, PW_ret_i zret_27, zb_27_2, zb_27_3, zb_27_4, PK_app, n_l0, n_l1, n_l2, n_l3, n_l4, n_l5, n_l8, n_l9, n_l10, n_l15, n_l20, n_l31, n_l40, n_l48, n_l57, n_l59, n_l60, n_l70, n_l99, n_l100, n_l255, n_l601, n_l602, n_l1024, n_l1500, n_l2100, n_l2101, n_l65535, n_l100000, n_l1000000, n_l100000000, i_lt, nI_clamp, nI_leI, nI_eq, nI_1, nI_add, pk_mul, pk_sub, n_in, n_negle, n_legne, n_eqneg, n_negeq, n_nn, n_bit, n_shl1, n_or, zb_e0, zb_e1, zb_r, n_em, zb_T, zb_F, zS_uf1, zS_uf2, zS_ur1, zS_ur2, zS_ur3, zS_ul1, zS_ul2, zS_ul3, z_if0, z_if1, Int.reduceEq, Nat.reduceOr, Nat.or_zero, Nat.zero_or, Bool.false_eq_true, reduceCtorEq, nar0, nar1, nar_zb, eq_self, true_and, and_true, false_and, and_false, or_true, true_or, or_false, false_or, not_true_eq_false, not_false_eq_true, Classical.not_not, true_implies, false_implies, implies_true, iff_true, iff_self, ite_true, ite_false, Nat.reduceEqDiff, Nat.reduceLT, Nat.reduceSub, Nat.add_sub_cancel, Nat.reduceLeDiff, reduceIte, ne_eq, Nat.not_le, f1, f2, him, hbit, c1]
        refine ih (i + 1) (by omega) (by omega) f ?_
        rcases P with ⟨P0, P⟩ | ⟨P1, P2, P3, P4⟩
        · refine Or.inl ⟨P0, fun j a1 a2 => ?_⟩
          by_cases z : j = i
          · rw [z]; exact c1
          · exact P j a1 (by omega)
        · refine Or.inr ⟨P1, by omega, P3, fun j a1 a2 a3 => ?_⟩
          by_cases z : j = i
          · rw [z] at a3; exact absurd c1 a3
          · exact P4 j a1 (by omega) a3
      · rcases P with ⟨P0, P⟩ | ⟨P1, P2, P3, P4⟩
        · subst P0
          simp (disch := first | exact zl_i | exact zl_r | exact zl_n | omega | exact zlen0 | exact zlen1 | exact zlen2 | exact zlen3 | exact zlen4 | exact zl_l | (unfold scF; omega) | (unfold scR; omega) | (simp only [zS_uf1, zS_uf2, zS_ur1, zS_ur2, Nat.reduceEqDiff, reduceIte, and_false, false_and, and_true, true_and, ite_true, ite_false]; done) | exact zl_n) only [Int.reduceToNat, Nat.reduceAdd, Nat.reduceMul, List.length_nil, List.length_cons, Nat.reduceLeDiff, Nat.zero_le, Option.toList_some, Option.toList_none, List.cons_append, List.nil_append, PW_nil, PW_goto, zl_i, zl_r, zl_n, PW_k0, PW_istore_2, PW_k1, PW_istore_3, PW_iload_3, PW_aload_0, PW_g129, PW_g128, PW_iadd, PW_ic_gt, PW_iload_1, PW_ishr, PW_iand, PW_if_ne, PW_iload_2, PW_if_eq, PW_g136, PW_la36, PW_lcmp, PW_if_ge, PW_iinc_3_p1, PW_ret_i zret_27, zb_27_2, zb_27_3, zb_27_4, PK_app, n_l0, n_l1, n_l2, n_l3, n_l4, n_l5, n_l8, n_l9, n_l10, n_l15, n_l20, n_l31, n_l40, n_l48, n_l57, n_l59, n_l60, n_l70, n_l99, n_l100, n_l255, n_l601, n_l602, n_l1024, n_l1500, n_l2100, n_l2101, n_l65535, n_l100000, n_l1000000, n_l100000000, i_lt, nI_clamp, nI_leI, nI_eq, nI_1, nI_add, pk_mul, pk_sub, n_in, n_negle, n_legne, n_eqneg, n_negeq, n_nn, n_bit, n_shl1, n_or, zb_e0, zb_e1, zb_r, n_em, zb_T, zb_F, zS_uf1, zS_uf2, zS_ur1, zS_ur2, zS_ur3, zS_ul1, zS_ul2, zS_ul3, z_if0, z_if1, Int.reduceEq, Nat.reduceOr, Nat.or_zero, Nat.zero_or, Bool.false_eq_true, reduceCtorEq, nar0, nar1, nar_zb, eq_self, true_and, and_true, false_and, and_false, or_true, true_or, or_false, false_or, not_true_eq_false, not_false_eq_true, Classical.not_not, true_implies, false_implies, implies_true, iff_true, iff_self, ite_true, ite_false, Nat.reduceEqDiff, Nat.reduceLT, Nat.reduceSub, Nat.add_sub_cancel, Nat.reduceLeDiff, reduceIte, ne_eq, Nat.not_le, f1, f2, him, hbit, c1]
          refine ih (i + 1) (by omega) (by omega) i (Or.inr ⟨i1, by omega, c1, fun j a1 a2 a3 => ?_⟩)
          by_cases z : j = i
          · rw [z]; exact Int.le_refl _
          · exact absurd (P j a1 (by omega)) a3
        · have p3 := H3 f (by omega)
          have b1 := bd i i1 him c1
          have b2 := bd f P1 (by omega) P3
          have hc := jcmp (a := sl i) (b := sl f) (by omega) (by omega)
          by_cases c2 : sl f ≤ sl i
          · simp (disch := first | exact zl_i | exact zl_r | exact zl_n | omega | exact zlen0 | exact zlen1 | exact zlen2 | exact zlen3 | exact zlen4 | exact zl_l | (unfold scF; omega) | (unfold scR; omega) | (simp only [zS_uf1, zS_uf2, zS_ur1, zS_ur2, Nat.reduceEqDiff, reduceIte, and_false, false_and, and_true, true_and, ite_true, ite_false]; done) | exact zl_n) only [Int.reduceToNat, Nat.reduceAdd, Nat.reduceMul, List.length_nil, List.length_cons, Nat.reduceLeDiff, Nat.zero_le, Option.toList_some, Option.toList_none, List.cons_append, List.nil_append, PW_nil, PW_goto, zl_i, zl_r, zl_n, PW_k0, PW_istore_2, PW_k1, PW_istore_3, PW_iload_3, PW_aload_0, PW_g129, PW_g128, PW_iadd, PW_ic_gt, PW_iload_1, PW_ishr, PW_iand, PW_if_ne, PW_iload_2, PW_if_eq, PW_g136, PW_la36, PW_lcmp, PW_if_ge, PW_iinc_3_p1, PW_ret_i zret_27, zb_27_2, zb_27_3, zb_27_4, PK_app, n_l0, n_l1, n_l2, n_l3, n_l4, n_l5, n_l8, n_l9, n_l10, n_l15, n_l20, n_l31, n_l40, n_l48, n_l57, n_l59, n_l60, n_l70, n_l99, n_l100, n_l255, n_l601, n_l602, n_l1024, n_l1500, n_l2100, n_l2101, n_l65535, n_l100000, n_l1000000, n_l100000000, i_lt, nI_clamp, nI_leI, nI_eq, nI_1, nI_add, pk_mul, pk_sub, n_in, n_negle, n_legne, n_eqneg, n_negeq, n_nn, n_bit, n_shl1, n_or, zb_e0, zb_e1, zb_r, n_em, zb_T, zb_F, zS_uf1, zS_uf2, zS_ur1, zS_ur2, zS_ur3, zS_ul1, zS_ul2, zS_ul3, z_if0, z_if1, Int.reduceEq, Nat.reduceOr, Nat.or_zero, Nat.zero_or, Bool.false_eq_true, reduceCtorEq, nar0, nar1, nar_zb, eq_self, true_and, and_true, false_and, and_false, or_true, true_or, or_false, false_or, not_true_eq_false, not_false_eq_true, Classical.not_not, true_implies, false_implies, implies_true, iff_true, iff_self, ite_true, ite_false, Nat.reduceEqDiff, Nat.reduceLT, Nat.reduceSub, Nat.add_sub_cancel, Nat.reduceLeDiff, reduceIte, ne_eq, Nat.not_le, f1, f2, him, hbit, c1, show ¬ f = 0 by omega, p2, p3, hc, c2]
            refine ih (i + 1) (by omega) (by omega) f (Or.inr ⟨P1, by omega, P3, fun j a1 a2 a3 => ?_⟩)
            by_cases z : j = i
            · rw [z]; exact c2
            · exact P4 j a1 (by omega) a3
          · simp (disch := first | exact zl_i | exact zl_r | exact zl_n | omega | exact zlen0 | exact zlen1 | exact zlen2 | exact zlen3 | exact zlen4 | exact zl_l | (unfold scF; omega) | (unfold scR; omega) | (simp only [zS_uf1, zS_uf2, zS_ur1, zS_ur2, Nat.reduceEqDiff, reduceIte, and_false, false_and, and_true, true_and, ite_true, ite_false]; done) | exact zl_n) only [Int.reduceToNat, Nat.reduceAdd, Nat.reduceMul, List.length_nil, List.length_cons, Nat.reduceLeDiff, Nat.zero_le, Option.toList_some, Option.toList_none, List.cons_append, List.nil_append, PW_nil, PW_goto, zl_i, zl_r, zl_n, PW_k0, PW_istore_2, PW_k1, PW_istore_3, PW_iload_3, PW_aload_0, PW_g129, PW_g128, PW_iadd, PW_ic_gt, PW_iload_1, PW_ishr, PW_iand, PW_if_ne, PW_iload_2, PW_if_eq, PW_g136, PW_la36, PW_lcmp, PW_if_ge, PW_iinc_3_p1, PW_ret_i zret_27, zb_27_2, zb_27_3, zb_27_4, PK_app, n_l0, n_l1, n_l2, n_l3, n_l4, n_l5, n_l8, n_l9, n_l10, n_l15, n_l20, n_l31, n_l40, n_l48, n_l57, n_l59, n_l60, n_l70, n_l99, n_l100, n_l255, n_l601, n_l602, n_l1024, n_l1500, n_l2100, n_l2101, n_l65535, n_l100000, n_l1000000, n_l100000000, i_lt, nI_clamp, nI_leI, nI_eq, nI_1, nI_add, pk_mul, pk_sub, n_in, n_negle, n_legne, n_eqneg, n_negeq, n_nn, n_bit, n_shl1, n_or, zb_e0, zb_e1, zb_r, n_em, zb_T, zb_F, zS_uf1, zS_uf2, zS_ur1, zS_ur2, zS_ur3, zS_ul1, zS_ul2, zS_ul3, z_if0, z_if1, Int.reduceEq, Nat.reduceOr, Nat.or_zero, Nat.zero_or, Bool.false_eq_true, reduceCtorEq, nar0, nar1, nar_zb, eq_self, true_and, and_true, false_and, and_false, or_true, true_or, or_false, false_or, not_true_eq_false, not_false_eq_true, Classical.not_not, true_implies, false_implies, implies_true, iff_true, iff_self, ite_true, ite_false, Nat.reduceEqDiff, Nat.reduceLT, Nat.reduceSub, Nat.add_sub_cancel, Nat.reduceLeDiff, reduceIte, ne_eq, Nat.not_le, f1, f2, him, hbit, c1, show ¬ f = 0 by omega, p2, p3, hc, c2]
            refine ih (i + 1) (by omega) (by omega) i (Or.inr ⟨i1, by omega, c1, fun j a1 a2 a3 => ?_⟩)
            by_cases z : j = i
            · rw [z]; exact Int.le_refl _
            · have := P4 j a1 (by omega) a3
              omega
  exact key (nv + np) 1 (by omega) (Nat.le_refl _) 0 (Or.inl ⟨rfl, fun j a1 a2 => by omega⟩)
noncomputable def pyS (b : Nat) (d : Int) (sl : Nat → Int) (i j : Nat) : Int := cif (j < i ∧ ¬ b.testBit j = true) (sl j - d) (sl j)
noncomputable def pyW (b : Nat) (d : Int) (w : Nat → Int) (i j : Nat) : Int := cif (j < i ∧ b.testBit j = true) (w j - d) (w j)
noncomputable def pyU (b : Nat) (S : Nat → Nat) (d : Int) (u : Nat → Int) (i x : Nat) : Int := cif (∃ r, r < i ∧ b.testBit r = true ∧ S r = x) (u x + d) (u x)
theorem pay_w {np nv m b : Nat} {d : Int} {t : Nat → Nat → Nat} {rk : Nat → Nat} {S cf : Nat → Nat} {w u sl : Nat → Int} (hnp : np ≤ 10) (hnv : nv ≤ 10) (hm : m = nv + np) (hF : clF σ np nv t rk) (H : hS m S cf w u sl σ) (hb : b < 2 ^ 21)
    (hs : ∀ r, r ≤ m → b.testBit r = true → S r ≤ 10) (inj : ∀ r q, r ≤ m → q ≤ m → b.testBit r = true → b.testBit q = true → S r = S q → r = q)
    (hQ : ∀ σ', hFr σ σ' → hS m S cf (pyW b d w (m + 1)) (pyU b S d u (m + 1)) (pyS b d sl (m + 1)) σ' → Q none σ') : PC sc 28 [.ref 2, .long (jI d), .int (nI b)] σ Q := by
  obtain ⟨H1, H2, H3, H4, H5⟩ := H
  have f1 := hF.1
  have f2 := hF.2.1
  subst hm
  rw [PC_28, zb_28_0]
  simp (disch := first | exact zl_i | exact zl_r | exact zl_n | omega | exact zlen0 | exact zlen1 | exact zlen2 | exact zlen3 | exact zlen4 | exact zl_l | (unfold scF; omega) | (unfold scR; omega) | (simp only [zS_uf1, zS_uf2, zS_ur1, zS_ur2, Nat.reduceEqDiff, reduceIte, and_false, false_and, and_true, true_and, ite_true, ite_false]; done) | exact zl_n) only [Int.reduceToNat, Nat.reduceAdd, Nat.reduceMul, List.length_nil, List.length_cons, Nat.reduceLeDiff, Nat.zero_le, Option.toList_some, Option.toList_none, List.cons_append, List.nil_append, PW_nil, PW_goto, zl_i, zl_r, zl_n, PW_k0, PW_istore_4, PW_iload_4, PW_aload_0, PW_g129, PW_g128, PW_iadd, PW_ic_gt, PW_iload_3, PW_ishr, PW_k1, PW_iand, PW_if_ne, PW_g136, PW_dup2, PW_la36, PW_la37, PW_la38, PW_lload_1, PW_lsub, PW_ls36, PW_ls37, PW_ls38, PW_g138, PW_g134, PW_ia34, PW_ladd, PW_g137, PW_iinc_4_p1, PW_ret_v zret_28, zb_28_2, zb_28_3, zb_28_4, PK_app, n_l0, n_l1, n_l2, n_l3, n_l4, n_l5, n_l8, n_l9, n_l10, n_l15, n_l20, n_l31, n_l40, n_l48, n_l57, n_l59, n_l60, n_l70, n_l99, n_l100, n_l255, n_l601, n_l602, n_l1024, n_l1500, n_l2100, n_l2101, n_l65535, n_l100000, n_l1000000, n_l100000000, i_lt, nI_clamp, nI_leI, nI_eq, nI_1, nI_add, pk_mul, pk_sub, n_in, n_negle, n_legne, n_eqneg, n_negeq, n_nn, n_bit, n_shl1, n_or, zb_e0, zb_e1, zb_r, n_em, zb_T, zb_F, zS_uf1, zS_uf2, zS_ur1, zS_ur2, zS_ur3, zS_ul1, zS_ul2, zS_ul3, z_if0, z_if1, Int.reduceEq, Nat.reduceOr, Nat.or_zero, Nat.zero_or, Bool.false_eq_true, reduceCtorEq, nar0, nar1, nar_zb, eq_self, true_and, and_true, false_and, and_false, or_true, true_or, or_false, false_or, not_true_eq_false, not_false_eq_true, Classical.not_not, true_implies, false_implies, implies_true, iff_true, iff_self, ite_true, ite_false, Nat.reduceEqDiff, Nat.reduceLT, Nat.reduceSub, Nat.add_sub_cancel, Nat.reduceLeDiff, reduceIte, ne_eq, Nat.not_le]
  have key : ∀ e i, i + e = nv + np + 1 → ∀ g36 g37 g38, (∀ j, j ≤ nv + np → g36 j = jI (pyS b d sl i j)) → (∀ j, j ≤ nv + np → g37 j = jI (pyW b d w i j)) → (∀ x, x ≤ 10 → g38 x = jI (pyU b S d u i x)) → PW sc 28 (zblk 28 1) 2 [some (.ref 2), some (.long (jI d)), none, some (.int (nI b)), some (.int (nI i))] [] (zul (zul (zul σ 36 g36) 37 g37) 38 g38) Q := by
    intro e
    induction e with
    | zero =>
      intro i hi g36 g37 g38 P1 P2 P3
      rw [show i = nv + np + 1 by omega] at P1 P2 P3 ⊢
      rw [zb_28_1]
      simp (disch := first | exact zl_i | exact zl_r | exact zl_n | omega | exact zlen0 | exact zlen1 | exact zlen2 | exact zlen3 | exact zlen4 | exact zl_l | (unfold scF; omega) | (unfold scR; omega) | (simp only [zS_uf1, zS_uf2, zS_ur1, zS_ur2, Nat.reduceEqDiff, reduceIte, and_false, false_and, and_true, true_and, ite_true, ite_false]; done) | exact zl_n) only [Int.reduceToNat, Nat.reduceAdd, Nat.reduceMul, List.length_nil, List.length_cons, Nat.reduceLeDiff, Nat.zero_le, Option.toList_some, Option.toList_none, List.cons_append, List.nil_append, PW_nil, PW_goto, zl_i, zl_r, zl_n, PW_k0, PW_istore_4, PW_iload_4, PW_aload_0, PW_g129, PW_g128, PW_iadd, PW_ic_gt, PW_iload_3, PW_ishr, PW_k1, PW_iand, PW_if_ne, PW_g136, PW_dup2, PW_la36, PW_la37, PW_la38, PW_lload_1, PW_lsub, PW_ls36, PW_ls37, PW_ls38, PW_g138, PW_g134, PW_ia34, PW_ladd, PW_g137, PW_iinc_4_p1, PW_ret_v zret_28, zb_28_2, zb_28_3, zb_28_4, PK_app, n_l0, n_l1, n_l2, n_l3, n_l4, n_l5, n_l8, n_l9, n_l10, n_l15, n_l20, n_l31, n_l40, n_l48, n_l57, n_l59, n_l60, n_l70, n_l99, n_l100, n_l255, n_l601, n_l602, n_l1024, n_l1500, n_l2100, n_l2101, n_l65535, n_l100000, n_l1000000, n_l100000000, i_lt, nI_clamp, nI_leI, nI_eq, nI_1, nI_add, pk_mul, pk_sub, n_in, n_negle, n_legne, n_eqneg, n_negeq, n_nn, n_bit, n_shl1, n_or, zb_e0, zb_e1, zb_r, n_em, zb_T, zb_F, zS_uf1, zS_uf2, zS_ur1, zS_ur2, zS_ur3, zS_ul1, zS_ul2, zS_ul3, z_if0, z_if1, Int.reduceEq, Nat.reduceOr, Nat.or_zero, Nat.zero_or, Bool.false_eq_true, reduceCtorEq, nar0, nar1, nar_zb, eq_self, true_and, and_true, false_and, and_false, or_true, true_or, or_false, false_or, not_true_eq_false, not_false_eq_true, Classical.not_not, true_implies, false_implies, implies_true, iff_true, iff_self, ite_true, ite_false, Nat.reduceEqDiff, Nat.reduceLT, Nat.reduceSub, Nat.add_sub_cancel, Nat.reduceLeDiff, reduceIte, ne_eq, Nat.not_le, f1, f2, show ¬ nv + np + 1 ≤ nv + np by omega]
      exact hQ _ (hFr_t (hFr_t hFr_ul hFr_ul) hFr_ul) ⟨H1, H2, P1, P2, P3⟩
    | succ e ih =>
      intro i hi g36 g37 g38 P1 P2 P3
      have him : i ≤ nv + np := by omega
      have hbit := n_bit (a := b) (k := i) (by omega) (by omega)
      have p1 := P1 i him
      have p2 := P2 i him
      have h34 := H1 i him
      rw [zb_28_1]
      by_cases c1 : b.testBit i = true
      · have s10 := hs i him c1
        have p3 := P3 (S i) s10
        have e2 : pyW b d w i i = w i := cif_f (fun z => by omega)
        have e3 : pyU b S d u i (S i) = u (S i) := cif_f (fun z => by
          obtain ⟨r, r1, r2, r3⟩ := z
          have := inj r i (by omega) him r2 c1 r3
          omega)
        rw [e2] at p2
        rw [e3] at p3
        simp (disch := first | exact zl_i | exact zl_r | exact zl_n | omega | exact zlen0 | exact zlen1 | exact zlen2 | exact zlen3 | exact zlen4 | exact zl_l | (unfold scF; omega) | (unfold scR; omega) | (simp only [zS_uf1, zS_uf2, zS_ur1, zS_ur2, Nat.reduceEqDiff, reduceIte, and_false, false_and, and_true, true_and, ite_true, ite_false]; done) | exact zl_n) only [Int.reduceToNat, Nat.reduceAdd, Nat.reduceMul, List.length_nil, List.length_cons, Nat.reduceLeDiff, Nat.zero_le, Option.toList_some, Option.toList_none, List.cons_append, List.nil_append, PW_nil, PW_goto, zl_i, zl_r, zl_n, PW_k0, PW_istore_4, PW_iload_4, PW_aload_0, PW_g129, PW_g128, PW_iadd, PW_ic_gt, PW_iload_3, PW_ishr, PW_k1, PW_iand, PW_if_ne, PW_g136, PW_dup2, PW_la36, PW_la37, PW_la38, PW_lload_1, PW_lsub, PW_ls36, PW_ls37, PW_ls38, PW_g138, PW_g134, PW_ia34, PW_ladd, PW_g137, PW_iinc_4_p1, PW_ret_v zret_28, zb_28_2, zb_28_3, zb_28_4, PK_app, n_l0, n_l1, n_l2, n_l3, n_l4, n_l5, n_l8, n_l9, n_l10, n_l15, n_l20, n_l31, n_l40, n_l48, n_l57, n_l59, n_l60, n_l70, n_l99, n_l100, n_l255, n_l601, n_l602, n_l1024, n_l1500, n_l2100, n_l2101, n_l65535, n_l100000, n_l1000000, n_l100000000, i_lt, nI_clamp, nI_leI, nI_eq, nI_1, nI_add, pk_mul, pk_sub, n_in, n_negle, n_legne, n_eqneg, n_negeq, n_nn, n_bit, n_shl1, n_or, zb_e0, zb_e1, zb_r, n_em, zb_T, zb_F, zS_uf1, zS_uf2, zS_ur1, zS_ur2, zS_ur3, zS_ul1, zS_ul2, zS_ul3, z_if0, z_if1, Int.reduceEq, Nat.reduceOr, Nat.or_zero, Nat.zero_or, Bool.false_eq_true, reduceCtorEq, nar0, nar1, nar_zb, eq_self, true_and, and_true, false_and, and_false, or_true, true_or, or_false, false_or, not_true_eq_false, not_false_eq_true, Classical.not_not, true_implies, false_implies, implies_true, iff_true, iff_self, ite_true, ite_false, Nat.reduceEqDiff, Nat.reduceLT, Nat.reduceSub, Nat.add_sub_cancel, Nat.reduceLeDiff, reduceIte, ne_eq, Nat.not_le, f1, f2, him, hbit, c1, h34, p2, p3, jI_add, jI_sub, zul_same, zul_sw, zul_sw2]
        refine ih (i + 1) (by omega) _ _ _ (fun j hj => ?_) (fun j hj => ?_) (fun x hx => ?_)
        · rw [P1 j hj]
          unfold pyS
          by_cases z : j = i
          · subst z
            rw [cif_f (fun y => y.2 c1), cif_f (fun y => y.2 c1)]
          · rw [lk_d z]
        · by_cases z : j = i
          · subst z
            rw [pk_uLs]
            unfold pyW
            rw [cif_t ⟨by omega, c1⟩]
          · rw [pk_uLn z, P2 j hj]
            unfold pyW
            rw [lk_d z]
        · by_cases z : x = S i
          · subst z
            rw [pk_uLs]
            unfold pyU
            rw [cif_t ⟨i, by omega, c1, rfl⟩]
          · rw [pk_uLn z, P3 x hx]
            unfold pyU
            congr 2
            apply propext
            constructor
            · rintro ⟨r, r1, r2, r3⟩
              exact ⟨r, by omega, r2, r3⟩
            · rintro ⟨r, r1, r2, r3⟩
              by_cases y : r = i
              · subst y; exact absurd r3.symm z
              · exact ⟨r, by omega, r2, r3⟩
      · have e1 : pyS b d sl i i = sl i := cif_f (fun z => by omega)
        rw [e1] at p1
        simp (disch := first | exact zl_i | exact zl_r | exact zl_n | omega | exact zlen0 | exact zlen1 | exact zlen2 | exact zlen3 | exact zlen4 | exact zl_l | (unfold scF; omega) | (unfold scR; omega) | (simp only [zS_uf1, zS_uf2, zS_ur1, zS_ur2, Nat.reduceEqDiff, reduceIte, and_false, false_and, and_true, true_and, ite_true, ite_false]; done) | exact zl_n) only [Int.reduceToNat, Nat.reduceAdd, Nat.reduceMul, List.length_nil, List.length_cons, Nat.reduceLeDiff, Nat.zero_le, Option.toList_some, Option.toList_none, List.cons_append, List.nil_append, PW_nil, PW_goto, zl_i, zl_r, zl_n, PW_k0, PW_istore_4, PW_iload_4, PW_aload_0, PW_g129, PW_g128, PW_iadd, PW_ic_gt, PW_iload_3, PW_ishr, PW_k1, PW_iand, PW_if_ne, PW_g136, PW_dup2, PW_la36, PW_la37, PW_la38, PW_lload_1, PW_lsub, PW_ls36, PW_ls37, PW_ls38, PW_g138, PW_g134, PW_ia34, PW_ladd, PW_g137, PW_iinc_4_p1, PW_ret_v zret_28, zb_28_2, zb_28_3, zb_28_4, PK_app, n_l0, n_l1, n_l2, n_l3, n_l4, n_l5, n_l8, n_l9, n_l10, n_l15, n_l20, n_l31, n_l40, n_l48, n_l57, n_l59, n_l60, n_l70, n_l99, n_l100, n_l255, n_l601, n_l602, n_l1024, n_l1500, n_l2100, n_l2101, n_l65535, n_l100000, n_l1000000, n_l100000000, i_lt, nI_clamp, nI_leI, nI_eq, nI_1, nI_add, pk_mul, pk_sub, n_in, n_negle, n_legne, n_eqneg, n_negeq, n_nn, n_bit, n_shl1, n_or, zb_e0, zb_e1, zb_r, n_em, zb_T, zb_F, zS_uf1, zS_uf2, zS_ur1, zS_ur2, zS_ur3, zS_ul1, zS_ul2, zS_ul3, z_if0, z_if1, Int.reduceEq, Nat.reduceOr, Nat.or_zero, Nat.zero_or, Bool.false_eq_true, reduceCtorEq, nar0, nar1, nar_zb, eq_self, true_and, and_true, false_and, and_false, or_true, true_or, or_false, false_or, not_true_eq_false, not_false_eq_true, Classical.not_not, true_implies, false_implies, implies_true, iff_true, iff_self, ite_true, ite_false, Nat.reduceEqDiff, Nat.reduceLT, Nat.reduceSub, Nat.add_sub_cancel, Nat.reduceLeDiff, reduceIte, ne_eq, Nat.not_le, f1, f2, him, hbit, c1, p1, jI_sub, zul_same, zul_sw, zul_sw2]
        refine ih (i + 1) (by omega) _ _ _ (fun j hj => ?_) (fun j hj => ?_) (fun x hx => ?_)
        · by_cases z : j = i
          · subst z
            rw [pk_uLs]
            unfold pyS
            rw [cif_t ⟨by omega, c1⟩]
          · rw [pk_uLn z, P1 j hj]
            unfold pyS
            rw [lk_d z]
        · rw [P2 j hj]
          unfold pyW
          by_cases z : j = i
          · subst z
            rw [cif_f (fun y => c1 y.2), cif_f (fun y => c1 y.2)]
          · rw [lk_d z]
        · rw [P3 x hx]
          unfold pyU
          congr 2
          apply propext
          constructor
          · rintro ⟨r, r1, r2, r3⟩
            exact ⟨r, by omega, r2, r3⟩
          · rintro ⟨r, r1, r2, r3⟩
            by_cases y : r = i
            · subst y; exact absurd r2 c1
            · exact ⟨r, by omega, r2, r3⟩
  have e := key (nv + np + 1) 0 (by omega) (σ.2.2 36) (σ.2.2 37) (σ.2.2 38) (fun j hj => by
    rw [H3 j hj]
    unfold pyS
    rw [cif_f (fun z => by omega)]) (fun j hj => by
    rw [H4 j hj]
    unfold pyW
    rw [cif_f (fun z => by omega)]) (fun j hj => by
    rw [H5 j hj]
    unfold pyU
    rw [cif_f (fun z => by obtain ⟨r, r1, -⟩ := z; omega)])
  have ez : zul (zul (zul σ 36 (σ.2.2 36)) 37 (σ.2.2 37)) 38 (σ.2.2 38) = σ := by
    rw [zul_id, zul_id]
    exact zul_id
  rw [ez] at e
  exact e
end HL
