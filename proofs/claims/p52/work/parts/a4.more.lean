/-! more of the class's rows (out of wip/whole/src by ext2.py) -/
theorem n_or_lt {a b n : Nat} (ha : a < 2 ^ n) (hb : b < 2 ^ n) : a ||| b < 2 ^ n := Nat.or_lt_two_pow ha hb
theorem n_pow_lt {v n : Nat} (h : v < n) : 2 ^ v < 2 ^ n := Nat.pow_lt_pow_right (by omega) h
/-- the told ones as bits -/
noncomputable def bitsOf (c : Nat → Prop) : Nat → Nat
  | 0 => 0
  | i + 1 => @ite _ (c i) (Classical.propDecidable _) (bitsOf c i ||| 2 ^ i) (bitsOf c i)
theorem bitsOf_t {c : Nat → Prop} {i : Nat} (h : c i) : bitsOf c (i + 1) = bitsOf c i ||| 2 ^ i := if_pos h
theorem bitsOf_f {c : Nat → Prop} {i : Nat} (h : ¬ c i) : bitsOf c (i + 1) = bitsOf c i := if_neg h
theorem bitsOf_lt {c : Nat → Prop} : ∀ {n : Nat}, bitsOf c n < 2 ^ n
  | 0 => by show (0 : Nat) < 1; omega
  | n + 1 => by
    have ih := bitsOf_lt (c := c) (n := n)
    have h2 : (2 : Nat) ^ n < 2 ^ (n + 1) := n_pow_lt (by omega)
    by_cases h : c n
    · rw [bitsOf_t h]
      exact n_or_lt (by omega) h2
    · rw [bitsOf_f h]
      omega
theorem bitsOf_bit {c : Nat → Prop} {i : Nat} : ∀ {n : Nat}, (bitsOf c n).testBit i = true ↔ i < n ∧ c i
  | 0 => by simp [bitsOf]
  | n + 1 => by
    have ih := bitsOf_bit (c := c) (i := i) (n := n)
    by_cases h : c n
    · rw [bitsOf_t h, bl_tb, Bool.or_eq_true, ih, decide_eq_true_eq]
      constructor
      · rintro (⟨a, b⟩ | e)
        · exact ⟨by omega, b⟩
        · subst e; exact ⟨by omega, h⟩
      · rintro ⟨a, b⟩
        by_cases e : n = i
        · exact Or.inr e
        · exact Or.inl ⟨by omega, b⟩
    · rw [bitsOf_f h, ih]
      constructor
      · rintro ⟨a, b⟩
        exact ⟨by omega, b⟩
      · rintro ⟨a, b⟩
        refine ⟨?_, b⟩
        by_cases e : n = i
        · subst e; exact absurd b h
        · omega
theorem bits_ext {a b n : Nat} (ha : a < 2 ^ n) (hb : b < 2 ^ n) (h : ∀ i, i < n → (a.testBit i = true ↔ b.testBit i = true)) : a = b := by
  apply Nat.eq_of_testBit_eq
  intro i
  by_cases q : i < n
  · have := h i q
    cases x : a.testBit i <;> cases y : b.testBit i <;> simp [x, y] at this ⊢
  · rw [Nat.testBit_lt_two_pow (Nat.lt_of_lt_of_le ha (Nat.pow_le_pow_right (by omega) (by omega))), Nat.testBit_lt_two_pow (Nat.lt_of_lt_of_le hb (Nat.pow_le_pow_right (by omega) (by omega)))]
def ln_on (C F T : Nat → Int32) (n d : Int32) (l : Nat) : Prop := C l = n ∧ F l ≤ d ∧ d ≤ T l
theorem iI_eq {a b : Int} (ha : -2147483648 ≤ a ∧ a < 2147483648) (hb : -2147483648 ≤ b ∧ b < 2147483648) : iI a = iI b ↔ a = b := by
  rw [← Int32.toInt_inj, iI_toInt ha, iI_toInt hb]
theorem iI_of {x : Int32} : iI x.toInt = x := Int32.toInt_inj.mp (by
  rw [iI_toInt]
  exact ⟨Int32.le_toInt x, Int32.toInt_lt x⟩)
noncomputable def hlr (x : Nat → Int32) : Nat → Nat → Option Nat
  | 0, _ => none
  | i + 1, v => cif (x i = nI v) (some i) (hlr x i v)
theorem hlr_t {x : Nat → Int32} {i v : Nat} (h : x i = nI v) : hlr x (i + 1) v = some i := cif_t h
theorem hlr_f {x : Nat → Int32} {i v : Nat} (h : ¬ x i = nI v) : hlr x (i + 1) v = hlr x i v := cif_f h
theorem hlr_n {x : Nat → Int32} {v : Nat} : ∀ {i : Nat}, hlr x i v = none ↔ ∀ q, q < i → ¬ x q = nI v
  | 0 => ⟨fun _ q h => absurd h (Nat.not_lt_zero q), fun _ => rfl⟩
  | i + 1 => by
    by_cases h : x i = nI v
    · rw [hlr_t h]
      exact ⟨fun z => (by cases z), fun z => absurd h (z i (by omega))⟩
    · rw [hlr_f h, hlr_n (i := i)]
      constructor
      · intro z q hq
        by_cases e : q = i
        · subst e; exact h
        · exact z q (by omega)
      · exact fun z q hq => z q (by omega)
theorem hlr_s {x : Nat → Int32} {v q : Nat} : ∀ {i : Nat}, hlr x i v = some q → q < i ∧ x q = nI v
  | 0, h => by cases h
  | i + 1, h => by
    by_cases e : x i = nI v
    · rw [hlr_t e] at h
      cases h
      exact ⟨by omega, e⟩
    · rw [hlr_f e] at h
      have := hlr_s h
      exact ⟨by omega, this.2⟩
/-- the row told is a lending up to i -/
def lok (M : Nat → Nat → Prop) (nv : Nat) (x : Nat → Int32) (i : Nat) : Prop := ∀ p, p < i → x p = -nI 1 ∨ ∃ v, v < nv ∧ x p = nI v ∧ M p v ∧ ∀ q, q < p → ¬ x q = nI v
noncomputable def sB (x : Nat → Int32) (nv i : Nat) : Nat := bitsOf (fun v => ¬ hlr x i v = none) nv
theorem sB_0 {x : Nat → Int32} {nv : Nat} : sB x nv 0 = 0 := by
  apply Nat.eq_of_testBit_eq
  intro j
  rw [Nat.zero_testBit]
  refine Bool.eq_false_iff.mpr (fun h => ?_)
  exact (bitsOf_bit.mp h).2 rfl
theorem sB_lt {x : Nat → Int32} {nv i : Nat} (h : nv ≤ 10) : sB x nv i < 1024 := by
  have h1 : sB x nv i < 2 ^ nv := bitsOf_lt
  have h2 := Nat.pow_le_pow_right (show 0 < 2 by omega) h
  have h3 : (2 : Nat) ^ 10 = 1024 := rfl
  omega
theorem sB_k {x : Nat → Int32} {nv i : Nat} (hn : nv ≤ 10) (h : x i = -nI 1) : sB x nv (i + 1) = sB x nv i := by
  refine bits_ext (n := nv) bitsOf_lt bitsOf_lt (fun v hv => ?_)
  unfold sB
  rw [bitsOf_bit, bitsOf_bit, hlr_f (fun e => by
    rw [h] at e
    exact (n_negeq (by omega) (by omega)).mp e)]
theorem sB_s {x : Nat → Int32} {nv i v : Nat} (hn : nv ≤ 10) (hv : v < nv) (h : x i = nI v) : sB x nv (i + 1) = sB x nv i ||| 2 ^ v := by
  refine bits_ext (n := nv) bitsOf_lt (Nat.or_lt_two_pow bitsOf_lt (Nat.pow_lt_pow_right (by omega) hv)) (fun u hu => ?_)
  rw [Nat.testBit_or, Nat.testBit_two_pow]
  unfold sB
  simp only [Bool.or_eq_true, decide_eq_true_eq]
  rw [bitsOf_bit, bitsOf_bit]
  by_cases z : v = u
  · subst z
    rw [hlr_t h]
    exact ⟨fun _ => Or.inr rfl, fun _ => ⟨hu, fun w => by cases w⟩⟩
  · rw [hlr_f (fun e => z ((nI_eq (by omega) (by omega)).mp (h.symm.trans e)))]
    exact ⟨Or.inl, fun w => w.elim id (fun e => absurd e z)⟩
theorem sB_bit {x : Nat → Int32} {nv i v : Nat} (hv : v < nv) : (sB x nv i).testBit v = true ↔ ¬ hlr x i v = none := by
  unfold sB
  rw [bitsOf_bit]
  exact ⟨fun z => z.2, fun z => ⟨hv, z⟩⟩
noncomputable def dgl (gt : Nat → Prop) (wt : Nat → Nat) : Nat → Nat → Nat
  | 0, _ => 0
  | p + 1, j => cif (gt p ∧ j = cnt gt p) (wt p) (dgl gt wt p j)
noncomputable def drw (gt : Nat → Prop) (wt : Nat → Nat) (g : Nat → Int32) (i : Nat) : Nat → Int32 := fun j => if j < cnt gt i then nI (dgl gt wt i j) else g j
section DG
variable {gt : Nat → Prop} {wt : Nat → Nat} {g : Nat → Int32}
theorem drw_0 : drw gt wt g 0 = g := funext fun j => if_neg (Nat.not_lt_zero j)
theorem drw_s {i : Nat} (h : gt i) : upd (drw gt wt g i) (cnt gt i) (nI (wt i)) = drw gt wt g (i + 1) := funext fun j => by
  unfold upd drw
  rw [cnt_t h]
  have e : dgl gt wt (i + 1) j = cif (gt i ∧ j = cnt gt i) (wt i) (dgl gt wt i j) := rfl
  rw [e]
  by_cases z : j = cnt gt i
  · rw [if_pos z, if_pos (show j < cnt gt i + 1 by omega), cif_t ⟨h, z⟩]
  · rw [if_neg z, cif_f (fun w => z w.2)]
    by_cases q : j < cnt gt i
    · rw [if_pos q, if_pos (show j < cnt gt i + 1 by omega)]
    · rw [if_neg q, if_neg (show ¬ j < cnt gt i + 1 by omega)]
theorem drw_k {i : Nat} (h : ¬ gt i) : drw gt wt g (i + 1) = drw gt wt g i := funext fun j => by
  unfold drw
  have e : dgl gt wt (i + 1) j = cif (gt i ∧ j = cnt gt i) (wt i) (dgl gt wt i j) := rfl
  rw [cnt_f h, e, cif_f (fun w => h w.1)]
theorem dgl_is {j : Nat} : ∀ {i : Nat}, j < cnt gt i → ∃ p, p < i ∧ gt p ∧ dgl gt wt i j = wt p
  | 0, h => absurd h (Nat.not_lt_zero _)
  | i + 1, h => by
    have e : dgl gt wt (i + 1) j = cif (gt i ∧ j = cnt gt i) (wt i) (dgl gt wt i j) := rfl
    by_cases q : gt i ∧ j = cnt gt i
    · exact ⟨i, by omega, q.1, by rw [e, cif_t q]⟩
    · have hl : j < cnt gt i := by
        by_cases z : gt i
        · rw [cnt_t z] at h
          have : j ≠ cnt gt i := fun w => q ⟨z, w⟩
          omega
        · rw [cnt_f z] at h
          exact h
      obtain ⟨p, a, b, c⟩ := dgl_is hl
      exact ⟨p, by omega, b, by rw [e, cif_f q]; exact c⟩
end DG
noncomputable def dwt (H O x : Nat → Int32) (p : Nat) : Nat := dw1 (H p) p ||| dw2 (O (x p).toNatClampNeg)
def dgt (H x : Nat → Int32) (p : Nat) : Prop := ¬ x p = -nI 1 ∧ ¬ H p = x p
def dgv (H x : Nat → Int32) (p : Nat) : Prop := ¬ H p = -nI 1 ∧ ¬ H p = x p
theorem n_rng2 {x : Int32} {nv : Nat} (h : nv ≤ 10) : (-nI 1 ≤ x ∧ ¬ nI nv ≤ x) ↔ (x = -nI 1 ∨ ∃ v, v < nv ∧ x = nI v) := by
  have a := Int32.le_toInt x
  have b := Int32.toInt_lt x
  have e1 : -nI 1 = iI (-1) := rfl
  have e3 : ∀ v : Nat, v < nv → (iI x.toInt = nI v ↔ x.toInt = v) := fun v hv => by rw [iI_n, iI_eq (by omega) (by omega)]
  rw [e1, iI_n nv]
  have e4 : x = iI x.toInt := iI_of.symm
  generalize x.toInt = z at *
  subst e4
  rw [iI_le (by omega) (by omega), iI_le (by omega) (by omega), iI_eq (by omega) (by omega)]
  constructor
  · rintro ⟨p, q⟩
    by_cases c : z = -1
    · exact Or.inl c
    · exact Or.inr ⟨z.toNat, by omega, (e3 _ (by omega)).mpr (by omega)⟩
  · rintro (p | ⟨v, p, q⟩)
    · omega
    · have := (e3 v p).mp q
      omega
section DG2
variable {sc : zX} {σ : zS} {Q : Option Value → zS → Prop}
theorem want_w {np nv : Nat} {x : Nat → Int32} (hnp : np ≤ 10) (hnv : nv ≤ 10) (hx : ∀ p, p < np → σ.2.1 72 p = x p) (hH : ∀ p, p < np → σ.2.1 47 p = -nI 1 ∨ ∃ u, u < 10 ∧ σ.2.1 47 p = nI u) (hO : ∀ v, v < nv → σ.2.1 48 v = -nI 1 ∨ ∃ q, q < 10 ∧ σ.2.1 48 v = nI q)
    (hyes : lok (fun _ _ => True) nv x np → Q (some (.int (nI 1))) (zur (zuf (zuf σ 5 2 (nI (bitsOf (dgv (σ.2.1 47) x) (np)))) 5 4 (nI (cnt (dgt (σ.2.1 47) x) (np)))) 49 (drw (dgt (σ.2.1 47) x) (dwt (σ.2.1 47) (σ.2.1 48) x) (σ.2.1 49) (np)))) (hno : ¬ lok (fun _ _ => True) nv x np → ∀ i, Q (some (.int (nI 0))) (zur (zuf (zuf σ 5 2 (nI (bitsOf (dgv (σ.2.1 47) x) (i)))) 5 4 (nI (cnt (dgt (σ.2.1 47) x) (i)))) 49 (drw (dgt (σ.2.1 47) x) (dwt (σ.2.1 47) (σ.2.1 48) x) (σ.2.1 49) (i)))) :
    PC sc 3 [.ref 5, .ref 72, .int (nI np), .int (nI nv)] σ Q := by
  rw [PC_3, zb_3_0]
  simp (disch := first | exact zl_i | exact zl_r | exact zl_n | omega | exact zlen0 | exact zlen1 | exact zlen2 | exact zlen3 | exact zlen4 | exact zl_l | (simp only [zS_uf1, zS_uf2, zS_ur1, zS_ur2, Nat.reduceEqDiff, reduceIte, and_false, false_and, and_true, true_and, ite_true, ite_false]; done) | exact zl_n) only [Int.reduceToNat, Nat.reduceAdd, Nat.reduceMul, List.length_nil, List.length_cons, Nat.reduceLeDiff, Nat.zero_le, Option.toList_some, Option.toList_none, List.cons_append, List.nil_append, PW_nil, PW_goto, zl_i, zl_r, zl_n, PW_k0, PW_istore_4, PW_aload_0, PW_p322, PW_p324, PW_istore_5, PW_iload_5, PW_iload_2, PW_ic_ge, PW_aload_1, PW_ia47, PW_istore_6, PW_iload_6, PW_km1, PW_ic_lt, PW_iload_3, PW_if_lt, PW_iload_4, PW_ishr, PW_k1, PW_iand, PW_ic_ne, PW_ret_z zret_3, PW_g320, PW_ic_eq, PW_dup_i, PW_dup_r, PW_g322, PW_ishl, PW_ior, PX_c4, PW_iinc_5_p1, zb_3_2, zb_3_3, zb_3_4, zb_3_5, zb_3_6, PK_app, n_l6, n_l7, n_l12, n_l13, n_l14, n_l16, n_l21, n_l22, n_l25, n_l28, n_l29, n_l30, n_l33, n_l35, n_l36, n_l50, n_l55, n_l61, n_l63, n_l64, n_l101, n_l1000, n_l2147483647, n_l0, n_l1, n_l2, n_l3, n_l4, n_l5, n_l8, n_l9, n_l10, n_l15, n_l20, n_l31, n_l40, n_l48, n_l57, n_l59, n_l60, n_l70, n_l99, n_l100, n_l255, n_l601, n_l602, n_l1024, n_l1500, n_l2100, n_l2101, n_l65535, n_l100000, n_l1000000, n_l100000000, i_lt, nI_clamp, nI_leI, nI_eq, nI_1, nI_add, pk_mul, pk_sub, n_in, n_negle, n_legne, n_eqneg, n_negeq, n_nn, n_bit, n_shl1, n_or, zb_e0, zb_e1, zb_r, n_em, zb_T, zb_F, zS_uf1, zS_uf2, zS_ur1, zS_ur2, zS_ur3, zS_ul1, zS_ul2, zS_ul3, z_if0, z_if1, Int.reduceEq, Nat.reduceOr, Nat.or_zero, Nat.zero_or, Bool.false_eq_true, reduceCtorEq, nar0, nar1, nar_zb, eq_self, true_and, and_true, false_and, and_false, or_true, true_or, or_false, false_or, not_true_eq_false, not_false_eq_true, Classical.not_not, true_implies, false_implies, implies_true, iff_true, iff_self, ite_true, ite_false, Nat.reduceEqDiff, Nat.reduceLT, Nat.reduceSub, Nat.add_sub_cancel, Nat.reduceLeDiff, reduceIte, ne_eq, Nat.not_le]
  have key : ∀ d i, i + d = np → lok (fun _ _ => True) nv x i → ∀ a, PW sc 3 (zblk 3 1) 2 [some (.ref 5), some (.ref (72)), some (.int (nI np)), some (.int (nI nv)), some (.int (nI (sB x nv i))), some (.int (nI i)), a] [] (zur (zuf (zuf σ 5 2 (nI (bitsOf (dgv (σ.2.1 47) x) (i)))) 5 4 (nI (cnt (dgt (σ.2.1 47) x) (i)))) 49 (drw (dgt (σ.2.1 47) x) (dwt (σ.2.1 47) (σ.2.1 48) x) (σ.2.1 49) (i))) Q := by
    intro d
    induction d with
    | zero =>
      intro i hi hl a
      rw [show i = np by omega] at hl ⊢
      rw [zb_3_1]
      simp (disch := first | exact zl_i | exact zl_r | exact zl_n | omega | exact zlen0 | exact zlen1 | exact zlen2 | exact zlen3 | exact zlen4 | exact zl_l | (simp only [zS_uf1, zS_uf2, zS_ur1, zS_ur2, Nat.reduceEqDiff, reduceIte, and_false, false_and, and_true, true_and, ite_true, ite_false]; done) | exact zl_n) only [Int.reduceToNat, Nat.reduceAdd, Nat.reduceMul, List.length_nil, List.length_cons, Nat.reduceLeDiff, Nat.zero_le, Option.toList_some, Option.toList_none, List.cons_append, List.nil_append, PW_nil, PW_goto, zl_i, zl_r, zl_n, PW_k0, PW_istore_4, PW_aload_0, PW_p322, PW_p324, PW_istore_5, PW_iload_5, PW_iload_2, PW_ic_ge, PW_aload_1, PW_ia47, PW_istore_6, PW_iload_6, PW_km1, PW_ic_lt, PW_iload_3, PW_if_lt, PW_iload_4, PW_ishr, PW_k1, PW_iand, PW_ic_ne, PW_ret_z zret_3, PW_g320, PW_ic_eq, PW_dup_i, PW_dup_r, PW_g322, PW_ishl, PW_ior, PX_c4, PW_iinc_5_p1, zb_3_2, zb_3_3, zb_3_4, zb_3_5, zb_3_6, PK_app, n_l6, n_l7, n_l12, n_l13, n_l14, n_l16, n_l21, n_l22, n_l25, n_l28, n_l29, n_l30, n_l33, n_l35, n_l36, n_l50, n_l55, n_l61, n_l63, n_l64, n_l101, n_l1000, n_l2147483647, n_l0, n_l1, n_l2, n_l3, n_l4, n_l5, n_l8, n_l9, n_l10, n_l15, n_l20, n_l31, n_l40, n_l48, n_l57, n_l59, n_l60, n_l70, n_l99, n_l100, n_l255, n_l601, n_l602, n_l1024, n_l1500, n_l2100, n_l2101, n_l65535, n_l100000, n_l1000000, n_l100000000, i_lt, nI_clamp, nI_leI, nI_eq, nI_1, nI_add, pk_mul, pk_sub, n_in, n_negle, n_legne, n_eqneg, n_negeq, n_nn, n_bit, n_shl1, n_or, zb_e0, zb_e1, zb_r, n_em, zb_T, zb_F, zS_uf1, zS_uf2, zS_ur1, zS_ur2, zS_ur3, zS_ul1, zS_ul2, zS_ul3, z_if0, z_if1, Int.reduceEq, Nat.reduceOr, Nat.or_zero, Nat.zero_or, Bool.false_eq_true, reduceCtorEq, nar0, nar1, nar_zb, eq_self, true_and, and_true, false_and, and_false, or_true, true_or, or_false, false_or, not_true_eq_false, not_false_eq_true, Classical.not_not, true_implies, false_implies, implies_true, iff_true, iff_self, ite_true, ite_false, Nat.reduceEqDiff, Nat.reduceLT, Nat.reduceSub, Nat.add_sub_cancel, Nat.reduceLeDiff, reduceIte, ne_eq, Nat.not_le, Nat.le_refl]
      exact hyes hl
    | succ d ih =>
      intro i hi hl a
      have hin : i < np := by omega
      have hxi := hx i hin
      have bad : (¬ (x i = -nI 1 ∨ ∃ v, v < nv ∧ x i = nI v ∧ True ∧ ∀ q, q < i → ¬ x q = nI v)) → Q (some (.int (nI 0))) (zur (zuf (zuf σ 5 2 (nI (bitsOf (dgv (σ.2.1 47) x) (i)))) 5 4 (nI (cnt (dgt (σ.2.1 47) x) (i)))) 49 (drw (dgt (σ.2.1 47) x) (dwt (σ.2.1 47) (σ.2.1 48) x) (σ.2.1 49) (i))) := fun z => hno (fun w => z (w i hin)) i
      have nxt : (x i = -nI 1 ∨ ∃ v, v < nv ∧ x i = nI v ∧ True ∧ ∀ q, q < i → ¬ x q = nI v) → lok (fun _ _ => True) nv x (i + 1) := fun z p hp => by
        by_cases e : p = i
        · subst e; exact z
        · exact hl p (by omega)
      have hsb := sB_lt (x := x) (i := i) hnv
      have hck : cnt (dgt (σ.2.1 47) x) i ≤ i := cnt_le i
      rw [zb_3_1]
      by_cases r : -nI 1 ≤ x i ∧ ¬ nI nv ≤ x i
      · rcases (n_rng2 hnv).mp r with c | ⟨v, hv, e⟩
        · have ih' := fun a => ih (i + 1) (by omega) (nxt (Or.inl c)) a
          have g2 : ¬ dgt (σ.2.1 47) x i := fun z => z.1 c
          rw [drw_k g2, cnt_f g2, sB_k hnv c] at ih'
          rcases hH i hin with hh | ⟨u, hu, hh⟩
          · have g1 : ¬ dgv (σ.2.1 47) x i := fun z => z.1 hh
            rw [bitsOf_f g1] at ih'
            simp (disch := first | exact zl_i | exact zl_r | exact zl_n | omega | exact zlen0 | exact zlen1 | exact zlen2 | exact zlen3 | exact zlen4 | exact zl_l | (simp only [zS_uf1, zS_uf2, zS_ur1, zS_ur2, Nat.reduceEqDiff, reduceIte, and_false, false_and, and_true, true_and, ite_true, ite_false]; done) | exact zl_n) only [Int.reduceToNat, Nat.reduceAdd, Nat.reduceMul, List.length_nil, List.length_cons, Nat.reduceLeDiff, Nat.zero_le, Option.toList_some, Option.toList_none, List.cons_append, List.nil_append, PW_nil, PW_goto, zl_i, zl_r, zl_n, PW_k0, PW_istore_4, PW_aload_0, PW_p322, PW_p324, PW_istore_5, PW_iload_5, PW_iload_2, PW_ic_ge, PW_aload_1, PW_ia47, PW_istore_6, PW_iload_6, PW_km1, PW_ic_lt, PW_iload_3, PW_if_lt, PW_iload_4, PW_ishr, PW_k1, PW_iand, PW_ic_ne, PW_ret_z zret_3, PW_g320, PW_ic_eq, PW_dup_i, PW_dup_r, PW_g322, PW_ishl, PW_ior, PX_c4, PW_iinc_5_p1, zb_3_2, zb_3_3, zb_3_4, zb_3_5, zb_3_6, PK_app, n_l6, n_l7, n_l12, n_l13, n_l14, n_l16, n_l21, n_l22, n_l25, n_l28, n_l29, n_l30, n_l33, n_l35, n_l36, n_l50, n_l55, n_l61, n_l63, n_l64, n_l101, n_l1000, n_l2147483647, n_l0, n_l1, n_l2, n_l3, n_l4, n_l5, n_l8, n_l9, n_l10, n_l15, n_l20, n_l31, n_l40, n_l48, n_l57, n_l59, n_l60, n_l70, n_l99, n_l100, n_l255, n_l601, n_l602, n_l1024, n_l1500, n_l2100, n_l2101, n_l65535, n_l100000, n_l1000000, n_l100000000, i_lt, nI_clamp, nI_leI, nI_eq, nI_1, nI_add, pk_mul, pk_sub, n_in, n_negle, n_legne, n_eqneg, n_negeq, n_nn, n_bit, n_shl1, n_or, zb_e0, zb_e1, zb_r, n_em, zb_T, zb_F, zS_uf1, zS_uf2, zS_ur1, zS_ur2, zS_ur3, zS_ul1, zS_ul2, zS_ul3, z_if0, z_if1, Int.reduceEq, Nat.reduceOr, Nat.or_zero, Nat.zero_or, Bool.false_eq_true, reduceCtorEq, nar0, nar1, nar_zb, eq_self, true_and, and_true, false_and, and_false, or_true, true_or, or_false, false_or, not_true_eq_false, not_false_eq_true, Classical.not_not, true_implies, false_implies, implies_true, iff_true, iff_self, ite_true, ite_false, Nat.reduceEqDiff, Nat.reduceLT, Nat.reduceSub, Nat.add_sub_cancel, Nat.reduceLeDiff, reduceIte, ne_eq, Nat.not_le, PW_ia72, Nat.not_le.mpr hin, hxi, c, Int32.le_refl, hh]
            exact ih' _
          · have g1 : dgv (σ.2.1 47) x i := ⟨fun z => (n_eqneg (show u < 2 ^ 31 by omega) (by omega)).mp (hh.symm.trans z), fun z => (n_eqneg (show u < 2 ^ 31 by omega) (by omega)).mp (hh.symm.trans (z.trans c))⟩
            rw [bitsOf_t g1] at ih'
            simp (disch := first | exact zl_i | exact zl_r | exact zl_n | omega | exact zlen0 | exact zlen1 | exact zlen2 | exact zlen3 | exact zlen4 | exact zl_l | (simp only [zS_uf1, zS_uf2, zS_ur1, zS_ur2, Nat.reduceEqDiff, reduceIte, and_false, false_and, and_true, true_and, ite_true, ite_false]; done) | exact zl_n) only [Int.reduceToNat, Nat.reduceAdd, Nat.reduceMul, List.length_nil, List.length_cons, Nat.reduceLeDiff, Nat.zero_le, Option.toList_some, Option.toList_none, List.cons_append, List.nil_append, PW_nil, PW_goto, zl_i, zl_r, zl_n, PW_k0, PW_istore_4, PW_aload_0, PW_p322, PW_p324, PW_istore_5, PW_iload_5, PW_iload_2, PW_ic_ge, PW_aload_1, PW_ia47, PW_istore_6, PW_iload_6, PW_km1, PW_ic_lt, PW_iload_3, PW_if_lt, PW_iload_4, PW_ishr, PW_k1, PW_iand, PW_ic_ne, PW_ret_z zret_3, PW_g320, PW_ic_eq, PW_dup_i, PW_dup_r, PW_g322, PW_ishl, PW_ior, PX_c4, PW_iinc_5_p1, zb_3_2, zb_3_3, zb_3_4, zb_3_5, zb_3_6, PK_app, n_l6, n_l7, n_l12, n_l13, n_l14, n_l16, n_l21, n_l22, n_l25, n_l28, n_l29, n_l30, n_l33, n_l35, n_l36, n_l50, n_l55, n_l61, n_l63, n_l64, n_l101, n_l1000, n_l2147483647, n_l0, n_l1, n_l2, n_l3, n_l4, n_l5, n_l8, n_l9, n_l10, n_l15, n_l20, n_l31, n_l40, n_l48, n_l57, n_l59, n_l60, n_l70, n_l99, n_l100, n_l255, n_l601, n_l602, n_l1024, n_l1500, n_l2100, n_l2101, n_l65535, n_l100000, n_l1000000, n_l100000000, i_lt, nI_clamp, nI_leI, nI_eq, nI_1, nI_add, pk_mul, pk_sub, n_in, n_negle, n_legne, n_eqneg, n_negeq, n_nn, n_bit, n_shl1, n_or, zb_e0, zb_e1, zb_r, n_em, zb_T, zb_F, zS_uf1, zS_uf2, zS_ur1, zS_ur2, zS_ur3, zS_ul1, zS_ul2, zS_ul3, z_if0, z_if1, Int.reduceEq, Nat.reduceOr, Nat.or_zero, Nat.zero_or, Bool.false_eq_true, reduceCtorEq, nar0, nar1, nar_zb, eq_self, true_and, and_true, false_and, and_false, or_true, true_or, or_false, false_or, not_true_eq_false, not_false_eq_true, Classical.not_not, true_implies, false_implies, implies_true, iff_true, iff_self, ite_true, ite_false, Nat.reduceEqDiff, Nat.reduceLT, Nat.reduceSub, Nat.add_sub_cancel, Nat.reduceLeDiff, reduceIte, ne_eq, Nat.not_le, PW_ia72, Nat.not_le.mpr hin, hxi, c, Int32.le_refl, hh, zur_uf, zuf_sw]
            exact ih' _
        · have hb := n_bit (show v < 32 by omega) (show sB x nv i < 2 ^ 31 by omega)
          cases eh : hlr x i v with
          | none =>
            have hb' : ¬ (sB x nv i).testBit v = true := fun z => (sB_bit hv).mp z eh
            have ih' := fun a => ih (i + 1) (by omega) (nxt (Or.inr ⟨v, hv, e, trivial, hlr_n.mp eh⟩)) a
            have exv : (x i).toNatClampNeg = v := by rw [e]; exact nI_clamp (by omega)
            have ew : dwt (σ.2.1 47) (σ.2.1 48) x i = dw1 (σ.2.1 47 i) i ||| dw2 (σ.2.1 48 v) := by unfold dwt; rw [exv]
            have nx1 : ¬ x i = -nI 1 := fun z => (n_eqneg (show v < 2 ^ 31 by omega) (by omega)).mp (e.symm.trans z)
            rw [sB_s hnv hv e] at ih'
            rcases hH i hin with hh | ⟨u, hu, hh⟩
            · have nh : ¬ σ.2.1 47 i = nI v := fun z => (n_negeq (show v < 2 ^ 31 by omega) (by omega)).mp (hh.symm.trans z)
              have g1 : ¬ dgv (σ.2.1 47) x i := fun z => z.1 hh
              have g2 : dgt (σ.2.1 47) x i := ⟨nx1, fun z => nh (z.trans e)⟩
              rw [bitsOf_f g1, ← drw_s g2, cnt_t g2, ew] at ih'
              have ag := fun Q => sp_addGet_y (sc := sc) (Q := Q) (σ := zur (zuf (zuf σ 5 2 (nI (bitsOf (dgv (σ.2.1 47) x) (i)))) 5 4 (nI (cnt (dgt (σ.2.1 47) x) (i)))) 49 (drw (dgt (σ.2.1 47) x) (dwt (σ.2.1 47) (σ.2.1 48) x) (σ.2.1 49) (i))) (p := i) (v := v) (k := cnt (dgt (σ.2.1 47) x) i) (by omega) (by omega) (by omega) (by exact rfl) nh (Or.inl hh) (hO v hv)
              simp (disch := first | exact zl_i | exact zl_r | exact zl_n | omega | exact zlen0 | exact zlen1 | exact zlen2 | exact zlen3 | exact zlen4 | exact zl_l | (simp only [zS_uf1, zS_uf2, zS_ur1, zS_ur2, Nat.reduceEqDiff, reduceIte, and_false, false_and, and_true, true_and, ite_true, ite_false]; done) | exact zl_n) only [Int.reduceToNat, Nat.reduceAdd, Nat.reduceMul, List.length_nil, List.length_cons, Nat.reduceLeDiff, Nat.zero_le, Option.toList_some, Option.toList_none, List.cons_append, List.nil_append, PW_nil, PW_goto, zl_i, zl_r, zl_n, PW_k0, PW_istore_4, PW_aload_0, PW_p322, PW_p324, PW_istore_5, PW_iload_5, PW_iload_2, PW_ic_ge, PW_aload_1, PW_ia47, PW_istore_6, PW_iload_6, PW_km1, PW_ic_lt, PW_iload_3, PW_if_lt, PW_iload_4, PW_ishr, PW_k1, PW_iand, PW_ic_ne, PW_ret_z zret_3, PW_g320, PW_ic_eq, PW_dup_i, PW_dup_r, PW_g322, PW_ishl, PW_ior, PX_c4, PW_iinc_5_p1, zb_3_2, zb_3_3, zb_3_4, zb_3_5, zb_3_6, PK_app, n_l6, n_l7, n_l12, n_l13, n_l14, n_l16, n_l21, n_l22, n_l25, n_l28, n_l29, n_l30, n_l33, n_l35, n_l36, n_l50, n_l55, n_l61, n_l63, n_l64, n_l101, n_l1000, n_l2147483647, n_l0, n_l1, n_l2, n_l3, n_l4, n_l5, n_l8, n_l9, n_l10, n_l15, n_l20, n_l31, n_l40, n_l48, n_l57, n_l59, n_l60, n_l70, n_l99, n_l100, n_l255, n_l601, n_l602, n_l1024, n_l1500, n_l2100, n_l2101, n_l65535, n_l100000, n_l1000000, n_l100000000, i_lt, nI_clamp, nI_leI, nI_eq, nI_1, nI_add, pk_mul, pk_sub, n_in, n_negle, n_legne, n_eqneg, n_negeq, n_nn, n_bit, n_shl1, n_or, zb_e0, zb_e1, zb_r, n_em, zb_T, zb_F, zS_uf1, zS_uf2, zS_ur1, zS_ur2, zS_ur3, zS_ul1, zS_ul2, zS_ul3, z_if0, z_if1, Int.reduceEq, Nat.reduceOr, Nat.or_zero, Nat.zero_or, Bool.false_eq_true, reduceCtorEq, nar0, nar1, nar_zb, eq_self, true_and, and_true, false_and, and_false, or_true, true_or, or_false, false_or, not_true_eq_false, not_false_eq_true, Classical.not_not, true_implies, false_implies, implies_true, iff_true, iff_self, ite_true, ite_false, Nat.reduceEqDiff, Nat.reduceLT, Nat.reduceSub, Nat.add_sub_cancel, Nat.reduceLeDiff, reduceIte, ne_eq, Nat.not_le, PW_ia72, Nat.not_le.mpr hin, hxi, e, Nat.not_le.mpr hv, Nat.zero_le, hb, hb', hh, ag, zur_uf, zuf_sw, zuf_same, zur_same, PK_app]
              rw [hh] at ih'
              exact ih' _
            · by_cases w : u = v
              · have hh' : σ.2.1 47 i = nI v := by rw [hh, w]
                have g1 : ¬ dgv (σ.2.1 47) x i := fun z => z.2 (hh'.trans e.symm)
                have g2 : ¬ dgt (σ.2.1 47) x i := fun z => z.2 (hh'.trans e.symm)
                rw [bitsOf_f g1, drw_k g2, cnt_f g2] at ih'
                have ag := fun Q => sp_addGet_n (sc := sc) (Q := Q) (σ := zur (zuf (zuf σ 5 2 (nI (bitsOf (dgv (σ.2.1 47) x) (i)))) 5 4 (nI (cnt (dgt (σ.2.1 47) x) (i)))) 49 (drw (dgt (σ.2.1 47) x) (dwt (σ.2.1 47) (σ.2.1 48) x) (σ.2.1 49) (i))) (p := i) (v := v) (by omega) (by omega) hh'
                simp (disch := first | exact zl_i | exact zl_r | exact zl_n | omega | exact zlen0 | exact zlen1 | exact zlen2 | exact zlen3 | exact zlen4 | exact zl_l | (simp only [zS_uf1, zS_uf2, zS_ur1, zS_ur2, Nat.reduceEqDiff, reduceIte, and_false, false_and, and_true, true_and, ite_true, ite_false]; done) | exact zl_n) only [Int.reduceToNat, Nat.reduceAdd, Nat.reduceMul, List.length_nil, List.length_cons, Nat.reduceLeDiff, Nat.zero_le, Option.toList_some, Option.toList_none, List.cons_append, List.nil_append, PW_nil, PW_goto, zl_i, zl_r, zl_n, PW_k0, PW_istore_4, PW_aload_0, PW_p322, PW_p324, PW_istore_5, PW_iload_5, PW_iload_2, PW_ic_ge, PW_aload_1, PW_ia47, PW_istore_6, PW_iload_6, PW_km1, PW_ic_lt, PW_iload_3, PW_if_lt, PW_iload_4, PW_ishr, PW_k1, PW_iand, PW_ic_ne, PW_ret_z zret_3, PW_g320, PW_ic_eq, PW_dup_i, PW_dup_r, PW_g322, PW_ishl, PW_ior, PX_c4, PW_iinc_5_p1, zb_3_2, zb_3_3, zb_3_4, zb_3_5, zb_3_6, PK_app, n_l6, n_l7, n_l12, n_l13, n_l14, n_l16, n_l21, n_l22, n_l25, n_l28, n_l29, n_l30, n_l33, n_l35, n_l36, n_l50, n_l55, n_l61, n_l63, n_l64, n_l101, n_l1000, n_l2147483647, n_l0, n_l1, n_l2, n_l3, n_l4, n_l5, n_l8, n_l9, n_l10, n_l15, n_l20, n_l31, n_l40, n_l48, n_l57, n_l59, n_l60, n_l70, n_l99, n_l100, n_l255, n_l601, n_l602, n_l1024, n_l1500, n_l2100, n_l2101, n_l65535, n_l100000, n_l1000000, n_l100000000, i_lt, nI_clamp, nI_leI, nI_eq, nI_1, nI_add, pk_mul, pk_sub, n_in, n_negle, n_legne, n_eqneg, n_negeq, n_nn, n_bit, n_shl1, n_or, zb_e0, zb_e1, zb_r, n_em, zb_T, zb_F, zS_uf1, zS_uf2, zS_ur1, zS_ur2, zS_ur3, zS_ul1, zS_ul2, zS_ul3, z_if0, z_if1, Int.reduceEq, Nat.reduceOr, Nat.or_zero, Nat.zero_or, Bool.false_eq_true, reduceCtorEq, nar0, nar1, nar_zb, eq_self, true_and, and_true, false_and, and_false, or_true, true_or, or_false, false_or, not_true_eq_false, not_false_eq_true, Classical.not_not, true_implies, false_implies, implies_true, iff_true, iff_self, ite_true, ite_false, Nat.reduceEqDiff, Nat.reduceLT, Nat.reduceSub, Nat.add_sub_cancel, Nat.reduceLeDiff, reduceIte, ne_eq, Nat.not_le, PW_ia72, Nat.not_le.mpr hin, hxi, e, Nat.not_le.mpr hv, Nat.zero_le, hb, hb', hh', ag, PK_app]
                exact ih' _
              · have nh : ¬ σ.2.1 47 i = nI v := fun z => w ((nI_eq (by omega) (by omega)).mp (hh.symm.trans z))
                have g1 : dgv (σ.2.1 47) x i := ⟨fun z => (n_eqneg (show u < 2 ^ 31 by omega) (by omega)).mp (hh.symm.trans z), fun z => nh (z.trans e)⟩
                have g2 : dgt (σ.2.1 47) x i := ⟨nx1, fun z => nh (z.trans e)⟩
                rw [bitsOf_t g1, ← drw_s g2, cnt_t g2, ew] at ih'
                have ag := fun Q => sp_addGet_y (sc := sc) (Q := Q) (σ := zur (zuf (zuf σ 5 2 (nI (bitsOf (dgv (σ.2.1 47) x) i ||| 2 ^ i))) 5 4 (nI (cnt (dgt (σ.2.1 47) x) i))) 49 (drw (dgt (σ.2.1 47) x) (dwt (σ.2.1 47) (σ.2.1 48) x) (σ.2.1 49) i)) (p := i) (v := v) (k := cnt (dgt (σ.2.1 47) x) i) (by omega) (by omega) (by omega) (by exact rfl) nh (Or.inr ⟨u, hu, hh⟩) (hO v hv)
                simp (disch := first | exact zl_i | exact zl_r | exact zl_n | omega | exact zlen0 | exact zlen1 | exact zlen2 | exact zlen3 | exact zlen4 | exact zl_l | (simp only [zS_uf1, zS_uf2, zS_ur1, zS_ur2, Nat.reduceEqDiff, reduceIte, and_false, false_and, and_true, true_and, ite_true, ite_false]; done) | exact zl_n) only [Int.reduceToNat, Nat.reduceAdd, Nat.reduceMul, List.length_nil, List.length_cons, Nat.reduceLeDiff, Nat.zero_le, Option.toList_some, Option.toList_none, List.cons_append, List.nil_append, PW_nil, PW_goto, zl_i, zl_r, zl_n, PW_k0, PW_istore_4, PW_aload_0, PW_p322, PW_p324, PW_istore_5, PW_iload_5, PW_iload_2, PW_ic_ge, PW_aload_1, PW_ia47, PW_istore_6, PW_iload_6, PW_km1, PW_ic_lt, PW_iload_3, PW_if_lt, PW_iload_4, PW_ishr, PW_k1, PW_iand, PW_ic_ne, PW_ret_z zret_3, PW_g320, PW_ic_eq, PW_dup_i, PW_dup_r, PW_g322, PW_ishl, PW_ior, PX_c4, PW_iinc_5_p1, zb_3_2, zb_3_3, zb_3_4, zb_3_5, zb_3_6, PK_app, n_l6, n_l7, n_l12, n_l13, n_l14, n_l16, n_l21, n_l22, n_l25, n_l28, n_l29, n_l30, n_l33, n_l35, n_l36, n_l50, n_l55, n_l61, n_l63, n_l64, n_l101, n_l1000, n_l2147483647, n_l0, n_l1, n_l2, n_l3, n_l4, n_l5, n_l8, n_l9, n_l10, n_l15, n_l20, n_l31, n_l40, n_l48, n_l57, n_l59, n_l60, n_l70, n_l99, n_l100, n_l255, n_l601, n_l602, n_l1024, n_l1500, n_l2100, n_l2101, n_l65535, n_l100000, n_l1000000, n_l100000000, i_lt, nI_clamp, nI_leI, nI_eq, nI_1, nI_add, pk_mul, pk_sub, n_in, n_negle, n_legne, n_eqneg, n_negeq, n_nn, n_bit, n_shl1, n_or, zb_e0, zb_e1, zb_r, n_em, zb_T, zb_F, zS_uf1, zS_uf2, zS_ur1, zS_ur2, zS_ur3, zS_ul1, zS_ul2, zS_ul3, z_if0, z_if1, Int.reduceEq, Nat.reduceOr, Nat.or_zero, Nat.zero_or, Bool.false_eq_true, reduceCtorEq, nar0, nar1, nar_zb, eq_self, true_and, and_true, false_and, and_false, or_true, true_or, or_false, false_or, not_true_eq_false, not_false_eq_true, Classical.not_not, true_implies, false_implies, implies_true, iff_true, iff_self, ite_true, ite_false, Nat.reduceEqDiff, Nat.reduceLT, Nat.reduceSub, Nat.add_sub_cancel, Nat.reduceLeDiff, reduceIte, ne_eq, Nat.not_le, PW_ia72, Nat.not_le.mpr hin, hxi, e, Nat.not_le.mpr hv, Nat.zero_le, hb, hb', hh, w, ag, zur_uf, zuf_sw, zuf_same, zur_same, PK_app]
                rw [hh] at ih'
                exact ih' _
          | some q =>
            have hb' : (sB x nv i).testBit v = true := (sB_bit hv).mpr (fun z => by rw [eh] at z; cases z)
            obtain ⟨q1, q2⟩ := hlr_s eh
            simp (disch := first | exact zl_i | exact zl_r | exact zl_n | omega | exact zlen0 | exact zlen1 | exact zlen2 | exact zlen3 | exact zlen4 | exact zl_l | (simp only [zS_uf1, zS_uf2, zS_ur1, zS_ur2, Nat.reduceEqDiff, reduceIte, and_false, false_and, and_true, true_and, ite_true, ite_false]; done) | exact zl_n) only [Int.reduceToNat, Nat.reduceAdd, Nat.reduceMul, List.length_nil, List.length_cons, Nat.reduceLeDiff, Nat.zero_le, Option.toList_some, Option.toList_none, List.cons_append, List.nil_append, PW_nil, PW_goto, zl_i, zl_r, zl_n, PW_k0, PW_istore_4, PW_aload_0, PW_p322, PW_p324, PW_istore_5, PW_iload_5, PW_iload_2, PW_ic_ge, PW_aload_1, PW_ia47, PW_istore_6, PW_iload_6, PW_km1, PW_ic_lt, PW_iload_3, PW_if_lt, PW_iload_4, PW_ishr, PW_k1, PW_iand, PW_ic_ne, PW_ret_z zret_3, PW_g320, PW_ic_eq, PW_dup_i, PW_dup_r, PW_g322, PW_ishl, PW_ior, PX_c4, PW_iinc_5_p1, zb_3_2, zb_3_3, zb_3_4, zb_3_5, zb_3_6, PK_app, n_l6, n_l7, n_l12, n_l13, n_l14, n_l16, n_l21, n_l22, n_l25, n_l28, n_l29, n_l30, n_l33, n_l35, n_l36, n_l50, n_l55, n_l61, n_l63, n_l64, n_l101, n_l1000, n_l2147483647, n_l0, n_l1, n_l2, n_l3, n_l4, n_l5, n_l8, n_l9, n_l10, n_l15, n_l20, n_l31, n_l40, n_l48, n_l57, n_l59, n_l60, n_l70, n_l99, n_l100, n_l255, n_l601, n_l602, n_l1024, n_l1500, n_l2100, n_l2101, n_l65535, n_l100000, n_l1000000, n_l100000000, i_lt, nI_clamp, nI_leI, nI_eq, nI_1, nI_add, pk_mul, pk_sub, n_in, n_negle, n_legne, n_eqneg, n_negeq, n_nn, n_bit, n_shl1, n_or, zb_e0, zb_e1, zb_r, n_em, zb_T, zb_F, zS_uf1, zS_uf2, zS_ur1, zS_ur2, zS_ur3, zS_ul1, zS_ul2, zS_ul3, z_if0, z_if1, Int.reduceEq, Nat.reduceOr, Nat.or_zero, Nat.zero_or, Bool.false_eq_true, reduceCtorEq, nar0, nar1, nar_zb, eq_self, true_and, and_true, false_and, and_false, or_true, true_or, or_false, false_or, not_true_eq_false, not_false_eq_true, Classical.not_not, true_implies, false_implies, implies_true, iff_true, iff_self, ite_true, ite_false, Nat.reduceEqDiff, Nat.reduceLT, Nat.reduceSub, Nat.add_sub_cancel, Nat.reduceLeDiff, reduceIte, ne_eq, Nat.not_le, PW_ia72, Nat.not_le.mpr hin, hxi, e, Nat.not_le.mpr hv, Nat.zero_le, hb, hb']
            refine bad ?_
            rintro (z | ⟨u, u1, u2, u3, u4⟩)
            · rw [e] at z
              exact (n_negeq (by omega) (by omega)).mp z.symm
            · exact u4 q q1 (by rw [q2, ← e, u2])
      · have bd : Q (some (.int (nI 0))) (zur (zuf (zuf σ 5 2 (nI (bitsOf (dgv (σ.2.1 47) x) (i)))) 5 4 (nI (cnt (dgt (σ.2.1 47) x) (i)))) 49 (drw (dgt (σ.2.1 47) x) (dwt (σ.2.1 47) (σ.2.1 48) x) (σ.2.1 49) (i))) := bad (by
          rintro (z | ⟨u, u1, u2, u3, u4⟩)
          · exact r ((n_rng2 hnv).mpr (Or.inl z))
          · exact r ((n_rng2 hnv).mpr (Or.inr ⟨u, u1, u2⟩)))
        by_cases c2 : -nI 1 ≤ x i
        · have c3 : nI nv ≤ x i := Classical.byContradiction (fun z => r ⟨c2, z⟩)
          simp (disch := first | exact zl_i | exact zl_r | exact zl_n | omega | exact zlen0 | exact zlen1 | exact zlen2 | exact zlen3 | exact zlen4 | exact zl_l | (simp only [zS_uf1, zS_uf2, zS_ur1, zS_ur2, Nat.reduceEqDiff, reduceIte, and_false, false_and, and_true, true_and, ite_true, ite_false]; done) | exact zl_n) only [Int.reduceToNat, Nat.reduceAdd, Nat.reduceMul, List.length_nil, List.length_cons, Nat.reduceLeDiff, Nat.zero_le, Option.toList_some, Option.toList_none, List.cons_append, List.nil_append, PW_nil, PW_goto, zl_i, zl_r, zl_n, PW_k0, PW_istore_4, PW_aload_0, PW_p322, PW_p324, PW_istore_5, PW_iload_5, PW_iload_2, PW_ic_ge, PW_aload_1, PW_ia47, PW_istore_6, PW_iload_6, PW_km1, PW_ic_lt, PW_iload_3, PW_if_lt, PW_iload_4, PW_ishr, PW_k1, PW_iand, PW_ic_ne, PW_ret_z zret_3, PW_g320, PW_ic_eq, PW_dup_i, PW_dup_r, PW_g322, PW_ishl, PW_ior, PX_c4, PW_iinc_5_p1, zb_3_2, zb_3_3, zb_3_4, zb_3_5, zb_3_6, PK_app, n_l6, n_l7, n_l12, n_l13, n_l14, n_l16, n_l21, n_l22, n_l25, n_l28, n_l29, n_l30, n_l33, n_l35, n_l36, n_l50, n_l55, n_l61, n_l63, n_l64, n_l101, n_l1000, n_l2147483647, n_l0, n_l1, n_l2, n_l3, n_l4, n_l5, n_l8, n_l9, n_l10, n_l15, n_l20, n_l31, n_l40, n_l48, n_l57, n_l59, n_l60, n_l70, n_l99, n_l100, n_l255, n_l601, n_l602, n_l1024, n_l1500, n_l2100, n_l2101, n_l65535, n_l100000, n_l1000000, n_l100000000, i_lt, nI_clamp, nI_leI, nI_eq, nI_1, nI_add, pk_mul, pk_sub, n_in, n_negle, n_legne, n_eqneg, n_negeq, n_nn, n_bit, n_shl1, n_or, zb_e0, zb_e1, zb_r, n_em, zb_T, zb_F, zS_uf1, zS_uf2, zS_ur1, zS_ur2, zS_ur3, zS_ul1, zS_ul2, zS_ul3, z_if0, z_if1, Int.reduceEq, Nat.reduceOr, Nat.or_zero, Nat.zero_or, Bool.false_eq_true, reduceCtorEq, nar0, nar1, nar_zb, eq_self, true_and, and_true, false_and, and_false, or_true, true_or, or_false, false_or, not_true_eq_false, not_false_eq_true, Classical.not_not, true_implies, false_implies, implies_true, iff_true, iff_self, ite_true, ite_false, Nat.reduceEqDiff, Nat.reduceLT, Nat.reduceSub, Nat.add_sub_cancel, Nat.reduceLeDiff, reduceIte, ne_eq, Nat.not_le, PW_ia72, Nat.not_le.mpr hin, hxi, c2, c3]
          exact bd
        · simp (disch := first | exact zl_i | exact zl_r | exact zl_n | omega | exact zlen0 | exact zlen1 | exact zlen2 | exact zlen3 | exact zlen4 | exact zl_l | (simp only [zS_uf1, zS_uf2, zS_ur1, zS_ur2, Nat.reduceEqDiff, reduceIte, and_false, false_and, and_true, true_and, ite_true, ite_false]; done) | exact zl_n) only [Int.reduceToNat, Nat.reduceAdd, Nat.reduceMul, List.length_nil, List.length_cons, Nat.reduceLeDiff, Nat.zero_le, Option.toList_some, Option.toList_none, List.cons_append, List.nil_append, PW_nil, PW_goto, zl_i, zl_r, zl_n, PW_k0, PW_istore_4, PW_aload_0, PW_p322, PW_p324, PW_istore_5, PW_iload_5, PW_iload_2, PW_ic_ge, PW_aload_1, PW_ia47, PW_istore_6, PW_iload_6, PW_km1, PW_ic_lt, PW_iload_3, PW_if_lt, PW_iload_4, PW_ishr, PW_k1, PW_iand, PW_ic_ne, PW_ret_z zret_3, PW_g320, PW_ic_eq, PW_dup_i, PW_dup_r, PW_g322, PW_ishl, PW_ior, PX_c4, PW_iinc_5_p1, zb_3_2, zb_3_3, zb_3_4, zb_3_5, zb_3_6, PK_app, n_l6, n_l7, n_l12, n_l13, n_l14, n_l16, n_l21, n_l22, n_l25, n_l28, n_l29, n_l30, n_l33, n_l35, n_l36, n_l50, n_l55, n_l61, n_l63, n_l64, n_l101, n_l1000, n_l2147483647, n_l0, n_l1, n_l2, n_l3, n_l4, n_l5, n_l8, n_l9, n_l10, n_l15, n_l20, n_l31, n_l40, n_l48, n_l57, n_l59, n_l60, n_l70, n_l99, n_l100, n_l255, n_l601, n_l602, n_l1024, n_l1500, n_l2100, n_l2101, n_l65535, n_l100000, n_l1000000, n_l100000000, i_lt, nI_clamp, nI_leI, nI_eq, nI_1, nI_add, pk_mul, pk_sub, n_in, n_negle, n_legne, n_eqneg, n_negeq, n_nn, n_bit, n_shl1, n_or, zb_e0, zb_e1, zb_r, n_em, zb_T, zb_F, zS_uf1, zS_uf2, zS_ur1, zS_ur2, zS_ur3, zS_ul1, zS_ul2, zS_ul3, z_if0, z_if1, Int.reduceEq, Nat.reduceOr, Nat.or_zero, Nat.zero_or, Bool.false_eq_true, reduceCtorEq, nar0, nar1, nar_zb, eq_self, true_and, and_true, false_and, and_false, or_true, true_or, or_false, false_or, not_true_eq_false, not_false_eq_true, Classical.not_not, true_implies, false_implies, implies_true, iff_true, iff_self, ite_true, ite_false, Nat.reduceEqDiff, Nat.reduceLT, Nat.reduceSub, Nat.add_sub_cancel, Nat.reduceLeDiff, reduceIte, ne_eq, Nat.not_le, PW_ia72, Nat.not_le.mpr hin, hxi, c2]
          exact bd
  have := key np 0 (Nat.zero_add np) (fun p hp => absurd hp (Nat.not_lt_zero p)) none
  have e : zur (zuf (zuf σ 5 2 (nI (bitsOf (dgv (σ.2.1 47) x) (0)))) 5 4 (nI (cnt (dgt (σ.2.1 47) x) (0)))) 49 (drw (dgt (σ.2.1 47) x) (dwt (σ.2.1 47) (σ.2.1 48) x) (σ.2.1 49) (0)) = zuf (zuf σ 5 2 (nI 0)) 5 4 (nI 0) := by
    rw [drw_0]
    exact zur_id
  rw [sB_0, e] at this
  exact this
end DG2
section DL
variable {C V F T : Nat → Int32} {d : Int32}
theorem hdP_of {p l : Nat} : ∀ {n : Nat}, l < n → ln_on C F T (nI p) d l → (∀ m, m < n → ln_on C F T (nI p) d m → m = l) → hdP C V F T d n p = V l
  | 0, h, _, _ => absurd h (Nat.not_lt_zero _)
  | n + 1, h, c, u => by
    by_cases q : ln_on C F T (nI p) d n
    · have e := u n (by omega) q
      subst e
      exact cif_t ⟨q.2.1, q.2.2, q.1⟩
    · have hl : l < n := by
        by_cases z : l = n
        · rw [z] at c; exact absurd c q
        · omega
      have ih := hdP_of hl c (fun m hm z => u m (by omega) z)
      rw [← ih]
      exact cif_f (fun z => q ⟨z.2.2, z.1, z.2.1⟩)
theorem hdP_no {p : Nat} : ∀ {n : Nat}, (∀ m, m < n → ¬ ln_on C F T (nI p) d m) → hdP C V F T d n p = -nI 1
  | 0, _ => rfl
  | n + 1, h => by
    have ih := hdP_no (n := n) (fun m hm => h m (by omega))
    rw [← ih]
    exact cif_f (fun z => h n (by omega) ⟨z.2.2, z.1, z.2.1⟩)
end DL
theorem dW_sub {H O x : Nat → Int32} {np nv : Nat} (hnp : np ≤ 10) (hnv : nv ≤ 10) (hl : lok (fun _ _ => True) nv x np) (hc : ∀ v q, v < nv → q < 10 → O v = nI q → q < np ∧ H q = nI v) (hO : ∀ v, v < nv → O v = -nI 1 ∨ ∃ q, q < 10 ∧ O v = nI q) :
    ∀ j, j < cnt (dgt H x) np → dgl (dgt H x) (dwt H O x) np j &&& bitsOf (dgv H x) np = dgl (dgt H x) (dwt H O x) np j := by
  intro j hj
  obtain ⟨p, hp, g, e⟩ := dgl_is (wt := dwt H O x) hj
  rw [e]
  refine n_sub.mpr (fun i hi => ?_)
  rw [bitsOf_bit]
  unfold dwt at hi
  rw [Nat.testBit_or, Bool.or_eq_true] at hi
  rcases hl p hp with z | ⟨v, v1, v2, -, v4⟩
  · exact absurd z g.1
  · have exv : (x p).toNatClampNeg = v := by rw [v2]; exact nI_clamp (by omega)
    rcases hi with hi | hi
    · by_cases z : H p = -nI 1
      · have e0 : dw1 (H p) p = 0 := cif_t z
        rw [e0, Nat.zero_testBit] at hi
        cases hi
      · have e0 : dw1 (H p) p = 2 ^ p := cif_f z
        rw [e0, Nat.testBit_two_pow, decide_eq_true_eq] at hi
        subst hi
        exact ⟨hp, z, g.2⟩
    · rw [exv] at hi
      rcases hO v v1 with z | ⟨q, q1, q2⟩
      · rw [z, dw2_n, Nat.zero_testBit] at hi
        cases hi
      · rw [q2, dw2_s q1, Nat.testBit_two_pow, decide_eq_true_eq] at hi
        subst hi
        obtain ⟨c1, c2⟩ := hc v q v1 q1 q2
        refine ⟨c1, fun z => (n_eqneg (show v < 2 ^ 31 by omega) (by omega)).mp (c2.symm.trans z), fun z => ?_⟩
        have xq : x q = nI v := z.symm.trans c2
        have pq : q = p := by
          rcases Nat.lt_trichotomy q p with a | a | a
          · exact absurd xq (v4 q a)
          · exact a
          · rcases hl q c1 with w | ⟨u, u1, u2, -, u4⟩
            · rw [xq] at w
              exact absurd w (fun w => (n_eqneg (show v < 2 ^ 31 by omega) (by omega)).mp w)
            · exact absurd (by rw [v2, ← xq, u2]) (u4 p a)
        rw [pq] at z
        exact g.2 z

