/-! the calm one: the best of those in question -/
noncomputable def bsl (c : Nat → Prop) (t : Nat → Nat) : Nat → Option Nat
  | 0 => none
  | i + 1 => cif (c i ∧ ∀ k, bsl c t i = some k → t k < t i) (some i) (bsl c t i)
section BS
variable {c : Nat → Prop} {t : Nat → Nat}
theorem bsl_t {i : Nat} (h : c i) (h2 : ∀ k, bsl c t i = some k → t k < t i) : bsl c t (i + 1) = some i := cif_t ⟨h, h2⟩
theorem bsl_f {i : Nat} (h : ¬ c i) : bsl c t (i + 1) = bsl c t i := cif_f (fun z => h z.1)
theorem bsl_f2 {i k : Nat} (h : bsl c t i = some k) (h2 : t i ≤ t k) : bsl c t (i + 1) = bsl c t i := cif_f (fun z => by
  have := z.2 k h
  omega)
theorem bsl_n : ∀ {n : Nat}, bsl c t n = none → ∀ i, i < n → ¬ c i
  | 0, _, i, hi => absurd hi (Nat.not_lt_zero i)
  | n + 1, h, i, hi => by
    by_cases q : c n ∧ ∀ k, bsl c t n = some k → t k < t n
    · rw [bsl_t q.1 q.2] at h
      cases h
    · have e : bsl c t (n + 1) = bsl c t n := cif_f q
      rw [e] at h
      by_cases z : i = n
      · subst z
        exact fun w => q ⟨w, fun k hk => by rw [h] at hk; cases hk⟩
      · exact bsl_n h i (by omega)
theorem bsl_s : ∀ {n k : Nat}, bsl c t n = some k → k < n ∧ c k ∧ ∀ i, i < n → c i → i ≠ k → t i < t k ∨ (t i = t k ∧ k < i)
  | 0, _, h => by cases h
  | n + 1, k, h => by
    by_cases q : c n ∧ ∀ k, bsl c t n = some k → t k < t n
    · rw [bsl_t q.1 q.2] at h
      cases h
      refine ⟨by omega, q.1, fun i hi ci ne => Or.inl ?_⟩
      cases e : bsl c t n with
      | none => exact absurd ci (bsl_n e i (by omega))
      | some m =>
        obtain ⟨a1, a2, a3⟩ := bsl_s e
        have := q.2 m e
        by_cases z : i = m
        · subst z; omega
        · have := a3 i (by omega) ci z
          omega
    · have e : bsl c t (n + 1) = bsl c t n := cif_f q
      rw [e] at h
      obtain ⟨a1, a2, a3⟩ := bsl_s h
      refine ⟨by omega, a2, fun i hi ci ne => ?_⟩
      by_cases z : i = n
      · subst z
        have : ¬ t k < t i := fun w => q ⟨ci, fun k' hk' => by
          rw [h] at hk'
          cases hk'
          exact w⟩
        omega
      · exact a3 i (by omega) ci ne
end BS
def omx (t : Nat → Nat) : Option Nat → Nat
  | none => 0
  | some k => t k
def vo (m : Int32) (x : Nat) : Int32 := if x = 10 then m else nI x
theorem vo_n {m : Int32} : vo m 10 = m := if_pos rfl
theorem vo_s {m : Int32} {x : Nat} (h : x ≠ 10) : vo m x = nI x := if_neg h
theorem cnt_full {c : Nat → Prop} : ∀ {n : Nat}, cnt c n = n → ∀ i, i < n → c i
  | 0, _, i, hi => absurd hi (Nat.not_lt_zero i)
  | n + 1, h, i, hi => by
    have hl : cnt c n ≤ n := cnt_le n
    by_cases q : c n
    · rw [cnt_t q] at h
      by_cases z : i = n
      · subst z; exact q
      · exact cnt_full (n := n) (by omega) i (by omega)
    · rw [cnt_f q] at h
      omega
theorem cm_tr {rk : Nat → Nat} {a b c : Nat} (h : cm_ah rk a b) (k : cm_ah rk b c) : cm_ah rk a c := by
  unfold cm_ah at *
  omega
theorem cm_tot {rk : Nat → Nat} {a b : Nat} (h : a ≠ b) (k : ¬ cm_ah rk a b) : cm_ah rk b a := by
  unfold cm_ah at *
  omega
/-- the class's way there -/
def clI (np nv : Nat) (t : Nat → Nat → Nat) (rk : Nat → Nat) (s j : Nat) (L : Nat → Nat) (f g : Nat → Int32) : Prop :=
  (∀ p, s.testBit p = true → p < np) ∧ cnt (fun p => s.testBit p = true) np = j ∧ (∀ q p, s.testBit q = true → p < np → ¬ s.testBit p = true → cm_ah rk q p) ∧ (∀ p, p < np → ¬ s.testBit p = true → L p = 10) ∧ bl_ok np nv t L ∧
  (∀ p v, s.testBit p = true → v < nv → 0 < t p v → (L p = 10 ∨ cm_bt t p v (L p)) → ∃ q, q < np ∧ L q = v ∧ cm_ah rk q p) ∧ (∀ p, p < np → f p = vo (-nI 1) (L p)) ∧ (∀ v, v < nv → (g v = -nI 1 ∧ ∀ p, p < np → L p ≠ v) ∨ ∃ q, q < np ∧ g v = nI q ∧ L q = v)
section CL
variable {np nv s j : Nat} {t : Nat → Nat → Nat} {rk L : Nat → Nat} {f g : Nat → Int32}
theorem clI_out (h : clI np nv t rk s j L f g) (hj : j < np) : ∃ p, bsl (fun p => ¬ s.testBit p = true) rk np = some p := by
  cases e : bsl (fun p => ¬ s.testBit p = true) rk np with
  | some p => exact ⟨p, rfl⟩
  | none =>
    exfalso
    obtain ⟨i, i1, i2⟩ := cnt_lack (c := fun p => s.testBit p = true) (n := np) (by rw [h.2.1]; exact hj)
    exact bsl_n e i i1 i2
theorem clI_s {p : Nat} (hnp : np ≤ 10) (h : clI np nv t rk s j L f g) (hb : bsl (fun p => ¬ s.testBit p = true) rk np = some p) : p < np ∧ s.testBit p = false ∧ (∀ q, (s ||| 2 ^ p).testBit q = true → q < np) ∧ cnt (fun q => (s ||| 2 ^ p).testBit q = true) np = j + 1 ∧ (∀ q r, (s ||| 2 ^ p).testBit q = true → r < np → ¬ (s ||| 2 ^ p).testBit r = true → cm_ah rk q r) := by
  obtain ⟨h1, h2, h3, -⟩ := h
  obtain ⟨b1, b2, b3⟩ := bsl_s hb
  have bit : ∀ q, (s ||| 2 ^ p).testBit q = true ↔ s.testBit q = true ∨ p = q := fun q => by
    rw [bl_tb, Bool.or_eq_true, decide_eq_true_eq]
  refine ⟨b1, Bool.eq_false_iff.mpr b2, fun q hq => ?_, ?_, fun q r hq hr nr => ?_⟩
  · rcases (bit q).mp hq with z | z
    · exact h1 q z
    · rw [← z]; exact b1
  · rw [← h2]
    exact cnt_one (c := fun p => s.testBit p = true) (d := fun q => (s ||| 2 ^ p).testBit q = true) b1 b2 ((bit p).mpr (Or.inr rfl)) (fun i _ ne => (bit i).trans ⟨fun z => z.elim id (fun w => absurd w.symm ne), Or.inl⟩)
  · have n1 : ¬ s.testBit r = true := fun z => nr ((bit r).mpr (Or.inl z))
    have n2 : p ≠ r := fun z => nr ((bit r).mpr (Or.inr z))
    rcases (bit q).mp hq with z | z
    · exact h3 q r z hr n1
    · subst z
      have := b3 r hr n1 (fun w => n2 w.symm)
      unfold cm_ah
      omega
theorem clI_no {p : Nat} (hnp : np ≤ 10) (hnv : nv ≤ 10) (h : clI np nv t rk s j L f g) (hb : bsl (fun p => ¬ s.testBit p = true) rk np = some p) (hv : bsl (fun v => g v = -nI 1 ∧ 0 < t p v) (t p) nv = none) : clI np nv t rk (s ||| 2 ^ p) (j + 1) L f g := by
  obtain ⟨a1, a2, a3, a4, a5⟩ := clI_s hnp h hb
  obtain ⟨h1, h2, h3, h4, h5, h6, h7, h8⟩ := h
  refine ⟨a3, a4, a5, fun r hr nr => h4 r hr (fun z => nr (by rw [bl_tb, z]; rfl)), h5, fun r v hr hv' ht hc => ?_, h7, h8⟩
  rw [bl_tb, Bool.or_eq_true, decide_eq_true_eq] at hr
  rcases hr with hr | hr
  · exact h6 r v hr hv' ht hc
  · subst hr
    rcases h8 v hv' with z | ⟨q, q1, q2, q3⟩
    · exact absurd ⟨z.1, ht⟩ (bsl_n hv v hv')
    · refine ⟨q, q1, q3, ?_⟩
      have sq : s.testBit q = true := Classical.byContradiction (fun z => by
        have a := h4 q q1 z
        omega)
      exact h3 q p sq a1 (by rw [a2]; exact Bool.false_ne_true)
theorem clI_yes {p v : Nat} (hnp : np ≤ 10) (hnv : nv ≤ 10) (h : clI np nv t rk s j L f g) (hb : bsl (fun p => ¬ s.testBit p = true) rk np = some p) (hv : bsl (fun v => g v = -nI 1 ∧ 0 < t p v) (t p) nv = some v) : clI np nv t rk (s ||| 2 ^ p) (j + 1) (fun q => if q = p then v else L q) (upd f p (nI v)) (upd g v (nI p)) := by
  obtain ⟨a1, a2, a3, a4, a5⟩ := clI_s hnp h hb
  obtain ⟨h1, h2, h3, h4, h5, h6, h7, h8⟩ := h
  obtain ⟨v1, ⟨v2, v3⟩, v4⟩ := bsl_s hv
  have np' : ¬ s.testBit p = true := by rw [a2]; exact Bool.false_ne_true
  have lp : L p = 10 := h4 p a1 np'
  have free : ∀ q, q < np → L q ≠ v := fun q hq => by
    rcases h8 v v1 with z | ⟨x, x1, x2, x3⟩
    · exact z.2 q hq
    · rw [v2] at x2
      exact absurd x2 (fun w => (n_negeq (show x < 2 ^ 31 by omega) (by omega)).mp w)
  have held : ∀ q u, q < np → L q = u → u < nv → (if q = p then v else L q) = u := fun q u hq e hu => by
    by_cases z : q = p
    · rw [z, lp] at e; omega
    · rw [if_neg z]; exact e
  refine ⟨a3, a4, a5, fun r hr nr => ?_, ⟨fun r hr => ?_, fun r q hr hq ne n10 e => ?_⟩, fun r u hr hu ht hc => ?_, fun r hr => ?_, fun u hu => ?_⟩
  · have z : r ≠ p := fun z => nr (by rw [bl_tb, z]; simp)
    show (if r = p then v else L r) = 10
    rw [if_neg z]
    exact h4 r hr (fun z => nr (by rw [bl_tb, z]; rfl))
  · show (if r = p then v else L r) = 10 ∨ ((if r = p then v else L r) < nv ∧ 0 < t r (if r = p then v else L r))
    by_cases z : r = p
    · subst z
      rw [if_pos rfl]
      exact Or.inr ⟨v1, v3⟩
    · rw [if_neg z]
      rcases h5.1 r hr with y | y
      · exact Or.inl y
      · exact Or.inr y
  · have e' : (if r = p then v else L r) = (if q = p then v else L q) := e
    have n' : (if r = p then v else L r) ≠ 10 := n10
    by_cases z : r = p
    · rw [if_pos z, if_neg (fun w => ne (z.trans w.symm))] at e'
      exact free q hq e'.symm
    · rw [if_neg z] at e' n'
      by_cases y : q = p
      · rw [if_pos y] at e'
        exact free r hr e'
      · rw [if_neg y] at e'
        exact h5.2 r q hr hq ne n' e'
  · rw [bl_tb, Bool.or_eq_true, decide_eq_true_eq] at hr
    by_cases z : r = p
    · subst z
      have hc' : (if r = r then v else L r) = 10 ∨ cm_bt t r u (if r = r then v else L r) := hc
      rw [if_pos rfl] at hc'
      have hc2 : cm_bt t r u v := by
        rcases hc' with w | w
        · omega
        · exact w
      have ne : u ≠ v := fun w => by
        rw [w] at hc2
        unfold cm_bt at hc2
        omega
      rcases h8 u hu with y | ⟨q, q1, q2, q3⟩
      · have := v4 u hu ⟨y.1, ht⟩ ne
        unfold cm_bt at hc2
        omega
      · refine ⟨q, q1, held q u q1 q3 hu, ?_⟩
        have sq : s.testBit q = true := Classical.byContradiction (fun w => by
          have a := h4 q q1 w
          omega)
        exact h3 q r sq a1 np'
    · have sr : s.testBit r = true := hr.elim id (fun w => absurd w.symm z)
      have hc' : (if r = p then v else L r) = 10 ∨ cm_bt t r u (if r = p then v else L r) := hc
      rw [if_neg z] at hc'
      obtain ⟨q, q1, q2, q3⟩ := h6 r u sr hu ht hc'
      exact ⟨q, q1, held q u q1 q2 hu, q3⟩
  · show upd f p (nI v) r = vo (-nI 1) (if r = p then v else L r)
    by_cases z : r = p
    · subst z
      rw [pk_us, if_pos rfl, vo_s (by omega)]
    · rw [pk_un z, if_neg z]
      exact h7 r hr
  · by_cases z : u = v
    · subst z
      exact Or.inr ⟨p, a1, pk_us, if_pos rfl⟩
    · rcases h8 u hu with y | ⟨q, q1, q2, q3⟩
      · refine Or.inl ⟨by rw [pk_un z]; exact y.1, fun q hq => ?_⟩
        show (if q = p then v else L q) ≠ u
        by_cases w : q = p
        · rw [if_pos w]; exact fun x => z x.symm
        · rw [if_neg w]; exact y.2 q hq
      · exact Or.inr ⟨q, q1, by rw [pk_un z]; exact q2, held q u q1 q3 hu⟩
theorem clI_end (h : clI np nv t rk s np L f g) : cm_calm np nv t rk L := by
  obtain ⟨h1, h2, h3, h4, h5, h6, h7, h8⟩ := h
  have all := cnt_full h2
  exact ⟨h5, fun p v hp hv ht hc => h6 p v (all p hp) hv ht hc⟩
theorem clI_0 (hnp : np ≤ 10) (hf : ∀ p, p < np → f p = -nI 1) (hg : ∀ v, v < nv → g v = -nI 1) (hnv : nv ≤ 10) : clI np nv t rk 0 0 (fun _ => 10) f g := by
  have b : ∀ p, ¬ (0 : Nat).testBit p = true := fun p z => by rw [Nat.zero_testBit] at z; cases z
  refine ⟨fun p z => absurd z (b p), cnt_no (fun p _ => b p), fun q p z => absurd z (b q), fun _ _ _ => rfl, ⟨fun p _ => Or.inl rfl, fun p q _ _ _ n => absurd rfl n⟩, fun p v z => absurd z (b p), fun p hp => ?_, fun v hv => Or.inl ⟨hg v hv, fun p _ => ?_⟩⟩
  · rw [hf p hp, vo_n]
  · show 10 ≠ v
    omega
end CL
/-- what the class knows once it has read -/
def clF (S : zS) (np nv : Nat) (t : Nat → Nat → Nat) (rk : Nat → Nat) : Prop := S.1 2 0 = nI np ∧ S.1 2 1 = nI nv ∧ (∀ p, p < np → S.2.1 20 p = nI (rk p) ∧ rk p ≤ 99) ∧ (∀ p, p < np → ∀ v, v < nv → S.2.1 (22 + p) v = nI (t p v) ∧ t p v ≤ 99)
section CM
variable {sc : zX} {σ : zS} {Q : Option Value → zS → Prop}
theorem sp_greatest {np nv s g : Nat} {t : Nat → Nat → Nat} {rk : Nat → Nat} (hnp : np ≤ 10) (hF : clF σ np nv t rk) (hs : s < 1024) (hg : bsl (fun p => ¬ s.testBit p = true) rk np = some g) : PC sc 31 [.ref 2, .int (nI s)] σ Q ↔ Q (some (.int (nI g))) σ := by
  obtain ⟨f1, f2, f3, f4⟩ := hF
  rw [PC_31, zb_31_0]
  simp (disch := first | exact zl_i | exact zl_r | exact zl_n | omega | exact zlen0 | exact zlen1 | exact zlen2 | exact zlen3 | exact zlen4 | exact zl_l | (unfold scF; omega) | (unfold scR; omega) | (simp only [zS_uf1, zS_uf2, zS_ur1, zS_ur2, Nat.reduceEqDiff, reduceIte, and_false, false_and, and_true, true_and, ite_true, ite_false]; done) | exact zl_n) only [Int.reduceToNat, Nat.reduceAdd, Nat.reduceMul, List.length_nil, List.length_cons, Nat.reduceLeDiff, Nat.zero_le, Option.toList_some, Option.toList_none, List.cons_append, List.nil_append, PW_nil, PW_goto, zl_i, zl_r, zl_n, PW_km1, PW_istore_2, PW_k0, PW_istore_3, PW_iload_3, PW_aload_0, PW_g128, PW_ic_ge, PW_iload_1, PW_ishr, PW_k1, PW_iand, PW_if_ne, PW_iload_2, PW_ic_eq, PX_c33, PW_if_eq, PW_iinc_3_p1, PM_max, PW_ret_i zret_31, zb_31_2, zb_31_3, zb_31_4, PK_app, n_l0, n_l1, n_l2, n_l3, n_l4, n_l5, n_l8, n_l9, n_l10, n_l15, n_l20, n_l31, n_l40, n_l48, n_l57, n_l59, n_l60, n_l70, n_l99, n_l100, n_l255, n_l601, n_l602, n_l1024, n_l1500, n_l2100, n_l2101, n_l65535, n_l100000, n_l1000000, n_l100000000, i_lt, nI_clamp, nI_leI, nI_eq, nI_1, nI_add, pk_mul, pk_sub, n_in, n_negle, n_legne, n_eqneg, n_negeq, n_nn, n_bit, n_shl1, n_or, zb_e0, zb_e1, zb_r, n_em, zb_T, zb_F, zS_uf1, zS_uf2, zS_ur1, zS_ur2, zS_ur3, zS_ul1, zS_ul2, zS_ul3, z_if0, z_if1, Int.reduceEq, Nat.reduceOr, Nat.or_zero, Nat.zero_or, Bool.false_eq_true, reduceCtorEq, nar0, nar1, nar_zb, eq_self, true_and, and_true, false_and, and_false, or_true, true_or, or_false, false_or, not_true_eq_false, not_false_eq_true, Classical.not_not, true_implies, false_implies, implies_true, iff_true, iff_self, ite_true, ite_false, Nat.reduceEqDiff, Nat.reduceLT, Nat.reduceSub, Nat.add_sub_cancel, Nat.reduceLeDiff, reduceIte, ne_eq, Nat.not_le]
  refine ((lp_all np (fun i => PW sc 31 (zblk 31 1) 2 [some (.ref 2), some (.int (nI s)), some (.int (oi (-nI 1) (bsl (fun p => ¬ s.testBit p = true) rk i))), some (.int (nI i))] [] (σ) Q) (fun i hi => ?_)).trans ?_)
  · conv => lhs; rw [zb_31_1]
    have hb := n_bit (a := s) (k := i) (by omega) (by omega)
    obtain ⟨r1, r2⟩ := f3 i hi
    by_cases c : s.testBit i = true
    · rw [bsl_f (c := fun p => ¬ s.testBit p = true) (fun z => z c)]
      simp (disch := first | exact zl_i | exact zl_r | exact zl_n | omega | exact zlen0 | exact zlen1 | exact zlen2 | exact zlen3 | exact zlen4 | exact zl_l | (unfold scF; omega) | (unfold scR; omega) | (simp only [zS_uf1, zS_uf2, zS_ur1, zS_ur2, Nat.reduceEqDiff, reduceIte, and_false, false_and, and_true, true_and, ite_true, ite_false]; done) | exact zl_n) only [Int.reduceToNat, Nat.reduceAdd, Nat.reduceMul, List.length_nil, List.length_cons, Nat.reduceLeDiff, Nat.zero_le, Option.toList_some, Option.toList_none, List.cons_append, List.nil_append, PW_nil, PW_goto, zl_i, zl_r, zl_n, PW_km1, PW_istore_2, PW_k0, PW_istore_3, PW_iload_3, PW_aload_0, PW_g128, PW_ic_ge, PW_iload_1, PW_ishr, PW_k1, PW_iand, PW_if_ne, PW_iload_2, PW_ic_eq, PX_c33, PW_if_eq, PW_iinc_3_p1, PM_max, PW_ret_i zret_31, zb_31_2, zb_31_3, zb_31_4, PK_app, n_l0, n_l1, n_l2, n_l3, n_l4, n_l5, n_l8, n_l9, n_l10, n_l15, n_l20, n_l31, n_l40, n_l48, n_l57, n_l59, n_l60, n_l70, n_l99, n_l100, n_l255, n_l601, n_l602, n_l1024, n_l1500, n_l2100, n_l2101, n_l65535, n_l100000, n_l1000000, n_l100000000, i_lt, nI_clamp, nI_leI, nI_eq, nI_1, nI_add, pk_mul, pk_sub, n_in, n_negle, n_legne, n_eqneg, n_negeq, n_nn, n_bit, n_shl1, n_or, zb_e0, zb_e1, zb_r, n_em, zb_T, zb_F, zS_uf1, zS_uf2, zS_ur1, zS_ur2, zS_ur3, zS_ul1, zS_ul2, zS_ul3, z_if0, z_if1, Int.reduceEq, Nat.reduceOr, Nat.or_zero, Nat.zero_or, Bool.false_eq_true, reduceCtorEq, nar0, nar1, nar_zb, eq_self, true_and, and_true, false_and, and_false, or_true, true_or, or_false, false_or, not_true_eq_false, not_false_eq_true, Classical.not_not, true_implies, false_implies, implies_true, iff_true, iff_self, ite_true, ite_false, Nat.reduceEqDiff, Nat.reduceLT, Nat.reduceSub, Nat.add_sub_cancel, Nat.reduceLeDiff, reduceIte, ne_eq, Nat.not_le, f1, Nat.not_le.mpr hi, hb, c]
    · cases e : bsl (fun p => ¬ s.testBit p = true) rk i with
      | none =>
        rw [bsl_t (c := fun p => ¬ s.testBit p = true) c (fun k hk => by rw [e] at hk; cases hk)]
        simp (disch := first | exact zl_i | exact zl_r | exact zl_n | omega | exact zlen0 | exact zlen1 | exact zlen2 | exact zlen3 | exact zlen4 | exact zl_l | (unfold scF; omega) | (unfold scR; omega) | (simp only [zS_uf1, zS_uf2, zS_ur1, zS_ur2, Nat.reduceEqDiff, reduceIte, and_false, false_and, and_true, true_and, ite_true, ite_false]; done) | exact zl_n) only [Int.reduceToNat, Nat.reduceAdd, Nat.reduceMul, List.length_nil, List.length_cons, Nat.reduceLeDiff, Nat.zero_le, Option.toList_some, Option.toList_none, List.cons_append, List.nil_append, PW_nil, PW_goto, zl_i, zl_r, zl_n, PW_km1, PW_istore_2, PW_k0, PW_istore_3, PW_iload_3, PW_aload_0, PW_g128, PW_ic_ge, PW_iload_1, PW_ishr, PW_k1, PW_iand, PW_if_ne, PW_iload_2, PW_ic_eq, PX_c33, PW_if_eq, PW_iinc_3_p1, PM_max, PW_ret_i zret_31, zb_31_2, zb_31_3, zb_31_4, PK_app, n_l0, n_l1, n_l2, n_l3, n_l4, n_l5, n_l8, n_l9, n_l10, n_l15, n_l20, n_l31, n_l40, n_l48, n_l57, n_l59, n_l60, n_l70, n_l99, n_l100, n_l255, n_l601, n_l602, n_l1024, n_l1500, n_l2100, n_l2101, n_l65535, n_l100000, n_l1000000, n_l100000000, i_lt, nI_clamp, nI_leI, nI_eq, nI_1, nI_add, pk_mul, pk_sub, n_in, n_negle, n_legne, n_eqneg, n_negeq, n_nn, n_bit, n_shl1, n_or, zb_e0, zb_e1, zb_r, n_em, zb_T, zb_F, zS_uf1, zS_uf2, zS_ur1, zS_ur2, zS_ur3, zS_ul1, zS_ul2, zS_ul3, z_if0, z_if1, Int.reduceEq, Nat.reduceOr, Nat.or_zero, Nat.zero_or, Bool.false_eq_true, reduceCtorEq, nar0, nar1, nar_zb, eq_self, true_and, and_true, false_and, and_false, or_true, true_or, or_false, false_or, not_true_eq_false, not_false_eq_true, Classical.not_not, true_implies, false_implies, implies_true, iff_true, iff_self, ite_true, ite_false, Nat.reduceEqDiff, Nat.reduceLT, Nat.reduceSub, Nat.add_sub_cancel, Nat.reduceLeDiff, reduceIte, ne_eq, Nat.not_le, f1, Nat.not_le.mpr hi, hb, c, oi_n, oi_s]
      | some k =>
        obtain ⟨k1, k2, k3⟩ := bsl_s e
        obtain ⟨r3, r4⟩ := f3 k (by omega)
        have sa := fun Q => sp_isAhead2 (sc := sc) (σ := σ) (Q := Q) (p := i) (h := k) (by omega) (by omega)
        have ea : ahd (σ.2.1 20) i k ↔ rk k < rk i := by
          unfold ahd
          rw [r1, r3, nI_leI (by omega) (by omega)]
          omega
        by_cases l : rk k < rk i
        · rw [bsl_t (c := fun p => ¬ s.testBit p = true) c (fun k' hk' => by rw [e] at hk'; cases hk'; exact l)]
          have ea' := eq_true (ea.mpr l)
          simp (disch := first | exact zl_i | exact zl_r | exact zl_n | omega | exact zlen0 | exact zlen1 | exact zlen2 | exact zlen3 | exact zlen4 | exact zl_l | (unfold scF; omega) | (unfold scR; omega) | (simp only [zS_uf1, zS_uf2, zS_ur1, zS_ur2, Nat.reduceEqDiff, reduceIte, and_false, false_and, and_true, true_and, ite_true, ite_false]; done) | exact zl_n) only [Int.reduceToNat, Nat.reduceAdd, Nat.reduceMul, List.length_nil, List.length_cons, Nat.reduceLeDiff, Nat.zero_le, Option.toList_some, Option.toList_none, List.cons_append, List.nil_append, PW_nil, PW_goto, zl_i, zl_r, zl_n, PW_km1, PW_istore_2, PW_k0, PW_istore_3, PW_iload_3, PW_aload_0, PW_g128, PW_ic_ge, PW_iload_1, PW_ishr, PW_k1, PW_iand, PW_if_ne, PW_iload_2, PW_ic_eq, PX_c33, PW_if_eq, PW_iinc_3_p1, PM_max, PW_ret_i zret_31, zb_31_2, zb_31_3, zb_31_4, PK_app, n_l0, n_l1, n_l2, n_l3, n_l4, n_l5, n_l8, n_l9, n_l10, n_l15, n_l20, n_l31, n_l40, n_l48, n_l57, n_l59, n_l60, n_l70, n_l99, n_l100, n_l255, n_l601, n_l602, n_l1024, n_l1500, n_l2100, n_l2101, n_l65535, n_l100000, n_l1000000, n_l100000000, i_lt, nI_clamp, nI_leI, nI_eq, nI_1, nI_add, pk_mul, pk_sub, n_in, n_negle, n_legne, n_eqneg, n_negeq, n_nn, n_bit, n_shl1, n_or, zb_e0, zb_e1, zb_r, n_em, zb_T, zb_F, zS_uf1, zS_uf2, zS_ur1, zS_ur2, zS_ur3, zS_ul1, zS_ul2, zS_ul3, z_if0, z_if1, Int.reduceEq, Nat.reduceOr, Nat.or_zero, Nat.zero_or, Bool.false_eq_true, reduceCtorEq, nar0, nar1, nar_zb, eq_self, true_and, and_true, false_and, and_false, or_true, true_or, or_false, false_or, not_true_eq_false, not_false_eq_true, Classical.not_not, true_implies, false_implies, implies_true, iff_true, iff_self, ite_true, ite_false, Nat.reduceEqDiff, Nat.reduceLT, Nat.reduceSub, Nat.add_sub_cancel, Nat.reduceLeDiff, reduceIte, ne_eq, Nat.not_le, f1, Nat.not_le.mpr hi, hb, c, oi_s, sa, ea', PK_app]
        · rw [bsl_f2 e (by omega), e]
          have ea' := eq_false (fun z => l (ea.mp z))
          simp (disch := first | exact zl_i | exact zl_r | exact zl_n | omega | exact zlen0 | exact zlen1 | exact zlen2 | exact zlen3 | exact zlen4 | exact zl_l | (unfold scF; omega) | (unfold scR; omega) | (simp only [zS_uf1, zS_uf2, zS_ur1, zS_ur2, Nat.reduceEqDiff, reduceIte, and_false, false_and, and_true, true_and, ite_true, ite_false]; done) | exact zl_n) only [Int.reduceToNat, Nat.reduceAdd, Nat.reduceMul, List.length_nil, List.length_cons, Nat.reduceLeDiff, Nat.zero_le, Option.toList_some, Option.toList_none, List.cons_append, List.nil_append, PW_nil, PW_goto, zl_i, zl_r, zl_n, PW_km1, PW_istore_2, PW_k0, PW_istore_3, PW_iload_3, PW_aload_0, PW_g128, PW_ic_ge, PW_iload_1, PW_ishr, PW_k1, PW_iand, PW_if_ne, PW_iload_2, PW_ic_eq, PX_c33, PW_if_eq, PW_iinc_3_p1, PM_max, PW_ret_i zret_31, zb_31_2, zb_31_3, zb_31_4, PK_app, n_l0, n_l1, n_l2, n_l3, n_l4, n_l5, n_l8, n_l9, n_l10, n_l15, n_l20, n_l31, n_l40, n_l48, n_l57, n_l59, n_l60, n_l70, n_l99, n_l100, n_l255, n_l601, n_l602, n_l1024, n_l1500, n_l2100, n_l2101, n_l65535, n_l100000, n_l1000000, n_l100000000, i_lt, nI_clamp, nI_leI, nI_eq, nI_1, nI_add, pk_mul, pk_sub, n_in, n_negle, n_legne, n_eqneg, n_negeq, n_nn, n_bit, n_shl1, n_or, zb_e0, zb_e1, zb_r, n_em, zb_T, zb_F, zS_uf1, zS_uf2, zS_ur1, zS_ur2, zS_ur3, zS_ul1, zS_ul2, zS_ul3, z_if0, z_if1, Int.reduceEq, Nat.reduceOr, Nat.or_zero, Nat.zero_or, Bool.false_eq_true, reduceCtorEq, nar0, nar1, nar_zb, eq_self, true_and, and_true, false_and, and_false, or_true, true_or, or_false, false_or, not_true_eq_false, not_false_eq_true, Classical.not_not, true_implies, false_implies, implies_true, iff_true, iff_self, ite_true, ite_false, Nat.reduceEqDiff, Nat.reduceLT, Nat.reduceSub, Nat.add_sub_cancel, Nat.reduceLeDiff, reduceIte, ne_eq, Nat.not_le, f1, Nat.not_le.mpr hi, hb, c, oi_s, sa, ea', PK_app]
  · rw [hg, zb_31_1]
    obtain ⟨g1, -⟩ := bsl_s hg
    have zm := z_mx_n (a := g) (b := 0) (by omega) (by omega)
    rw [Nat.max_eq_left (Nat.zero_le g)] at zm
    simp (disch := first | exact zl_i | exact zl_r | exact zl_n | omega | exact zlen0 | exact zlen1 | exact zlen2 | exact zlen3 | exact zlen4 | exact zl_l | (unfold scF; omega) | (unfold scR; omega) | (simp only [zS_uf1, zS_uf2, zS_ur1, zS_ur2, Nat.reduceEqDiff, reduceIte, and_false, false_and, and_true, true_and, ite_true, ite_false]; done) | exact zl_n) only [Int.reduceToNat, Nat.reduceAdd, Nat.reduceMul, List.length_nil, List.length_cons, Nat.reduceLeDiff, Nat.zero_le, Option.toList_some, Option.toList_none, List.cons_append, List.nil_append, PW_nil, PW_goto, zl_i, zl_r, zl_n, PW_km1, PW_istore_2, PW_k0, PW_istore_3, PW_iload_3, PW_aload_0, PW_g128, PW_ic_ge, PW_iload_1, PW_ishr, PW_k1, PW_iand, PW_if_ne, PW_iload_2, PW_ic_eq, PX_c33, PW_if_eq, PW_iinc_3_p1, PM_max, PW_ret_i zret_31, zb_31_2, zb_31_3, zb_31_4, PK_app, n_l0, n_l1, n_l2, n_l3, n_l4, n_l5, n_l8, n_l9, n_l10, n_l15, n_l20, n_l31, n_l40, n_l48, n_l57, n_l59, n_l60, n_l70, n_l99, n_l100, n_l255, n_l601, n_l602, n_l1024, n_l1500, n_l2100, n_l2101, n_l65535, n_l100000, n_l1000000, n_l100000000, i_lt, nI_clamp, nI_leI, nI_eq, nI_1, nI_add, pk_mul, pk_sub, n_in, n_negle, n_legne, n_eqneg, n_negeq, n_nn, n_bit, n_shl1, n_or, zb_e0, zb_e1, zb_r, n_em, zb_T, zb_F, zS_uf1, zS_uf2, zS_ur1, zS_ur2, zS_ur3, zS_ul1, zS_ul2, zS_ul3, z_if0, z_if1, Int.reduceEq, Nat.reduceOr, Nat.or_zero, Nat.zero_or, Bool.false_eq_true, reduceCtorEq, nar0, nar1, nar_zb, eq_self, true_and, and_true, false_and, and_false, or_true, true_or, or_false, false_or, not_true_eq_false, not_false_eq_true, Classical.not_not, true_implies, false_implies, implies_true, iff_true, iff_self, ite_true, ite_false, Nat.reduceEqDiff, Nat.reduceLT, Nat.reduceSub, Nat.add_sub_cancel, Nat.reduceLeDiff, reduceIte, ne_eq, Nat.not_le, f1, Nat.le_refl, oi_s, zm]
theorem sp_dearest {np nv p : Nat} {t : Nat → Nat → Nat} {rk : Nat → Nat} (hnp : np ≤ 10) (hnv : nv ≤ 10) (hF : clF σ np nv t rk) (hp : p < np) : PC sc 32 [.ref 2, .int (nI p)] σ Q ↔ Q (some (.int (oi (-nI 1) (bsl (fun v => σ.2.1 33 v = -nI 1 ∧ 0 < t p v) (t p) nv)))) σ := by
  obtain ⟨f1, f2, f3, f4⟩ := hF
  rw [PC_32, zb_32_0]
  simp (disch := first | exact zl_i | exact zl_r | exact zl_n | omega | exact zlen0 | exact zlen1 | exact zlen2 | exact zlen3 | exact zlen4 | exact zl_l | (unfold scF; omega) | (unfold scR; omega) | (simp only [zS_uf1, zS_uf2, zS_ur1, zS_ur2, Nat.reduceEqDiff, reduceIte, and_false, false_and, and_true, true_and, ite_true, ite_false]; done) | exact zl_n) only [Int.reduceToNat, Nat.reduceAdd, Nat.reduceMul, List.length_nil, List.length_cons, Nat.reduceLeDiff, Nat.zero_le, Option.toList_some, Option.toList_none, List.cons_append, List.nil_append, PW_nil, PW_goto, zl_i, zl_r, zl_n, PW_km1, PW_istore_2, PW_k0, PW_istore_3, PW_istore_4, PW_iload_4, PW_aload_0, PW_g129, PW_ic_ge, PW_g133, PW_iar21, PW_ia33, PW_ic_ne, PW_g131, PW_iload_1, PW_aa21, PW_iload_3, PW_ic_le, PW_iinc_4_p1, PW_iload_2, PW_ret_i zret_32, zb_32_2, zb_32_3, PK_app, n_l0, n_l1, n_l2, n_l3, n_l4, n_l5, n_l8, n_l9, n_l10, n_l15, n_l20, n_l31, n_l40, n_l48, n_l57, n_l59, n_l60, n_l70, n_l99, n_l100, n_l255, n_l601, n_l602, n_l1024, n_l1500, n_l2100, n_l2101, n_l65535, n_l100000, n_l1000000, n_l100000000, i_lt, nI_clamp, nI_leI, nI_eq, nI_1, nI_add, pk_mul, pk_sub, n_in, n_negle, n_legne, n_eqneg, n_negeq, n_nn, n_bit, n_shl1, n_or, zb_e0, zb_e1, zb_r, n_em, zb_T, zb_F, zS_uf1, zS_uf2, zS_ur1, zS_ur2, zS_ur3, zS_ul1, zS_ul2, zS_ul3, z_if0, z_if1, Int.reduceEq, Nat.reduceOr, Nat.or_zero, Nat.zero_or, Bool.false_eq_true, reduceCtorEq, nar0, nar1, nar_zb, eq_self, true_and, and_true, false_and, and_false, or_true, true_or, or_false, false_or, not_true_eq_false, not_false_eq_true, Classical.not_not, true_implies, false_implies, implies_true, iff_true, iff_self, ite_true, ite_false, Nat.reduceEqDiff, Nat.reduceLT, Nat.reduceSub, Nat.add_sub_cancel, Nat.reduceLeDiff, reduceIte, ne_eq, Nat.not_le]
  refine ((lp_all nv (fun i => PW sc 32 (zblk 32 1) 2 [some (.ref 2), some (.int (nI p)), some (.int (oi (-nI 1) (bsl (fun v => σ.2.1 33 v = -nI 1 ∧ 0 < t p v) (t p) i))), some (.int (nI (omx (t p) (bsl (fun v => σ.2.1 33 v = -nI 1 ∧ 0 < t p v) (t p) i)))), some (.int (nI i))] [] (σ) Q) (fun i hi => ?_)).trans ?_)
  · conv => lhs; rw [zb_32_1]
    obtain ⟨r1, r2⟩ := f4 p hp i hi
    by_cases c : σ.2.1 33 i = -nI 1
    · cases e : bsl (fun v => σ.2.1 33 v = -nI 1 ∧ 0 < t p v) (t p) i with
      | none =>
        have em : omx (t p) none = 0 := rfl
        by_cases l : t p i ≤ 0
        · rw [bsl_f (c := fun v => σ.2.1 33 v = -nI 1 ∧ 0 < t p v) (fun z => by have := z.2; omega), e, em]
          simp (disch := first | exact zl_i | exact zl_r | exact zl_n | omega | exact zlen0 | exact zlen1 | exact zlen2 | exact zlen3 | exact zlen4 | exact zl_l | (unfold scF; omega) | (unfold scR; omega) | (simp only [zS_uf1, zS_uf2, zS_ur1, zS_ur2, Nat.reduceEqDiff, reduceIte, and_false, false_and, and_true, true_and, ite_true, ite_false]; done) | exact zl_n) only [Int.reduceToNat, Nat.reduceAdd, Nat.reduceMul, List.length_nil, List.length_cons, Nat.reduceLeDiff, Nat.zero_le, Option.toList_some, Option.toList_none, List.cons_append, List.nil_append, PW_nil, PW_goto, zl_i, zl_r, zl_n, PW_km1, PW_istore_2, PW_k0, PW_istore_3, PW_istore_4, PW_iload_4, PW_aload_0, PW_g129, PW_ic_ge, PW_g133, PW_iar21, PW_ia33, PW_ic_ne, PW_g131, PW_iload_1, PW_aa21, PW_iload_3, PW_ic_le, PW_iinc_4_p1, PW_iload_2, PW_ret_i zret_32, zb_32_2, zb_32_3, PK_app, n_l0, n_l1, n_l2, n_l3, n_l4, n_l5, n_l8, n_l9, n_l10, n_l15, n_l20, n_l31, n_l40, n_l48, n_l57, n_l59, n_l60, n_l70, n_l99, n_l100, n_l255, n_l601, n_l602, n_l1024, n_l1500, n_l2100, n_l2101, n_l65535, n_l100000, n_l1000000, n_l100000000, i_lt, nI_clamp, nI_leI, nI_eq, nI_1, nI_add, pk_mul, pk_sub, n_in, n_negle, n_legne, n_eqneg, n_negeq, n_nn, n_bit, n_shl1, n_or, zb_e0, zb_e1, zb_r, n_em, zb_T, zb_F, zS_uf1, zS_uf2, zS_ur1, zS_ur2, zS_ur3, zS_ul1, zS_ul2, zS_ul3, z_if0, z_if1, Int.reduceEq, Nat.reduceOr, Nat.or_zero, Nat.zero_or, Bool.false_eq_true, reduceCtorEq, nar0, nar1, nar_zb, eq_self, true_and, and_true, false_and, and_false, or_true, true_or, or_false, false_or, not_true_eq_false, not_false_eq_true, Classical.not_not, true_implies, false_implies, implies_true, iff_true, iff_self, ite_true, ite_false, Nat.reduceEqDiff, Nat.reduceLT, Nat.reduceSub, Nat.add_sub_cancel, Nat.reduceLeDiff, reduceIte, ne_eq, Nat.not_le, f2, Nat.not_le.mpr hi, c, PW_aa21, r1, l]
        · have em2 : omx (t p) (some i) = t p i := rfl
          rw [bsl_t (c := fun v => σ.2.1 33 v = -nI 1 ∧ 0 < t p v) ⟨c, by omega⟩ (fun k hk => by rw [e] at hk; cases hk), em, em2]
          simp (disch := first | exact zl_i | exact zl_r | exact zl_n | omega | exact zlen0 | exact zlen1 | exact zlen2 | exact zlen3 | exact zlen4 | exact zl_l | (unfold scF; omega) | (unfold scR; omega) | (simp only [zS_uf1, zS_uf2, zS_ur1, zS_ur2, Nat.reduceEqDiff, reduceIte, and_false, false_and, and_true, true_and, ite_true, ite_false]; done) | exact zl_n) only [Int.reduceToNat, Nat.reduceAdd, Nat.reduceMul, List.length_nil, List.length_cons, Nat.reduceLeDiff, Nat.zero_le, Option.toList_some, Option.toList_none, List.cons_append, List.nil_append, PW_nil, PW_goto, zl_i, zl_r, zl_n, PW_km1, PW_istore_2, PW_k0, PW_istore_3, PW_istore_4, PW_iload_4, PW_aload_0, PW_g129, PW_ic_ge, PW_g133, PW_iar21, PW_ia33, PW_ic_ne, PW_g131, PW_iload_1, PW_aa21, PW_iload_3, PW_ic_le, PW_iinc_4_p1, PW_iload_2, PW_ret_i zret_32, zb_32_2, zb_32_3, PK_app, n_l0, n_l1, n_l2, n_l3, n_l4, n_l5, n_l8, n_l9, n_l10, n_l15, n_l20, n_l31, n_l40, n_l48, n_l57, n_l59, n_l60, n_l70, n_l99, n_l100, n_l255, n_l601, n_l602, n_l1024, n_l1500, n_l2100, n_l2101, n_l65535, n_l100000, n_l1000000, n_l100000000, i_lt, nI_clamp, nI_leI, nI_eq, nI_1, nI_add, pk_mul, pk_sub, n_in, n_negle, n_legne, n_eqneg, n_negeq, n_nn, n_bit, n_shl1, n_or, zb_e0, zb_e1, zb_r, n_em, zb_T, zb_F, zS_uf1, zS_uf2, zS_ur1, zS_ur2, zS_ur3, zS_ul1, zS_ul2, zS_ul3, z_if0, z_if1, Int.reduceEq, Nat.reduceOr, Nat.or_zero, Nat.zero_or, Bool.false_eq_true, reduceCtorEq, nar0, nar1, nar_zb, eq_self, true_and, and_true, false_and, and_false, or_true, true_or, or_false, false_or, not_true_eq_false, not_false_eq_true, Classical.not_not, true_implies, false_implies, implies_true, iff_true, iff_self, ite_true, ite_false, Nat.reduceEqDiff, Nat.reduceLT, Nat.reduceSub, Nat.add_sub_cancel, Nat.reduceLeDiff, reduceIte, ne_eq, Nat.not_le, f2, Nat.not_le.mpr hi, c, PW_aa21, r1, l, oi_s]
      | some k =>
        obtain ⟨k1, k2, k3⟩ := bsl_s e
        have tk := (f4 p hp k (by omega)).2
        have em : omx (t p) (some k) = t p k := rfl
        by_cases l : t p i ≤ t p k
        · rw [bsl_f2 e l, e, em]
          simp (disch := first | exact zl_i | exact zl_r | exact zl_n | omega | exact zlen0 | exact zlen1 | exact zlen2 | exact zlen3 | exact zlen4 | exact zl_l | (unfold scF; omega) | (unfold scR; omega) | (simp only [zS_uf1, zS_uf2, zS_ur1, zS_ur2, Nat.reduceEqDiff, reduceIte, and_false, false_and, and_true, true_and, ite_true, ite_false]; done) | exact zl_n) only [Int.reduceToNat, Nat.reduceAdd, Nat.reduceMul, List.length_nil, List.length_cons, Nat.reduceLeDiff, Nat.zero_le, Option.toList_some, Option.toList_none, List.cons_append, List.nil_append, PW_nil, PW_goto, zl_i, zl_r, zl_n, PW_km1, PW_istore_2, PW_k0, PW_istore_3, PW_istore_4, PW_iload_4, PW_aload_0, PW_g129, PW_ic_ge, PW_g133, PW_iar21, PW_ia33, PW_ic_ne, PW_g131, PW_iload_1, PW_aa21, PW_iload_3, PW_ic_le, PW_iinc_4_p1, PW_iload_2, PW_ret_i zret_32, zb_32_2, zb_32_3, PK_app, n_l0, n_l1, n_l2, n_l3, n_l4, n_l5, n_l8, n_l9, n_l10, n_l15, n_l20, n_l31, n_l40, n_l48, n_l57, n_l59, n_l60, n_l70, n_l99, n_l100, n_l255, n_l601, n_l602, n_l1024, n_l1500, n_l2100, n_l2101, n_l65535, n_l100000, n_l1000000, n_l100000000, i_lt, nI_clamp, nI_leI, nI_eq, nI_1, nI_add, pk_mul, pk_sub, n_in, n_negle, n_legne, n_eqneg, n_negeq, n_nn, n_bit, n_shl1, n_or, zb_e0, zb_e1, zb_r, n_em, zb_T, zb_F, zS_uf1, zS_uf2, zS_ur1, zS_ur2, zS_ur3, zS_ul1, zS_ul2, zS_ul3, z_if0, z_if1, Int.reduceEq, Nat.reduceOr, Nat.or_zero, Nat.zero_or, Bool.false_eq_true, reduceCtorEq, nar0, nar1, nar_zb, eq_self, true_and, and_true, false_and, and_false, or_true, true_or, or_false, false_or, not_true_eq_false, not_false_eq_true, Classical.not_not, true_implies, false_implies, implies_true, iff_true, iff_self, ite_true, ite_false, Nat.reduceEqDiff, Nat.reduceLT, Nat.reduceSub, Nat.add_sub_cancel, Nat.reduceLeDiff, reduceIte, ne_eq, Nat.not_le, f2, Nat.not_le.mpr hi, c, PW_aa21, r1, l]
        · have em2 : omx (t p) (some i) = t p i := rfl
          rw [bsl_t (c := fun v => σ.2.1 33 v = -nI 1 ∧ 0 < t p v) ⟨c, by omega⟩ (fun k' hk' => by rw [e] at hk'; cases hk'; omega), em, em2]
          simp (disch := first | exact zl_i | exact zl_r | exact zl_n | omega | exact zlen0 | exact zlen1 | exact zlen2 | exact zlen3 | exact zlen4 | exact zl_l | (unfold scF; omega) | (unfold scR; omega) | (simp only [zS_uf1, zS_uf2, zS_ur1, zS_ur2, Nat.reduceEqDiff, reduceIte, and_false, false_and, and_true, true_and, ite_true, ite_false]; done) | exact zl_n) only [Int.reduceToNat, Nat.reduceAdd, Nat.reduceMul, List.length_nil, List.length_cons, Nat.reduceLeDiff, Nat.zero_le, Option.toList_some, Option.toList_none, List.cons_append, List.nil_append, PW_nil, PW_goto, zl_i, zl_r, zl_n, PW_km1, PW_istore_2, PW_k0, PW_istore_3, PW_istore_4, PW_iload_4, PW_aload_0, PW_g129, PW_ic_ge, PW_g133, PW_iar21, PW_ia33, PW_ic_ne, PW_g131, PW_iload_1, PW_aa21, PW_iload_3, PW_ic_le, PW_iinc_4_p1, PW_iload_2, PW_ret_i zret_32, zb_32_2, zb_32_3, PK_app, n_l0, n_l1, n_l2, n_l3, n_l4, n_l5, n_l8, n_l9, n_l10, n_l15, n_l20, n_l31, n_l40, n_l48, n_l57, n_l59, n_l60, n_l70, n_l99, n_l100, n_l255, n_l601, n_l602, n_l1024, n_l1500, n_l2100, n_l2101, n_l65535, n_l100000, n_l1000000, n_l100000000, i_lt, nI_clamp, nI_leI, nI_eq, nI_1, nI_add, pk_mul, pk_sub, n_in, n_negle, n_legne, n_eqneg, n_negeq, n_nn, n_bit, n_shl1, n_or, zb_e0, zb_e1, zb_r, n_em, zb_T, zb_F, zS_uf1, zS_uf2, zS_ur1, zS_ur2, zS_ur3, zS_ul1, zS_ul2, zS_ul3, z_if0, z_if1, Int.reduceEq, Nat.reduceOr, Nat.or_zero, Nat.zero_or, Bool.false_eq_true, reduceCtorEq, nar0, nar1, nar_zb, eq_self, true_and, and_true, false_and, and_false, or_true, true_or, or_false, false_or, not_true_eq_false, not_false_eq_true, Classical.not_not, true_implies, false_implies, implies_true, iff_true, iff_self, ite_true, ite_false, Nat.reduceEqDiff, Nat.reduceLT, Nat.reduceSub, Nat.add_sub_cancel, Nat.reduceLeDiff, reduceIte, ne_eq, Nat.not_le, f2, Nat.not_le.mpr hi, c, PW_aa21, r1, l, oi_s]
    · rw [bsl_f (c := fun v => σ.2.1 33 v = -nI 1 ∧ 0 < t p v) (fun z => c z.1)]
      simp (disch := first | exact zl_i | exact zl_r | exact zl_n | omega | exact zlen0 | exact zlen1 | exact zlen2 | exact zlen3 | exact zlen4 | exact zl_l | (unfold scF; omega) | (unfold scR; omega) | (simp only [zS_uf1, zS_uf2, zS_ur1, zS_ur2, Nat.reduceEqDiff, reduceIte, and_false, false_and, and_true, true_and, ite_true, ite_false]; done) | exact zl_n) only [Int.reduceToNat, Nat.reduceAdd, Nat.reduceMul, List.length_nil, List.length_cons, Nat.reduceLeDiff, Nat.zero_le, Option.toList_some, Option.toList_none, List.cons_append, List.nil_append, PW_nil, PW_goto, zl_i, zl_r, zl_n, PW_km1, PW_istore_2, PW_k0, PW_istore_3, PW_istore_4, PW_iload_4, PW_aload_0, PW_g129, PW_ic_ge, PW_g133, PW_iar21, PW_ia33, PW_ic_ne, PW_g131, PW_iload_1, PW_aa21, PW_iload_3, PW_ic_le, PW_iinc_4_p1, PW_iload_2, PW_ret_i zret_32, zb_32_2, zb_32_3, PK_app, n_l0, n_l1, n_l2, n_l3, n_l4, n_l5, n_l8, n_l9, n_l10, n_l15, n_l20, n_l31, n_l40, n_l48, n_l57, n_l59, n_l60, n_l70, n_l99, n_l100, n_l255, n_l601, n_l602, n_l1024, n_l1500, n_l2100, n_l2101, n_l65535, n_l100000, n_l1000000, n_l100000000, i_lt, nI_clamp, nI_leI, nI_eq, nI_1, nI_add, pk_mul, pk_sub, n_in, n_negle, n_legne, n_eqneg, n_negeq, n_nn, n_bit, n_shl1, n_or, zb_e0, zb_e1, zb_r, n_em, zb_T, zb_F, zS_uf1, zS_uf2, zS_ur1, zS_ur2, zS_ur3, zS_ul1, zS_ul2, zS_ul3, z_if0, z_if1, Int.reduceEq, Nat.reduceOr, Nat.or_zero, Nat.zero_or, Bool.false_eq_true, reduceCtorEq, nar0, nar1, nar_zb, eq_self, true_and, and_true, false_and, and_false, or_true, true_or, or_false, false_or, not_true_eq_false, not_false_eq_true, Classical.not_not, true_implies, false_implies, implies_true, iff_true, iff_self, ite_true, ite_false, Nat.reduceEqDiff, Nat.reduceLT, Nat.reduceSub, Nat.add_sub_cancel, Nat.reduceLeDiff, reduceIte, ne_eq, Nat.not_le, f2, Nat.not_le.mpr hi, c]
  · rw [zb_32_1]
    simp (disch := first | exact zl_i | exact zl_r | exact zl_n | omega | exact zlen0 | exact zlen1 | exact zlen2 | exact zlen3 | exact zlen4 | exact zl_l | (unfold scF; omega) | (unfold scR; omega) | (simp only [zS_uf1, zS_uf2, zS_ur1, zS_ur2, Nat.reduceEqDiff, reduceIte, and_false, false_and, and_true, true_and, ite_true, ite_false]; done) | exact zl_n) only [Int.reduceToNat, Nat.reduceAdd, Nat.reduceMul, List.length_nil, List.length_cons, Nat.reduceLeDiff, Nat.zero_le, Option.toList_some, Option.toList_none, List.cons_append, List.nil_append, PW_nil, PW_goto, zl_i, zl_r, zl_n, PW_km1, PW_istore_2, PW_k0, PW_istore_3, PW_istore_4, PW_iload_4, PW_aload_0, PW_g129, PW_ic_ge, PW_g133, PW_iar21, PW_ia33, PW_ic_ne, PW_g131, PW_iload_1, PW_aa21, PW_iload_3, PW_ic_le, PW_iinc_4_p1, PW_iload_2, PW_ret_i zret_32, zb_32_2, zb_32_3, PK_app, n_l0, n_l1, n_l2, n_l3, n_l4, n_l5, n_l8, n_l9, n_l10, n_l15, n_l20, n_l31, n_l40, n_l48, n_l57, n_l59, n_l60, n_l70, n_l99, n_l100, n_l255, n_l601, n_l602, n_l1024, n_l1500, n_l2100, n_l2101, n_l65535, n_l100000, n_l1000000, n_l100000000, i_lt, nI_clamp, nI_leI, nI_eq, nI_1, nI_add, pk_mul, pk_sub, n_in, n_negle, n_legne, n_eqneg, n_negeq, n_nn, n_bit, n_shl1, n_or, zb_e0, zb_e1, zb_r, n_em, zb_T, zb_F, zS_uf1, zS_uf2, zS_ur1, zS_ur2, zS_ur3, zS_ul1, zS_ul2, zS_ul3, z_if0, z_if1, Int.reduceEq, Nat.reduceOr, Nat.or_zero, Nat.zero_or, Bool.false_eq_true, reduceCtorEq, nar0, nar1, nar_zb, eq_self, true_and, and_true, false_and, and_false, or_true, true_or, or_false, false_or, not_true_eq_false, not_false_eq_true, Classical.not_not, true_implies, false_implies, implies_true, iff_true, iff_self, ite_true, ite_false, Nat.reduceEqDiff, Nat.reduceLT, Nat.reduceSub, Nat.add_sub_cancel, Nat.reduceLeDiff, reduceIte, ne_eq, Nat.not_le, f2, Nat.le_refl]
theorem calm2_w {np nv : Nat} {t : Nat → Nat → Nat} {rk : Nat → Nat} (hnp : np ≤ 10) (hnv : nv ≤ 10) (hF : clF σ np nv t rk) (h32 : ∀ p, p < np → σ.2.1 32 p = -nI 1) (h33 : ∀ v, v < nv → σ.2.1 33 v = -nI 1)
    (hQ : ∀ L S, Fr σ S → cm_calm np nv t rk L → (∀ p, p < np → S.2.1 32 p = vo (-nI 1) (L p)) → Q none S) : PC sc 30 [.ref 2] σ Q := by
  rw [PC_30, zb_30_0]
  simp (disch := first | exact zl_i | exact zl_r | exact zl_n | omega | exact zlen0 | exact zlen1 | exact zlen2 | exact zlen3 | exact zlen4 | exact zl_l | (unfold scF; omega) | (unfold scR; omega) | (simp only [zS_uf1, zS_uf2, zS_ur1, zS_ur2, Nat.reduceEqDiff, reduceIte, and_false, false_and, and_true, true_and, ite_true, ite_false]; done) | exact zl_n) only [Int.reduceToNat, Nat.reduceAdd, Nat.reduceMul, List.length_nil, List.length_cons, Nat.reduceLeDiff, Nat.zero_le, Option.toList_some, Option.toList_none, List.cons_append, List.nil_append, PW_nil, PW_goto, zl_i, zl_r, zl_n, PW_k0, PW_istore_1, PW_istore_2, PW_iload_2, PW_aload_0, PW_g128, PW_ic_ge, PW_iload_1, PX_c31, PW_istore_3, PW_iload_3, PX_c32, PW_istore_4, PW_iload_4, PW_km1, PW_ic_eq, PX_c22, PW_k1, PW_ishl, PW_ior, PW_iinc_2_p1, PW_ret_v zret_30, zb_30_2, zb_30_3, PK_app, n_l0, n_l1, n_l2, n_l3, n_l4, n_l5, n_l8, n_l9, n_l10, n_l15, n_l20, n_l31, n_l40, n_l48, n_l57, n_l59, n_l60, n_l70, n_l99, n_l100, n_l255, n_l601, n_l602, n_l1024, n_l1500, n_l2100, n_l2101, n_l65535, n_l100000, n_l1000000, n_l100000000, i_lt, nI_clamp, nI_leI, nI_eq, nI_1, nI_add, pk_mul, pk_sub, n_in, n_negle, n_legne, n_eqneg, n_negeq, n_nn, n_bit, n_shl1, n_or, zb_e0, zb_e1, zb_r, n_em, zb_T, zb_F, zS_uf1, zS_uf2, zS_ur1, zS_ur2, zS_ur3, zS_ul1, zS_ul2, zS_ul3, z_if0, z_if1, Int.reduceEq, Nat.reduceOr, Nat.or_zero, Nat.zero_or, Bool.false_eq_true, reduceCtorEq, nar0, nar1, nar_zb, eq_self, true_and, and_true, false_and, and_false, or_true, true_or, or_false, false_or, not_true_eq_false, not_false_eq_true, Classical.not_not, true_implies, false_implies, implies_true, iff_true, iff_self, ite_true, ite_false, Nat.reduceEqDiff, Nat.reduceLT, Nat.reduceSub, Nat.add_sub_cancel, Nat.reduceLeDiff, reduceIte, ne_eq, Nat.not_le]
  have key : ∀ e j, j + e = np → ∀ s L f g, s < 1024 → clI np nv t rk s j L f g → ∀ a3 a4, PW sc 30 (zblk 30 1) 2 [some (.ref 2), some (.int (nI s)), some (.int (nI j)), a3, a4] [] (zur (zur σ 32 f) 33 g) Q := by
    intro e
    induction e with
    | zero =>
      intro j hj s L f g hs I a3 a4
      rw [show j = np by omega] at I ⊢
      rw [zb_30_1]
      simp (disch := first | exact zl_i | exact zl_r | exact zl_n | omega | exact zlen0 | exact zlen1 | exact zlen2 | exact zlen3 | exact zlen4 | exact zl_l | (unfold scF; omega) | (unfold scR; omega) | (simp only [zS_uf1, zS_uf2, zS_ur1, zS_ur2, Nat.reduceEqDiff, reduceIte, and_false, false_and, and_true, true_and, ite_true, ite_false]; done) | exact zl_n) only [Int.reduceToNat, Nat.reduceAdd, Nat.reduceMul, List.length_nil, List.length_cons, Nat.reduceLeDiff, Nat.zero_le, Option.toList_some, Option.toList_none, List.cons_append, List.nil_append, PW_nil, PW_goto, zl_i, zl_r, zl_n, PW_k0, PW_istore_1, PW_istore_2, PW_iload_2, PW_aload_0, PW_g128, PW_ic_ge, PW_iload_1, PX_c31, PW_istore_3, PW_iload_3, PX_c32, PW_istore_4, PW_iload_4, PW_km1, PW_ic_eq, PX_c22, PW_k1, PW_ishl, PW_ior, PW_iinc_2_p1, PW_ret_v zret_30, zb_30_2, zb_30_3, PK_app, n_l0, n_l1, n_l2, n_l3, n_l4, n_l5, n_l8, n_l9, n_l10, n_l15, n_l20, n_l31, n_l40, n_l48, n_l57, n_l59, n_l60, n_l70, n_l99, n_l100, n_l255, n_l601, n_l602, n_l1024, n_l1500, n_l2100, n_l2101, n_l65535, n_l100000, n_l1000000, n_l100000000, i_lt, nI_clamp, nI_leI, nI_eq, nI_1, nI_add, pk_mul, pk_sub, n_in, n_negle, n_legne, n_eqneg, n_negeq, n_nn, n_bit, n_shl1, n_or, zb_e0, zb_e1, zb_r, n_em, zb_T, zb_F, zS_uf1, zS_uf2, zS_ur1, zS_ur2, zS_ur3, zS_ul1, zS_ul2, zS_ul3, z_if0, z_if1, Int.reduceEq, Nat.reduceOr, Nat.or_zero, Nat.zero_or, Bool.false_eq_true, reduceCtorEq, nar0, nar1, nar_zb, eq_self, true_and, and_true, false_and, and_false, or_true, true_or, or_false, false_or, not_true_eq_false, not_false_eq_true, Classical.not_not, true_implies, false_implies, implies_true, iff_true, iff_self, ite_true, ite_false, Nat.reduceEqDiff, Nat.reduceLT, Nat.reduceSub, Nat.add_sub_cancel, Nat.reduceLeDiff, reduceIte, ne_eq, Nat.not_le, hF.1, Nat.le_refl]
      exact hQ L _ ((Fr.refl.ur (by unfold scR; omega)).ur (by unfold scR; omega)) (clI_end I) I.2.2.2.2.2.2.1
    | succ e ih =>
      intro j hj s L f g hs I a3 a4
      have hjn : j < np := by omega
      obtain ⟨p, hb⟩ := clI_out I hjn
      have hp := (clI_s hnp I hb).1
      have hF' : clF (zur (zur σ 32 f) 33 g) np nv t rk := ⟨hF.1, hF.2.1, hF.2.2.1, fun p hp v hv => by
        have a := hF.2.2.2 p hp v hv
        rw [zS_ur2, if_neg (by omega), zS_ur2, if_neg (by omega)]
        exact a⟩
      have sg := fun Q => sp_greatest (sc := sc) (Q := Q) hnp hF' hs hb
      have sd := fun Q => sp_dearest (sc := sc) (Q := Q) hnp hnv hF' hp
      have hs2 : s ||| 2 ^ p < 1024 := Nat.or_lt_two_pow (n := 10) hs (Nat.pow_lt_pow_right (by omega) (by omega))
      have eg : (zur (zur σ 32 f) 33 g).2.1 33 = g := rfl
      rw [eg] at sd
      rw [zb_30_1]
      cases ev : bsl (fun v => g v = -nI 1 ∧ 0 < t p v) (t p) nv with
      | none =>
        rw [ev] at sd
        simp (disch := first | exact zl_i | exact zl_r | exact zl_n | omega | exact zlen0 | exact zlen1 | exact zlen2 | exact zlen3 | exact zlen4 | exact zl_l | (unfold scF; omega) | (unfold scR; omega) | (simp only [zS_uf1, zS_uf2, zS_ur1, zS_ur2, Nat.reduceEqDiff, reduceIte, and_false, false_and, and_true, true_and, ite_true, ite_false]; done) | exact zl_n) only [Int.reduceToNat, Nat.reduceAdd, Nat.reduceMul, List.length_nil, List.length_cons, Nat.reduceLeDiff, Nat.zero_le, Option.toList_some, Option.toList_none, List.cons_append, List.nil_append, PW_nil, PW_goto, zl_i, zl_r, zl_n, PW_k0, PW_istore_1, PW_istore_2, PW_iload_2, PW_aload_0, PW_g128, PW_ic_ge, PW_iload_1, PX_c31, PW_istore_3, PW_iload_3, PX_c32, PW_istore_4, PW_iload_4, PW_km1, PW_ic_eq, PX_c22, PW_k1, PW_ishl, PW_ior, PW_iinc_2_p1, PW_ret_v zret_30, zb_30_2, zb_30_3, PK_app, n_l0, n_l1, n_l2, n_l3, n_l4, n_l5, n_l8, n_l9, n_l10, n_l15, n_l20, n_l31, n_l40, n_l48, n_l57, n_l59, n_l60, n_l70, n_l99, n_l100, n_l255, n_l601, n_l602, n_l1024, n_l1500, n_l2100, n_l2101, n_l65535, n_l100000, n_l1000000, n_l100000000, i_lt, nI_clamp, nI_leI, nI_eq, nI_1, nI_add, pk_mul, pk_sub, n_in, n_negle, n_legne, n_eqneg, n_negeq, n_nn, n_bit, n_shl1, n_or, zb_e0, zb_e1, zb_r, n_em, zb_T, zb_F, zS_uf1, zS_uf2, zS_ur1, zS_ur2, zS_ur3, zS_ul1, zS_ul2, zS_ul3, z_if0, z_if1, Int.reduceEq, Nat.reduceOr, Nat.or_zero, Nat.zero_or, Bool.false_eq_true, reduceCtorEq, nar0, nar1, nar_zb, eq_self, true_and, and_true, false_and, and_false, or_true, true_or, or_false, false_or, not_true_eq_false, not_false_eq_true, Classical.not_not, true_implies, false_implies, implies_true, iff_true, iff_self, ite_true, ite_false, Nat.reduceEqDiff, Nat.reduceLT, Nat.reduceSub, Nat.add_sub_cancel, Nat.reduceLeDiff, reduceIte, ne_eq, Nat.not_le, hF.1, Nat.not_le.mpr hjn, sg, sd, PK_app, oi_n]
        exact ih (j + 1) (by omega) _ L f g hs2 (clI_no hnp hnv I hb ev) _ _
      | some v =>
        rw [ev] at sd
        obtain ⟨v1, -⟩ := bsl_s ev
        simp (disch := first | exact zl_i | exact zl_r | exact zl_n | omega | exact zlen0 | exact zlen1 | exact zlen2 | exact zlen3 | exact zlen4 | exact zl_l | (unfold scF; omega) | (unfold scR; omega) | (simp only [zS_uf1, zS_uf2, zS_ur1, zS_ur2, Nat.reduceEqDiff, reduceIte, and_false, false_and, and_true, true_and, ite_true, ite_false]; done) | exact zl_n) only [Int.reduceToNat, Nat.reduceAdd, Nat.reduceMul, List.length_nil, List.length_cons, Nat.reduceLeDiff, Nat.zero_le, Option.toList_some, Option.toList_none, List.cons_append, List.nil_append, PW_nil, PW_goto, zl_i, zl_r, zl_n, PW_k0, PW_istore_1, PW_istore_2, PW_iload_2, PW_aload_0, PW_g128, PW_ic_ge, PW_iload_1, PX_c31, PW_istore_3, PW_iload_3, PX_c32, PW_istore_4, PW_iload_4, PW_km1, PW_ic_eq, PX_c22, PW_k1, PW_ishl, PW_ior, PW_iinc_2_p1, PW_ret_v zret_30, zb_30_2, zb_30_3, PK_app, n_l0, n_l1, n_l2, n_l3, n_l4, n_l5, n_l8, n_l9, n_l10, n_l15, n_l20, n_l31, n_l40, n_l48, n_l57, n_l59, n_l60, n_l70, n_l99, n_l100, n_l255, n_l601, n_l602, n_l1024, n_l1500, n_l2100, n_l2101, n_l65535, n_l100000, n_l1000000, n_l100000000, i_lt, nI_clamp, nI_leI, nI_eq, nI_1, nI_add, pk_mul, pk_sub, n_in, n_negle, n_legne, n_eqneg, n_negeq, n_nn, n_bit, n_shl1, n_or, zb_e0, zb_e1, zb_r, n_em, zb_T, zb_F, zS_uf1, zS_uf2, zS_ur1, zS_ur2, zS_ur3, zS_ul1, zS_ul2, zS_ul3, z_if0, z_if1, Int.reduceEq, Nat.reduceOr, Nat.or_zero, Nat.zero_or, Bool.false_eq_true, reduceCtorEq, nar0, nar1, nar_zb, eq_self, true_and, and_true, false_and, and_false, or_true, true_or, or_false, false_or, not_true_eq_false, not_false_eq_true, Classical.not_not, true_implies, false_implies, implies_true, iff_true, iff_self, ite_true, ite_false, Nat.reduceEqDiff, Nat.reduceLT, Nat.reduceSub, Nat.add_sub_cancel, Nat.reduceLeDiff, reduceIte, ne_eq, Nat.not_le, hF.1, Nat.not_le.mpr hjn, sg, sd, PK_app, oi_s, PC_22, zb_22_0, Int.reduceToNat, Nat.reduceAdd, Nat.reduceMul, List.length_nil, List.length_cons, Nat.reduceLeDiff, Nat.zero_le, Option.toList_some, Option.toList_none, List.cons_append, List.nil_append, PW_nil, PW_goto, zl_i, zl_r, zl_n, PW_aload_0, PW_g132, PW_iload_1, PW_iload_2, PW_is32, PW_is33, PW_g133, PW_ret_v zret_22, zur_same, zur_sw]
        exact ih (j + 1) (by omega) _ _ _ _ hs2 (clI_yes hnp hnv I hb ev) _ _
  have e := key np 0 (Nat.zero_add np) 0 (fun _ => 10) (σ.2.1 32) (σ.2.1 33) (by omega) (clI_0 hnp h32 h33 hnv) none none
  have ez : zur (zur σ 32 (σ.2.1 32)) 33 (σ.2.1 33) = σ := by
    rw [zur_id]
    exact zur_id
  rw [ez] at e
  exact e
end CM
