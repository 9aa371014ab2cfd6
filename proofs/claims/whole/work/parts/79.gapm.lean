/-! the gaps: the reference -/
def gIG (H : Nat → Prop) (y : Nat) : Prop := ¬ H y ∧ (∃ a, a < y ∧ H a) ∧ ∃ b, y < b ∧ H b
noncomputable def mgS (σ : zS) (x1 x2 : Int32) (IG : Nat → Prop) (o : Int) (Y : Nat) : zS :=
  zuf (zuf (zuf (zuf σ 12 41 x1) 12 42 x2) 12 43 (om (σ.1 12 43) (fun l => nI l) (mF IG o Y))) 12 44 (om (σ.1 12 44) (fun l => nI l) (mT IG o Y))
section GM1
variable {V F T : Nat → Int32} {v : Int32}
theorem fy_ex : ∀ {n : Nat}, hr F T n → ∃ a : Nat, fy V F v n = nI a ∧ ((a = 2101 ∧ ∀ h, h < n → ¬ V h = v) ∨ (1500 ≤ a ∧ a ≤ 2100 ∧ ∃ h, h < n ∧ V h = v ∧ F h = nI a)) ∧ ∀ h, h < n → V h = v → nI a ≤ F h
  | 0, _ => ⟨2101, rfl, Or.inl ⟨rfl, fun h q => absurd q (Nat.not_lt_zero h)⟩, fun h q => absurd q (Nat.not_lt_zero h)⟩
  | n + 1, hh => by
    obtain ⟨a, e, c, d⟩ := fy_ex (n := n) (hr_s hh)
    obtain ⟨f, t, a1, a2, a3, a4, a5⟩ := hh n (by omega)
    have ha : a ≤ 2101 := by rcases c with ⟨r, _⟩ | ⟨_, r, _⟩ <;> omega
    by_cases hv : V n = v
    · by_cases q : a ≤ f
      · have q' : fy V F v n ≤ F n := by rw [e, a4, nI_leI (by omega) (by omega)]; exact q
        refine ⟨a, (fy_f2 q').trans e, ?_, ?_⟩
        · rcases c with ⟨r, _⟩ | ⟨r1, r2, h, r3, r4⟩
          · omega
          · exact Or.inr ⟨r1, r2, h, by omega, r4⟩
        · intro h hk hv'
          by_cases z : h = n
          · subst z; rw [← e]; exact q'
          · exact d h (by omega) hv'
      · have q' : ¬ fy V F v n ≤ F n := by rw [e, a4, nI_leI (by omega) (by omega)]; exact q
        refine ⟨f, (fy_t hv q').trans a4, Or.inr ⟨a1, by omega, n, by omega, hv, a4⟩, ?_⟩
        intro h hk hv'
        by_cases z : h = n
        · subst z; rw [a4]; exact Int32.le_refl _
        · refine Int32.le_trans ?_ (d h (by omega) hv')
          rw [nI_leI (by omega) (by omega)]
          omega
    · refine ⟨a, (fy_f hv).trans e, ?_, ?_⟩
      · rcases c with ⟨r, r2⟩ | ⟨r1, r2, h, r3, r4⟩
        · refine Or.inl ⟨r, fun h hk => ?_⟩
          by_cases z : h = n
          · subst z; exact hv
          · exact r2 h (by omega)
        · exact Or.inr ⟨r1, r2, h, by omega, r4⟩
      · intro h hk hv'
        by_cases z : h = n
        · subst z; exact absurd hv' hv
        · exact d h (by omega) hv'
theorem ly_ex : ∀ {n : Nat}, hr F T n → ∃ b : Nat, ly V T v n = nI b ∧ ((b = 0 ∧ ∀ h, h < n → ¬ V h = v) ∨ (1500 ≤ b ∧ b ≤ 2100 ∧ ∃ h, h < n ∧ V h = v ∧ T h = nI b)) ∧ ∀ h, h < n → V h = v → T h ≤ nI b
  | 0, _ => ⟨0, rfl, Or.inl ⟨rfl, fun h q => absurd q (Nat.not_lt_zero h)⟩, fun h q => absurd q (Nat.not_lt_zero h)⟩
  | n + 1, hh => by
    obtain ⟨b, e, c, d⟩ := ly_ex (n := n) (hr_s hh)
    obtain ⟨f, t, a1, a2, a3, a4, a5⟩ := hh n (by omega)
    have hb : b ≤ 2100 := by rcases c with ⟨r, _⟩ | ⟨_, r, _⟩ <;> omega
    by_cases hv : V n = v
    · by_cases q : t ≤ b
      · have q' : T n ≤ ly V T v n := by rw [e, a5, nI_leI (by omega) (by omega)]; exact q
        refine ⟨b, (ly_f2 q').trans e, ?_, ?_⟩
        · rcases c with ⟨r, _⟩ | ⟨r1, r2, h, r3, r4⟩
          · omega
          · exact Or.inr ⟨r1, r2, h, by omega, r4⟩
        · intro h hk hv'
          by_cases z : h = n
          · subst z; rw [← e]; exact q'
          · exact d h (by omega) hv'
      · have q' : ¬ T n ≤ ly V T v n := by rw [e, a5, nI_leI (by omega) (by omega)]; exact q
        refine ⟨t, (ly_t hv q').trans a5, Or.inr ⟨by omega, a3, n, by omega, hv, a5⟩, ?_⟩
        intro h hk hv'
        by_cases z : h = n
        · subst z; rw [a5]; exact Int32.le_refl _
        · refine Int32.le_trans (d h (by omega) hv') ?_
          rw [nI_leI (by omega) (by omega)]
          omega
    · refine ⟨b, (ly_f hv).trans e, ?_, ?_⟩
      · rcases c with ⟨r, r2⟩ | ⟨r1, r2, h, r3, r4⟩
        · refine Or.inl ⟨r, fun h hk => ?_⟩
          by_cases z : h = n
          · subst z; exact hv
          · exact r2 h (by omega)
        · exact Or.inr ⟨r1, r2, h, by omega, r4⟩
      · intro h hk hv'
        by_cases z : h = n
        · subst z; exact absurd hv' hv
        · exact d h (by omega) hv'
theorem gIG_iff {n a b : Nat} (h : hr F T n)
    (c1 : (a = 2101 ∧ ∀ h, h < n → ¬ V h = v) ∨ (1500 ≤ a ∧ a ≤ 2100 ∧ ∃ h, h < n ∧ V h = v ∧ F h = nI a)) (d1 : ∀ h, h < n → V h = v → nI a ≤ F h)
    (c2 : (b = 0 ∧ ∀ h, h < n → ¬ V h = v) ∨ (1500 ≤ b ∧ b ≤ 2100 ∧ ∃ h, h < n ∧ V h = v ∧ T h = nI b)) (d2 : ∀ h, h < n → V h = v → T h ≤ nI b)
    (y : Nat) : gIG (gH V F T v n) y ↔ a < y ∧ y < b ∧ ¬ gH V F T v n y := by
  constructor
  · rintro ⟨q, ⟨x, x1, x2, k, hk, k1, k2, k3⟩, ⟨z, z1, z2, l, hl, l1, l2, l3⟩⟩
    obtain ⟨f, t, a1, a2, a3, a4, a5⟩ := h k hk
    obtain ⟨f', t', b1, b2, b3, b4, b5⟩ := h l hl
    have e1 := d1 k hk k1
    have e2 := d2 l hl l1
    have ha : a ≤ 2101 := by rcases c1 with ⟨r, _⟩ | ⟨_, r, _⟩ <;> omega
    have hb : b ≤ 2100 := by rcases c2 with ⟨r, _⟩ | ⟨_, r, _⟩ <;> omega
    rw [a4, nI_leI (by omega) (by omega)] at e1
    rw [b5, nI_leI (by omega) (by omega)] at e2
    rw [a4, nI_leI (by omega) (by omega)] at k2
    rw [b5, nI_leI (by omega) (by omega)] at l3
    exact ⟨by omega, by omega, q⟩
  · rintro ⟨q1, q2, q⟩
    rcases c2 with ⟨r, _⟩ | ⟨r1, r2, l, hl, l1, l2⟩
    · omega
    rcases c1 with ⟨s, _⟩ | ⟨s1, s2, k, hk, k1, k2⟩
    · omega
    obtain ⟨f, t, a1, a2, a3, a4, a5⟩ := h k hk
    obtain ⟨f', t', b1, b2, b3, b4, b5⟩ := h l hl
    have e1 : f = a := (nI_eq (by omega) (by omega)).mp (a4.symm.trans k2)
    have e2 : t' = b := (nI_eq (by omega) (by omega)).mp (b5.symm.trans l2)
    refine ⟨q, ⟨a, q1, s2, k, hk, k1, ?_, ?_⟩, ⟨b, q2, r2, l, hl, l1, ?_, ?_⟩⟩
    · rw [k2]; exact Int32.le_refl _
    · rw [a5, nI_leI (by omega) (by omega)]; omega
    · rw [b4, nI_leI (by omega) (by omega)]; omega
    · rw [l2]; exact Int32.le_refl _
end GM1
section GM2
variable {sc : zX} {σ : zS} {Q : Option Value → zS → Prop}
theorem sp_gapsOf {v : Int32} {n : Nat} {o : Int} (ho : -1 ≤ o ∧ o < 2 ^ 31) (hc : σ.1 12 36 = nI n) (hn : n ≤ 40) (h : hr (σ.2.1 122) (σ.2.1 123) n) {IG : Nat → Prop} (hIG : IG = gIG (gH (σ.2.1 120) (σ.2.1 122) (σ.2.1 123) v n)) :
    PC sc 208 [.ref 12, .int v, .int (iI o)] σ Q ↔ Q (some (.int (nI (gM IG 2101)))) (mgS σ (fy (σ.2.1 120) (σ.2.1 122) v n) (ly (σ.2.1 120) (σ.2.1 123) v n) IG o 2101) := by
  obtain ⟨a, ea, c1, d1⟩ := fy_ex (V := σ.2.1 120) (v := v) h
  obtain ⟨b, eb, c2, d2⟩ := ly_ex (V := σ.2.1 120) (v := v) h
  have hI := gIG_iff h c1 d1 c2 d2
  rw [← hIG] at hI
  have ha : 1500 ≤ a ∧ a ≤ 2101 := by rcases c1 with ⟨r, _⟩ | ⟨_, r, _⟩ <;> omega
  have hb : b ≤ 2100 := by rcases c2 with ⟨r, _⟩ | ⟨_, r, _⟩ <;> omega
  have lo := gM_0 (IG := IG) (o := o) (Y := a) (fun y hy q => by have := ((hI y).mp q).1; omega)
  have st : ∀ σ' : zS, σ'.1 12 36 = nI n → σ'.1 12 41 = nI a → σ'.1 12 42 = nI b → σ'.2.1 120 = σ.2.1 120 → σ'.2.1 122 = σ.2.1 122 → σ'.2.1 123 = σ.2.1 123 → ∀ (Y : Nat) (_ : Y ≤ 2100) (Q : Option Value → zS → Prop), PC sc 207 [.ref 12, .int v, .int (nI Y)] σ' Q ↔ Q (some (.int (zb (IG Y)))) σ' := by
    intro σ' e1 e2 e3 e4 e5 e6 Y hY Q
    rw [sp_isInGap e1 hn, e2, e3, e4, e5, e6, nI_leI (by omega) (by omega), nI_leI (by omega) (by omega)]
    have : (¬ Y ≤ a ∧ ¬ b ≤ Y ∧ ¬ ∃ h, h < n ∧ hd (σ.2.1 120) (σ.2.1 122) (σ.2.1 123) v (nI Y) h) ↔ IG Y := by
      rw [hI Y]
      unfold gH
      constructor
      · rintro ⟨z1, z2, z3⟩
        exact ⟨by omega, by omega, fun w => z3 w.2⟩
      · rintro ⟨z1, z2, z3⟩
        exact ⟨by omega, by omega, fun w => z3 ⟨hY, w⟩⟩
    rw [zb_congr this]
  rw [PC_208, zb_208_0]
  simp (disch := first | exact zl_i | exact zl_r | exact zl_n | omega | exact zlen0 | exact zlen1 | exact zlen2 | exact zlen3 | exact zlen4 | exact zl_l | (unfold scF; omega) | (unfold scR; omega) | (simp only [zS_uf1, zS_uf2, zS_ur1, zS_ur2, Nat.reduceEqDiff, reduceIte, and_false, false_and, and_true, true_and, ite_true, ite_false]; done) | exact zl_n) only [Int.reduceToNat, Nat.reduceAdd, Nat.reduceMul, List.length_nil, List.length_cons, Nat.reduceLeDiff, Nat.zero_le, Option.toList_some, Option.toList_none, List.cons_append, List.nil_append, PW_nil, PW_goto, zl_i, zl_r, zl_n, PW_aload_0, PW_iload_1, PX_c206, PW_k0, PW_istore_3, PW_g809, PW_istore_4, PW_iload_4, PW_g810, PW_ic_gt, PX_c207, PW_if_ne, PW_k1, PW_isub, PW_iinc_3_p1, PW_iload_3, PW_iload_2, PW_ic_ne, PW_if_eq, PW_g811, PW_p811, PW_p812, PW_iinc_4_p1, PW_ret_i zret_208, zb_208_2, zb_208_3, zb_208_4, zb_208_5, zb_208_6, zb_208_7, PK_app, n_l0, n_l1, n_l2, n_l3, n_l4, n_l5, n_l8, n_l9, n_l10, n_l15, n_l20, n_l31, n_l40, n_l48, n_l57, n_l59, n_l60, n_l70, n_l99, n_l100, n_l255, n_l601, n_l602, n_l1024, n_l1500, n_l2100, n_l2101, n_l65535, n_l100000, n_l1000000, n_l100000000, i_lt, nI_clamp, nI_leI, nI_eq, nI_1, nI_add, pk_mul, pk_sub, n_in, n_negle, n_legne, n_eqneg, n_negeq, n_nn, n_bit, n_shl1, n_or, zb_e0, zb_e1, zb_r, n_em, zb_T, zb_F, zS_uf1, zS_uf2, zS_ur1, zS_ur2, zS_ur3, zS_ul1, zS_ul2, zS_ul3, z_if0, z_if1, Int.reduceEq, Nat.reduceOr, Nat.or_zero, Nat.zero_or, Bool.false_eq_true, reduceCtorEq, nar0, nar1, nar_zb, eq_self, true_and, and_true, false_and, and_false, or_true, true_or, or_false, false_or, not_true_eq_false, not_false_eq_true, Classical.not_not, true_implies, false_implies, implies_true, iff_true, iff_self, ite_true, ite_false, Nat.reduceEqDiff, Nat.reduceLT, Nat.reduceSub, Nat.add_sub_cancel, Nat.reduceLeDiff, reduceIte, ne_eq, Nat.not_le, sp_findYears hc hn, ea, eb]
  have e0 : mgS σ (nI a) (nI b) IG o a = zuf (zuf σ 12 41 (nI a)) 12 42 (nI b) := by
    unfold mgS
    rw [lo.2.1, lo.2.2]
    refine zs_ext (fun c d => ?_) (fun _ => rfl) (fun _ => rfl)
    simp only [zS_uf1, om_n]
    by_cases q1 : c = 12 ∧ d = 44
    · obtain ⟨rfl, rfl⟩ := q1
      exact rfl
    · rw [if_neg q1]
      by_cases q2 : c = 12 ∧ d = 43
      · obtain ⟨rfl, rfl⟩ := q2
        exact rfl
      · rw [if_neg q2]
  rw [← e0]
  by_cases hab : a ≤ b
  · have hi : gM IG 2101 = gM IG (b + 1) ∧ mF IG o 2101 = mF IG o (b + 1) ∧ mT IG o 2101 = mT IG o (b + 1) := by
      have := gM_k (IG := IG) (o := o) (Y := b + 1) (d := 2100 - b) (fun y hy q => by have := ((hI y).mp q).2.1; omega)
      rw [show b + 1 + (2100 - b) = 2101 by omega] at this
      exact this
    have hfin : mgS σ (nI a) (nI b) IG o 2101 = mgS σ (nI a) (nI b) IG o (b + 1) := by
      unfold mgS
      rw [hi.2.1, hi.2.2]
    rw [hfin, hi.1]
    refine Iff.trans ?_ ((lp_all (b + 1 - a) (fun i => PW sc 208 (zblk 208 1) 2 [some (.ref 12), some (.int (v)), some (.int (iI o)), some (.int (nI (gM IG (a + i)))), some (.int (nI (a + i)))] [] (mgS σ (nI a) (nI b) IG o (a + i)) Q) (fun i hi => ?_)).trans ?_)
    · simp only [Nat.add_zero]
      rw [lo.1]
    · conv => lhs; rw [zb_208_1]
      have hg := gM_le (IG := IG) (a + i)
      have sY := st (mgS σ (nI a) (nI b) IG o (a + i)) hc rfl rfl rfl rfl rfl (a + i) (by omega)
      have sZ := st (mgS σ (nI a) (nI b) IG o (a + i)) hc rfl rfl rfl rfl rfl (a + i - 1) (by omega)
      have hm : nI (a + i) - nI 1 = nI (a + i - 1) := nI_sb (by omega)
      have hle : a + i ≤ b := by omega
      have hYa : a + i < 2 ^ 31 - 2 := by omega
      rw [show a + (i + 1) = a + i + 1 by omega]
      generalize a + i = Y at *
      have k : ∀ g : Nat, g ≤ Y + 1 → (nI g - nI 1 = iI o) = ((g : Int) = o + 1) := fun g hg => by
        rw [iI_n, iI_n, iI_sub, iI_eq (by omega) (by omega)]
        apply propext
        omega
      have k' : ∀ g : Nat, g + 1 ≤ Y + 1 → (nI g = iI o) = ((g : Int) = o) := fun g hg => by
        rw [iI_n, iI_eq (by omega) (by omega)]
      by_cases c : IG Y
      · by_cases c' : IG (Y - 1)
        · have hs : ¬ gst IG Y := fun z => z.2 c'
          have gm := gM_f hs
          by_cases q : (gM IG Y : Int) = o + 1
          · have e1 : mF IG o (Y + 1) = mF IG o Y := mF_f (fun z => hs z.1)
            have e2 : mT IG o (Y + 1) = some Y := mT_t c (by rw [gm]; exact q)
            rw [gm]
            unfold mgS at sY sZ ⊢
            rw [e1, e2]
            simp only [om_s]
            simp (disch := first | exact zl_i | exact zl_r | exact zl_n | omega | exact zlen0 | exact zlen1 | exact zlen2 | exact zlen3 | exact zlen4 | exact zl_l | (unfold scF; omega) | (unfold scR; omega) | (simp only [zS_uf1, zS_uf2, zS_ur1, zS_ur2, Nat.reduceEqDiff, reduceIte, and_false, false_and, and_true, true_and, ite_true, ite_false]; done) | exact zl_n) only [Int.reduceToNat, Nat.reduceAdd, Nat.reduceMul, List.length_nil, List.length_cons, Nat.reduceLeDiff, Nat.zero_le, Option.toList_some, Option.toList_none, List.cons_append, List.nil_append, PW_nil, PW_goto, zl_i, zl_r, zl_n, PW_aload_0, PW_iload_1, PX_c206, PW_k0, PW_istore_3, PW_g809, PW_istore_4, PW_iload_4, PW_g810, PW_ic_gt, PX_c207, PW_if_ne, PW_k1, PW_isub, PW_iinc_3_p1, PW_iload_3, PW_iload_2, PW_ic_ne, PW_if_eq, PW_g811, PW_p811, PW_p812, PW_iinc_4_p1, PW_ret_i zret_208, zb_208_2, zb_208_3, zb_208_4, zb_208_5, zb_208_6, zb_208_7, PK_app, n_l0, n_l1, n_l2, n_l3, n_l4, n_l5, n_l8, n_l9, n_l10, n_l15, n_l20, n_l31, n_l40, n_l48, n_l57, n_l59, n_l60, n_l70, n_l99, n_l100, n_l255, n_l601, n_l602, n_l1024, n_l1500, n_l2100, n_l2101, n_l65535, n_l100000, n_l1000000, n_l100000000, i_lt, nI_clamp, nI_leI, nI_eq, nI_1, nI_add, pk_mul, pk_sub, n_in, n_negle, n_legne, n_eqneg, n_negeq, n_nn, n_bit, n_shl1, n_or, zb_e0, zb_e1, zb_r, n_em, zb_T, zb_F, zS_uf1, zS_uf2, zS_ur1, zS_ur2, zS_ur3, zS_ul1, zS_ul2, zS_ul3, z_if0, z_if1, Int.reduceEq, Nat.reduceOr, Nat.or_zero, Nat.zero_or, Bool.false_eq_true, reduceCtorEq, nar0, nar1, nar_zb, eq_self, true_and, and_true, false_and, and_false, or_true, true_or, or_false, false_or, not_true_eq_false, not_false_eq_true, Classical.not_not, true_implies, false_implies, implies_true, iff_true, iff_self, ite_true, ite_false, Nat.reduceEqDiff, Nat.reduceLT, Nat.reduceSub, Nat.add_sub_cancel, Nat.reduceLeDiff, reduceIte, ne_eq, Nat.not_le, hle, sY, sZ, c, c', hm, k _ (show gM IG Y ≤ Y + 1 by omega), eq_true q, zuf_same, zuf_sw, zuf_sw2]
          · have e1 : mF IG o (Y + 1) = mF IG o Y := mF_f (fun z => hs z.1)
            have e2 : mT IG o (Y + 1) = mT IG o Y := mT_f (fun z => q (by have := z.2; rw [gm] at this; exact this))
            rw [gm]
            unfold mgS at sY sZ ⊢
            rw [e1, e2]
            simp (disch := first | exact zl_i | exact zl_r | exact zl_n | omega | exact zlen0 | exact zlen1 | exact zlen2 | exact zlen3 | exact zlen4 | exact zl_l | (unfold scF; omega) | (unfold scR; omega) | (simp only [zS_uf1, zS_uf2, zS_ur1, zS_ur2, Nat.reduceEqDiff, reduceIte, and_false, false_and, and_true, true_and, ite_true, ite_false]; done) | exact zl_n) only [Int.reduceToNat, Nat.reduceAdd, Nat.reduceMul, List.length_nil, List.length_cons, Nat.reduceLeDiff, Nat.zero_le, Option.toList_some, Option.toList_none, List.cons_append, List.nil_append, PW_nil, PW_goto, zl_i, zl_r, zl_n, PW_aload_0, PW_iload_1, PX_c206, PW_k0, PW_istore_3, PW_g809, PW_istore_4, PW_iload_4, PW_g810, PW_ic_gt, PX_c207, PW_if_ne, PW_k1, PW_isub, PW_iinc_3_p1, PW_iload_3, PW_iload_2, PW_ic_ne, PW_if_eq, PW_g811, PW_p811, PW_p812, PW_iinc_4_p1, PW_ret_i zret_208, zb_208_2, zb_208_3, zb_208_4, zb_208_5, zb_208_6, zb_208_7, PK_app, n_l0, n_l1, n_l2, n_l3, n_l4, n_l5, n_l8, n_l9, n_l10, n_l15, n_l20, n_l31, n_l40, n_l48, n_l57, n_l59, n_l60, n_l70, n_l99, n_l100, n_l255, n_l601, n_l602, n_l1024, n_l1500, n_l2100, n_l2101, n_l65535, n_l100000, n_l1000000, n_l100000000, i_lt, nI_clamp, nI_leI, nI_eq, nI_1, nI_add, pk_mul, pk_sub, n_in, n_negle, n_legne, n_eqneg, n_negeq, n_nn, n_bit, n_shl1, n_or, zb_e0, zb_e1, zb_r, n_em, zb_T, zb_F, zS_uf1, zS_uf2, zS_ur1, zS_ur2, zS_ur3, zS_ul1, zS_ul2, zS_ul3, z_if0, z_if1, Int.reduceEq, Nat.reduceOr, Nat.or_zero, Nat.zero_or, Bool.false_eq_true, reduceCtorEq, nar0, nar1, nar_zb, eq_self, true_and, and_true, false_and, and_false, or_true, true_or, or_false, false_or, not_true_eq_false, not_false_eq_true, Classical.not_not, true_implies, false_implies, implies_true, iff_true, iff_self, ite_true, ite_false, Nat.reduceEqDiff, Nat.reduceLT, Nat.reduceSub, Nat.add_sub_cancel, Nat.reduceLeDiff, reduceIte, ne_eq, Nat.not_le, hle, sY, sZ, c, c', hm, k _ (show gM IG Y ≤ Y + 1 by omega), q, zuf_same, zuf_sw, zuf_sw2]
        · have hs : gst IG Y := ⟨c, c'⟩
          have gm := gM_t hs
          by_cases q : (gM IG Y : Int) = o
          · have e1 : mF IG o (Y + 1) = some Y := mF_t hs (by rw [gm]; omega)
            have e2 : mT IG o (Y + 1) = some Y := mT_t c (by rw [gm]; omega)
            rw [gm]
            unfold mgS at sY sZ ⊢
            rw [e1, e2]
            simp only [om_s]
            simp (disch := first | exact zl_i | exact zl_r | exact zl_n | omega | exact zlen0 | exact zlen1 | exact zlen2 | exact zlen3 | exact zlen4 | exact zl_l | (unfold scF; omega) | (unfold scR; omega) | (simp only [zS_uf1, zS_uf2, zS_ur1, zS_ur2, Nat.reduceEqDiff, reduceIte, and_false, false_and, and_true, true_and, ite_true, ite_false]; done) | exact zl_n) only [Int.reduceToNat, Nat.reduceAdd, Nat.reduceMul, List.length_nil, List.length_cons, Nat.reduceLeDiff, Nat.zero_le, Option.toList_some, Option.toList_none, List.cons_append, List.nil_append, PW_nil, PW_goto, zl_i, zl_r, zl_n, PW_aload_0, PW_iload_1, PX_c206, PW_k0, PW_istore_3, PW_g809, PW_istore_4, PW_iload_4, PW_g810, PW_ic_gt, PX_c207, PW_if_ne, PW_k1, PW_isub, PW_iinc_3_p1, PW_iload_3, PW_iload_2, PW_ic_ne, PW_if_eq, PW_g811, PW_p811, PW_p812, PW_iinc_4_p1, PW_ret_i zret_208, zb_208_2, zb_208_3, zb_208_4, zb_208_5, zb_208_6, zb_208_7, PK_app, n_l0, n_l1, n_l2, n_l3, n_l4, n_l5, n_l8, n_l9, n_l10, n_l15, n_l20, n_l31, n_l40, n_l48, n_l57, n_l59, n_l60, n_l70, n_l99, n_l100, n_l255, n_l601, n_l602, n_l1024, n_l1500, n_l2100, n_l2101, n_l65535, n_l100000, n_l1000000, n_l100000000, i_lt, nI_clamp, nI_leI, nI_eq, nI_1, nI_add, pk_mul, pk_sub, n_in, n_negle, n_legne, n_eqneg, n_negeq, n_nn, n_bit, n_shl1, n_or, zb_e0, zb_e1, zb_r, n_em, zb_T, zb_F, zS_uf1, zS_uf2, zS_ur1, zS_ur2, zS_ur3, zS_ul1, zS_ul2, zS_ul3, z_if0, z_if1, Int.reduceEq, Nat.reduceOr, Nat.or_zero, Nat.zero_or, Bool.false_eq_true, reduceCtorEq, nar0, nar1, nar_zb, eq_self, true_and, and_true, false_and, and_false, or_true, true_or, or_false, false_or, not_true_eq_false, not_false_eq_true, Classical.not_not, true_implies, false_implies, implies_true, iff_true, iff_self, ite_true, ite_false, Nat.reduceEqDiff, Nat.reduceLT, Nat.reduceSub, Nat.add_sub_cancel, Nat.reduceLeDiff, reduceIte, ne_eq, Nat.not_le, hle, sY, sZ, c, c', hm, k' _ (show gM IG Y + 1 ≤ Y + 1 by omega), eq_true q, zuf_same, zuf_sw, zuf_sw2]
          · have e1 : mF IG o (Y + 1) = mF IG o Y := mF_f (fun z => q (by have := z.2; rw [gm] at this; omega))
            have e2 : mT IG o (Y + 1) = mT IG o Y := mT_f (fun z => q (by have := z.2; rw [gm] at this; omega))
            rw [gm]
            unfold mgS at sY sZ ⊢
            rw [e1, e2]
            simp (disch := first | exact zl_i | exact zl_r | exact zl_n | omega | exact zlen0 | exact zlen1 | exact zlen2 | exact zlen3 | exact zlen4 | exact zl_l | (unfold scF; omega) | (unfold scR; omega) | (simp only [zS_uf1, zS_uf2, zS_ur1, zS_ur2, Nat.reduceEqDiff, reduceIte, and_false, false_and, and_true, true_and, ite_true, ite_false]; done) | exact zl_n) only [Int.reduceToNat, Nat.reduceAdd, Nat.reduceMul, List.length_nil, List.length_cons, Nat.reduceLeDiff, Nat.zero_le, Option.toList_some, Option.toList_none, List.cons_append, List.nil_append, PW_nil, PW_goto, zl_i, zl_r, zl_n, PW_aload_0, PW_iload_1, PX_c206, PW_k0, PW_istore_3, PW_g809, PW_istore_4, PW_iload_4, PW_g810, PW_ic_gt, PX_c207, PW_if_ne, PW_k1, PW_isub, PW_iinc_3_p1, PW_iload_3, PW_iload_2, PW_ic_ne, PW_if_eq, PW_g811, PW_p811, PW_p812, PW_iinc_4_p1, PW_ret_i zret_208, zb_208_2, zb_208_3, zb_208_4, zb_208_5, zb_208_6, zb_208_7, PK_app, n_l0, n_l1, n_l2, n_l3, n_l4, n_l5, n_l8, n_l9, n_l10, n_l15, n_l20, n_l31, n_l40, n_l48, n_l57, n_l59, n_l60, n_l70, n_l99, n_l100, n_l255, n_l601, n_l602, n_l1024, n_l1500, n_l2100, n_l2101, n_l65535, n_l100000, n_l1000000, n_l100000000, i_lt, nI_clamp, nI_leI, nI_eq, nI_1, nI_add, pk_mul, pk_sub, n_in, n_negle, n_legne, n_eqneg, n_negeq, n_nn, n_bit, n_shl1, n_or, zb_e0, zb_e1, zb_r, n_em, zb_T, zb_F, zS_uf1, zS_uf2, zS_ur1, zS_ur2, zS_ur3, zS_ul1, zS_ul2, zS_ul3, z_if0, z_if1, Int.reduceEq, Nat.reduceOr, Nat.or_zero, Nat.zero_or, Bool.false_eq_true, reduceCtorEq, nar0, nar1, nar_zb, eq_self, true_and, and_true, false_and, and_false, or_true, true_or, or_false, false_or, not_true_eq_false, not_false_eq_true, Classical.not_not, true_implies, false_implies, implies_true, iff_true, iff_self, ite_true, ite_false, Nat.reduceEqDiff, Nat.reduceLT, Nat.reduceSub, Nat.add_sub_cancel, Nat.reduceLeDiff, reduceIte, ne_eq, Nat.not_le, hle, sY, sZ, c, c', hm, k' _ (show gM IG Y + 1 ≤ Y + 1 by omega), q, zuf_same, zuf_sw, zuf_sw2]
      · have hs : ¬ gst IG Y := fun z => c z.1
        have e1 : mF IG o (Y + 1) = mF IG o Y := mF_f (fun z => hs z.1)
        have e2 : mT IG o (Y + 1) = mT IG o Y := mT_f (fun z => c z.1)
        rw [gM_f hs]
        unfold mgS at sY sZ ⊢
        rw [e1, e2]
        simp (disch := first | exact zl_i | exact zl_r | exact zl_n | omega | exact zlen0 | exact zlen1 | exact zlen2 | exact zlen3 | exact zlen4 | exact zl_l | (unfold scF; omega) | (unfold scR; omega) | (simp only [zS_uf1, zS_uf2, zS_ur1, zS_ur2, Nat.reduceEqDiff, reduceIte, and_false, false_and, and_true, true_and, ite_true, ite_false]; done) | exact zl_n) only [Int.reduceToNat, Nat.reduceAdd, Nat.reduceMul, List.length_nil, List.length_cons, Nat.reduceLeDiff, Nat.zero_le, Option.toList_some, Option.toList_none, List.cons_append, List.nil_append, PW_nil, PW_goto, zl_i, zl_r, zl_n, PW_aload_0, PW_iload_1, PX_c206, PW_k0, PW_istore_3, PW_g809, PW_istore_4, PW_iload_4, PW_g810, PW_ic_gt, PX_c207, PW_if_ne, PW_k1, PW_isub, PW_iinc_3_p1, PW_iload_3, PW_iload_2, PW_ic_ne, PW_if_eq, PW_g811, PW_p811, PW_p812, PW_iinc_4_p1, PW_ret_i zret_208, zb_208_2, zb_208_3, zb_208_4, zb_208_5, zb_208_6, zb_208_7, PK_app, n_l0, n_l1, n_l2, n_l3, n_l4, n_l5, n_l8, n_l9, n_l10, n_l15, n_l20, n_l31, n_l40, n_l48, n_l57, n_l59, n_l60, n_l70, n_l99, n_l100, n_l255, n_l601, n_l602, n_l1024, n_l1500, n_l2100, n_l2101, n_l65535, n_l100000, n_l1000000, n_l100000000, i_lt, nI_clamp, nI_leI, nI_eq, nI_1, nI_add, pk_mul, pk_sub, n_in, n_negle, n_legne, n_eqneg, n_negeq, n_nn, n_bit, n_shl1, n_or, zb_e0, zb_e1, zb_r, n_em, zb_T, zb_F, zS_uf1, zS_uf2, zS_ur1, zS_ur2, zS_ur3, zS_ul1, zS_ul2, zS_ul3, z_if0, z_if1, Int.reduceEq, Nat.reduceOr, Nat.or_zero, Nat.zero_or, Bool.false_eq_true, reduceCtorEq, nar0, nar1, nar_zb, eq_self, true_and, and_true, false_and, and_false, or_true, true_or, or_false, false_or, not_true_eq_false, not_false_eq_true, Classical.not_not, true_implies, false_implies, implies_true, iff_true, iff_self, ite_true, ite_false, Nat.reduceEqDiff, Nat.reduceLT, Nat.reduceSub, Nat.add_sub_cancel, Nat.reduceLeDiff, reduceIte, ne_eq, Nat.not_le, hle, sY, c]
    · rw [show a + (b + 1 - a) = b + 1 by omega, zb_208_1]
      unfold mgS
      simp (disch := first | exact zl_i | exact zl_r | exact zl_n | omega | exact zlen0 | exact zlen1 | exact zlen2 | exact zlen3 | exact zlen4 | exact zl_l | (unfold scF; omega) | (unfold scR; omega) | (simp only [zS_uf1, zS_uf2, zS_ur1, zS_ur2, Nat.reduceEqDiff, reduceIte, and_false, false_and, and_true, true_and, ite_true, ite_false]; done) | exact zl_n) only [Int.reduceToNat, Nat.reduceAdd, Nat.reduceMul, List.length_nil, List.length_cons, Nat.reduceLeDiff, Nat.zero_le, Option.toList_some, Option.toList_none, List.cons_append, List.nil_append, PW_nil, PW_goto, zl_i, zl_r, zl_n, PW_aload_0, PW_iload_1, PX_c206, PW_k0, PW_istore_3, PW_g809, PW_istore_4, PW_iload_4, PW_g810, PW_ic_gt, PX_c207, PW_if_ne, PW_k1, PW_isub, PW_iinc_3_p1, PW_iload_3, PW_iload_2, PW_ic_ne, PW_if_eq, PW_g811, PW_p811, PW_p812, PW_iinc_4_p1, PW_ret_i zret_208, zb_208_2, zb_208_3, zb_208_4, zb_208_5, zb_208_6, zb_208_7, PK_app, n_l0, n_l1, n_l2, n_l3, n_l4, n_l5, n_l8, n_l9, n_l10, n_l15, n_l20, n_l31, n_l40, n_l48, n_l57, n_l59, n_l60, n_l70, n_l99, n_l100, n_l255, n_l601, n_l602, n_l1024, n_l1500, n_l2100, n_l2101, n_l65535, n_l100000, n_l1000000, n_l100000000, i_lt, nI_clamp, nI_leI, nI_eq, nI_1, nI_add, pk_mul, pk_sub, n_in, n_negle, n_legne, n_eqneg, n_negeq, n_nn, n_bit, n_shl1, n_or, zb_e0, zb_e1, zb_r, n_em, zb_T, zb_F, zS_uf1, zS_uf2, zS_ur1, zS_ur2, zS_ur3, zS_ul1, zS_ul2, zS_ul3, z_if0, z_if1, Int.reduceEq, Nat.reduceOr, Nat.or_zero, Nat.zero_or, Bool.false_eq_true, reduceCtorEq, nar0, nar1, nar_zb, eq_self, true_and, and_true, false_and, and_false, or_true, true_or, or_false, false_or, not_true_eq_false, not_false_eq_true, Classical.not_not, true_implies, false_implies, implies_true, iff_true, iff_self, ite_true, ite_false, Nat.reduceEqDiff, Nat.reduceLT, Nat.reduceSub, Nat.add_sub_cancel, Nat.reduceLeDiff, reduceIte, ne_eq, Nat.not_le, show ¬ b + 1 ≤ b by omega]
  · have hno : ∀ y, ¬ IG y := fun y q => by have := (hI y).mp q; omega
    have g0 := gM_0 (IG := IG) (o := o) (Y := 2101) (fun y _ => hno y)
    have hfin : mgS σ (nI a) (nI b) IG o 2101 = mgS σ (nI a) (nI b) IG o a := by
      unfold mgS
      rw [g0.2.1, g0.2.2, lo.2.1, lo.2.2]
    rw [hfin, g0.1, zb_208_1]
    unfold mgS
    simp (disch := first | exact zl_i | exact zl_r | exact zl_n | omega | exact zlen0 | exact zlen1 | exact zlen2 | exact zlen3 | exact zlen4 | exact zl_l | (unfold scF; omega) | (unfold scR; omega) | (simp only [zS_uf1, zS_uf2, zS_ur1, zS_ur2, Nat.reduceEqDiff, reduceIte, and_false, false_and, and_true, true_and, ite_true, ite_false]; done) | exact zl_n) only [Int.reduceToNat, Nat.reduceAdd, Nat.reduceMul, List.length_nil, List.length_cons, Nat.reduceLeDiff, Nat.zero_le, Option.toList_some, Option.toList_none, List.cons_append, List.nil_append, PW_nil, PW_goto, zl_i, zl_r, zl_n, PW_aload_0, PW_iload_1, PX_c206, PW_k0, PW_istore_3, PW_g809, PW_istore_4, PW_iload_4, PW_g810, PW_ic_gt, PX_c207, PW_if_ne, PW_k1, PW_isub, PW_iinc_3_p1, PW_iload_3, PW_iload_2, PW_ic_ne, PW_if_eq, PW_g811, PW_p811, PW_p812, PW_iinc_4_p1, PW_ret_i zret_208, zb_208_2, zb_208_3, zb_208_4, zb_208_5, zb_208_6, zb_208_7, PK_app, n_l0, n_l1, n_l2, n_l3, n_l4, n_l5, n_l8, n_l9, n_l10, n_l15, n_l20, n_l31, n_l40, n_l48, n_l57, n_l59, n_l60, n_l70, n_l99, n_l100, n_l255, n_l601, n_l602, n_l1024, n_l1500, n_l2100, n_l2101, n_l65535, n_l100000, n_l1000000, n_l100000000, i_lt, nI_clamp, nI_leI, nI_eq, nI_1, nI_add, pk_mul, pk_sub, n_in, n_negle, n_legne, n_eqneg, n_negeq, n_nn, n_bit, n_shl1, n_or, zb_e0, zb_e1, zb_r, n_em, zb_T, zb_F, zS_uf1, zS_uf2, zS_ur1, zS_ur2, zS_ur3, zS_ul1, zS_ul2, zS_ul3, z_if0, z_if1, Int.reduceEq, Nat.reduceOr, Nat.or_zero, Nat.zero_or, Bool.false_eq_true, reduceCtorEq, nar0, nar1, nar_zb, eq_self, true_and, and_true, false_and, and_false, or_true, true_or, or_false, false_or, not_true_eq_false, not_false_eq_true, Classical.not_not, true_implies, false_implies, implies_true, iff_true, iff_self, ite_true, ite_false, Nat.reduceEqDiff, Nat.reduceLT, Nat.reduceSub, Nat.add_sub_cancel, Nat.reduceLeDiff, reduceIte, ne_eq, Nat.not_le, hab]
end GM2
