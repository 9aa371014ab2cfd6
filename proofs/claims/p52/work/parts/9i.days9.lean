/-! days: sets and chains, pure -/
theorem popr_cnt {s : Nat} : ∀ n, popr s n = cnt (fun i => s.testBit i = true) n
  | 0 => rfl
  | n + 1 => by
    have ih := popr_cnt (s := s) n
    have e : popr s (n + 1) = popr s n + (s.testBit n).toNat := rfl
    cases c : s.testBit n
    · rw [cnt_f (c := fun i => s.testBit i = true) (fun z => by
        have z' : s.testBit n = true := z
        rw [c] at z'; cases z'), e, c, ih]; exact rfl
    · rw [cnt_t (c := fun i => s.testBit i = true) c, e, c, ih]; exact rfl
theorem cnt_imp {c d : Nat → Prop} : ∀ {n : Nat}, (∀ i, i < n → c i → d i) → cnt c n ≤ cnt d n
  | 0, _ => Nat.le_refl _
  | n + 1, h => by
    have ih := cnt_imp (c := c) (d := d) (n := n) (fun i hi => h i (by omega))
    by_cases q : c n
    · rw [cnt_t q, cnt_t (h n (by omega) q)]; omega
    · rw [cnt_f q]
      by_cases p : d n
      · rw [cnt_t p]; omega
      · rw [cnt_f p]; exact ih
theorem cnt_dis {c d e : Nat → Prop} : ∀ {n : Nat}, (∀ i, i < n → (e i ↔ c i ∨ d i) ∧ ¬ (c i ∧ d i)) → cnt c n + cnt d n = cnt e n
  | 0, _ => rfl
  | n + 1, h => by
    have ih := cnt_dis (c := c) (d := d) (e := e) (n := n) (fun i hi => h i (by omega))
    have hn := h n (by omega)
    by_cases p : c n
    · have q : ¬ d n := fun z => hn.2 ⟨p, z⟩
      rw [cnt_t p, cnt_f q, cnt_t (hn.1.mpr (Or.inl p))]; omega
    · by_cases q : d n
      · rw [cnt_f p, cnt_t q, cnt_t (hn.1.mpr (Or.inr q))]; omega
      · rw [cnt_f p, cnt_f q, cnt_f (fun z => (hn.1.mp z).elim p q)]; exact ih
theorem cdv_lt {x h : Nat} (hh : 1 ≤ h) (z : ¬ (x + h - 1) / h = 0) : ((x + h - 1) / h - 1) * h ≤ x := by
  have t := cdv (x := x) (h := h) (D := (x + h - 1) / h - 1) hh
  generalize (x + h - 1) / h = q at *
  have a : ¬ x ≤ (q - 1) * h := fun w => by
    have := t.mpr w
    omega
  omega
def dsub (a b : Nat) : Prop := ∀ i, a.testBit i = true → b.testBit i = true
theorem dsub_le {a b : Nat} (h : dsub a b) : a ≤ b := by
  have e := n_sub.mpr h
  have : a &&& b ≤ b := Nat.and_le_right
  omega
theorem pop_le {a b : Nat} (h : dsub a b) : popr a 10 ≤ popr b 10 := by
  rw [popr_cnt, popr_cnt]
  exact cnt_imp (fun i _ => h i)
theorem pop_or {s m : Nat} (h : ∀ i, m.testBit i = true → s.testBit i = false) : popr s 10 + popr m 10 = popr (s ||| m) 10 := by
  rw [popr_cnt, popr_cnt, popr_cnt]
  refine cnt_dis (fun i _ => ⟨?_, fun z => ?_⟩)
  · rw [Nat.testBit_or, Bool.or_eq_true]
  · have := h i z.2
    rw [z.1] at this
    cases this
theorem sub_diff {s t : Nat} (h : dsub s t) (ht : t < 1024) : ∃ m, m < 1024 ∧ s ||| m = t ∧ (∀ i, m.testBit i = true → t.testBit i = true ∧ s.testBit i = false) ∧ popr s 10 + popr m 10 = popr t 10 := by
  have hb : ∀ i, (t ^^^ s).testBit i = true → t.testBit i = true ∧ s.testBit i = false := by
    intro i hi
    rw [Nat.testBit_xor] at hi
    have hs := h i
    cases c : s.testBit i
    · rw [c] at hi
      cases d : t.testBit i
      · rw [d] at hi; exact absurd hi (by decide)
      · exact ⟨rfl, rfl⟩
    · rw [c, hs c] at hi; exact absurd hi (by decide)
  have e : s ||| (t ^^^ s) = t := by
    apply Nat.eq_of_testBit_eq
    intro i
    rw [Nat.testBit_or, Nat.testBit_xor]
    have hs := h i
    cases c : s.testBit i
    · cases d : t.testBit i <;> rfl
    · rw [hs c]; rfl
  refine ⟨t ^^^ s, Nat.xor_lt_two_pow (n := 10) ht (Nat.lt_of_le_of_lt (dsub_le h) ht), e, hb, ?_⟩
  rw [pop_or (fun i hi => (hb i hi).2), e]
theorem sub_ext {t k : Nat} (ht : t < 1024) (h2 : k ≤ popr t 10) : ∀ d s, popr s 10 + d = k → dsub s t → ∃ s', dsub s s' ∧ dsub s' t ∧ popr s' 10 = k
  | 0, s, e, h => ⟨s, fun _ z => z, h, e⟩
  | d + 1, s, e, h => by
    have hx : ∃ i, i < 10 ∧ t.testBit i = true ∧ ¬ s.testBit i = true := Classical.byContradiction (fun q => by
      have : popr t 10 ≤ popr s 10 := by
        rw [popr_cnt, popr_cnt]
        exact cnt_imp (fun i hi z => Classical.byContradiction (fun w => q ⟨i, hi, z, w⟩))
      omega)
    obtain ⟨i, i1, i2, i3⟩ := hx
    have e1 : popr (s ||| 2 ^ i) 10 = popr s 10 + 1 := by
      rw [popr_cnt, popr_cnt]
      exact cnt_one (c := fun i => s.testBit i = true) (d := fun j => (s ||| 2 ^ i).testBit j = true) i1 i3 (by
        show (s ||| 2 ^ i).testBit i = true
        rw [bl_tb]; simp) (fun j _ hj => by
        show (s ||| 2 ^ i).testBit j = true ↔ s.testBit j = true
        rw [bl_tb, Bool.or_eq_true, decide_eq_true_eq]
        exact ⟨fun z => z.elim id (fun w => absurd w.symm hj), Or.inl⟩)
    have h1 : dsub (s ||| 2 ^ i) t := fun j hj => by
      rw [bl_tb, Bool.or_eq_true, decide_eq_true_eq] at hj
      rcases hj with hj | hj
      · exact h j hj
      · rw [← hj]; exact i2
    obtain ⟨s', a, b, c⟩ := sub_ext ht h2 d (s ||| 2 ^ i) (by omega) h1
    exact ⟨s', fun j hj => a j (by rw [bl_tb, hj]; rfl), b, c⟩
theorem dcn_mono {W : Nat → Nat} {n s t : Nat} (h : dsub s t) : dcn W n s ≤ dcn W n t := cnt_imp (fun i _ z => n_sub.mpr (fun k hk => h k (n_sub.mp z k hk)))
theorem dcn_all {W : Nat → Nat} {n G : Nat} (h : ∀ j, j < n → W j &&& G = W j) : dcn W n G = n := cnt_all h
theorem pop_0 : popr 0 10 = 0 := by decide
/-- with so many days: these have handed in, so many have got -/
def dRch (W : Nat → Nat) (n h G : Nat) : Nat → Nat → Nat → Prop
  | 0, T, b => T = 0 ∧ b = 0
  | d + 1, T, b => ∃ s a m, dRch W n h G d s a ∧ (∀ i, m.testBit i = true → G.testBit i = true ∧ s.testBit i = false) ∧ popr m 10 ≤ h ∧ T = s ||| m ∧ b = a + min (dcn W n s - a) (h - popr m 10)
section DI
variable {W : Nat → Nat} {n h G : Nat}
theorem dR_f : ∀ {d T b : Nat}, dRch W n h G d T b → dsub T G ∧ b ≤ dcn W n T ∧ popr T 10 + b ≤ d * h
  | 0, T, b, q => by
    obtain ⟨rfl, rfl⟩ := q
    refine ⟨fun i z => ?_, Nat.zero_le _, ?_⟩
    · rw [Nat.zero_testBit] at z; cases z
    · rw [pop_0]; exact Nat.zero_le _
  | d + 1, T, b, q => by
    obtain ⟨s, a, m, q1, q2, q3, rfl, rfl⟩ := q
    obtain ⟨i1, i2, i3⟩ := dR_f q1
    have hm : dsub s (s ||| m) := fun i hi => by rw [Nat.testBit_or, hi]; rfl
    have h1 := dcn_mono (W := W) (n := n) hm
    have h2 := pop_or (s := s) (m := m) (fun i hi => (q2 i hi).2)
    refine ⟨fun i hi => ?_, by omega, ?_⟩
    · rw [Nat.testBit_or, Bool.or_eq_true] at hi
      exact hi.elim (i1 i) (fun z => (q2 i z).1)
    · rw [Nat.add_mul, Nat.one_mul]
      omega
theorem dR_s {d T b : Nat} (q : dRch W n h G (d + 1) T b) : ∃ s a, dRch W n h G d s a ∧ popr T 10 + b ≤ popr s 10 + a + h ∧ b ≤ dcn W n s := by
  obtain ⟨s, a, m, q1, q2, q3, rfl, rfl⟩ := q
  obtain ⟨i1, i2, i3⟩ := dR_f q1
  have h2 := pop_or (s := s) (m := m) (fun i hi => (q2 i hi).2)
  exact ⟨s, a, q1, by omega, by omega⟩
theorem mxr_ge {c : Nat → Prop} {f : Nat → Nat} {s : Nat} : ∀ {N : Nat}, s < N → c s → f s ≤ mxr c f N
  | 0, h, _ => absurd h (Nat.not_lt_zero _)
  | N + 1, h, k => by
    by_cases q : s = N
    · subst q; rw [mxr_t k]; omega
    · have ih := mxr_ge (c := c) (f := f) (N := N) (s := s) (by omega) k
      by_cases z : c N
      · rw [mxr_t z]; omega
      · rw [mxr_f z]; exact ih
theorem mxr_is {c : Nat → Prop} {f : Nat → Nat} : ∀ {N : Nat}, mxr c f N = 0 ∨ ∃ s, s < N ∧ c s ∧ f s = mxr c f N
  | 0 => Or.inl rfl
  | N + 1 => by
    have ih := mxr_is (c := c) (f := f) (N := N)
    by_cases z : c N
    · rw [mxr_t z]
      by_cases q : mxr c f N ≤ f N
      · exact Or.inr ⟨N, by omega, z, by omega⟩
      · rw [Nat.max_eq_left (by omega)]
        rcases ih with ih | ⟨s, a, b⟩
        · exact Or.inl ih
        · exact Or.inr ⟨s, by omega, b⟩
    · rw [mxr_f z]
      rcases ih with ih | ⟨s, a, b⟩
      · exact Or.inl ih
      · exact Or.inr ⟨s, by omega, b⟩
theorem dmr_ge {k s : Nat} (hG : G < 1024) (hk : k ≤ popr G 10) (hs : dsub s G) (hp : popr s 10 ≤ k) : dcn W n s ≤ dmr W n G k := by
  obtain ⟨s', a, b, c⟩ := sub_ext hG hk (k - popr s 10) s (by omega) hs
  refine Nat.le_trans (dcn_mono a) ?_
  exact mxr_ge (c := fun s => s &&& G = s ∧ popr s 10 = k) (f := fun s => cnt (fun j => W j &&& s = W j) n) (Nat.lt_of_le_of_lt (dsub_le b) hG) ⟨n_sub.mpr b, c⟩
theorem dmr_is {k : Nat} (hG : G < 1024) (hk : k ≤ popr G 10) : ∃ s, dsub s G ∧ popr s 10 = k ∧ dcn W n s = dmr W n G k := by
  rcases mxr_is (c := fun s => s &&& G = s ∧ popr s 10 = k) (f := fun s => cnt (fun j => W j &&& s = W j) n) (N := 1024) with e | ⟨s, a, b, c⟩
  · obtain ⟨s, _, b, c⟩ := sub_ext hG hk k 0 (by rw [pop_0]; omega) (fun i z => by rw [Nat.zero_testBit] at z; cases z)
    have h1 := dmr_ge (W := W) (n := n) hG hk b (Nat.le_of_eq c)
    have e' : dmr W n G k = 0 := e
    exact ⟨s, b, c, by omega⟩
  · exact ⟨s, n_sub.mp b.1, b.2, c⟩
theorem dR_low1 {gd : Nat} (hG : G < 1024) (hg : 1 ≤ gd) (hk : (gd - 1) * h ≤ popr G 10) (hk2 : popr G 10 ≤ gd * h) : ∀ {e T b : Nat}, dRch W n h G (gd + e) T b → b + popr T 10 ≤ min (gd * h - popr G 10) (dmr W n G ((gd - 1) * h)) + popr G 10 + e * h
  | 0, T, b, q => by
    have f1 := dR_f q
    have l1 := pop_le f1.1
    have f3 := f1.2.2
    rw [show gd + 0 = gd - 1 + 1 by omega] at q
    obtain ⟨s, a, q1, q2, q3⟩ := dR_s q
    have f2 := dR_f q1
    have h3 := dmr_ge (W := W) (n := n) hG hk f2.1 (by omega)
    rw [Nat.add_zero] at f3
    omega
  | e + 1, T, b, q => by
    obtain ⟨s, a, q1, q2, q3⟩ := dR_s (d := gd + e) q
    have ih := dR_low1 hG hg hk hk2 q1
    rw [Nat.add_mul, Nat.one_mul]
    omega
theorem dR_lo {D : Nat} (hG : G < 1024) (hh : 1 ≤ h) (q : dRch W n h G D G n) : dyF W n h G ≤ D := by
  have f := (dR_f q).2.2
  have h1 : (popr G 10 + h - 1) / h ≤ D := (cdv hh).mpr (by omega)
  have h2 := (cdv (x := popr G 10) (h := h) (D := (popr G 10 + h - 1) / h) hh).mp (Nat.le_refl _)
  have h3 : ¬ (popr G 10 + h - 1) / h = 0 → ((popr G 10 + h - 1) / h - 1) * h ≤ popr G 10 := cdv_lt hh
  unfold dyF
  by_cases c : (popr G 10 + h - 1) / h = 0
  · have e : dyE W n h G = 0 := cif_t c
    rw [e]
    have : (n - 0 + h - 1) / h ≤ D := (cdv hh).mpr (by omega)
    omega
  · have e : dyE W n h G = min ((popr G 10 + h - 1) / h * h - popr G 10) (dmr W n G (((popr G 10 + h - 1) / h - 1) * h)) := cif_f c
    generalize hgd : (popr G 10 + h - 1) / h = gd at *
    have q' := q
    rw [show D = gd + (D - gd) by omega] at q'
    have l := dR_low1 hG (show 1 ≤ gd by omega) (h3 c) h2 q'
    rw [← e] at l
    have : (n - dyE W n h G + h - 1) / h ≤ D - gd := (cdv hh).mpr (by omega)
    omega
theorem dR_in (hG : G < 1024) : ∀ {j S : Nat}, dsub S G → popr S 10 = j * h → dRch W n h G j S 0
  | 0, S, hS, e => by
    refine ⟨?_, rfl⟩
    apply Nat.eq_of_testBit_eq
    intro i
    rw [Nat.zero_testBit]
    apply Bool.eq_false_iff.mpr
    intro z
    have hi : i < 10 := by
      apply Classical.byContradiction
      intro w
      have h10 : S < 2 ^ 10 := Nat.lt_of_le_of_lt (dsub_le hS) hG
      rw [Nat.testBit_lt_two_pow (Nat.lt_of_lt_of_le h10 (Nat.pow_le_pow_right (by omega) (by omega)))] at z
      cases z
    have h1 : 0 < popr S 10 := by
      rw [popr_cnt]
      have h2 := cnt_mono (c := fun i => S.testBit i = true) (a := i + 1) (b := 10) (by omega)
      rw [cnt_t (c := fun i => S.testBit i = true) z] at h2
      omega
    omega
  | j + 1, S, hS, e => by
    rw [Nat.add_mul, Nat.one_mul] at e
    have hS2 := Nat.lt_of_le_of_lt (dsub_le hS) hG
    obtain ⟨s, _, a, b⟩ := sub_ext hS2 (show j * h ≤ popr S 10 by omega) (j * h) 0 (by rw [pop_0]; omega) (fun i z => by rw [Nat.zero_testBit] at z; cases z)
    have ih := dR_in (j := j) hG (fun i z => hS i (a i z)) b
    obtain ⟨m, m1, m2, m3, m4⟩ := sub_diff a hS2
    exact ⟨s, 0, m, ih, fun i hi => ⟨hS i (m3 i hi).1, (m3 i hi).2⟩, by omega, m2.symm, by omega⟩
theorem dR_on {d b : Nat} (hn : dcn W n G = n) (q : dRch W n h G d G b) (hb : b ≤ n) : ∀ j, dRch W n h G (d + j) G (min n (b + j * h))
  | 0 => by
    rw [Nat.zero_mul, Nat.add_zero, Nat.add_zero, Nat.min_eq_right hb]
    exact q
  | j + 1 => by
    have ih := dR_on hn q hb j
    show dRch W n h G (d + j + 1) G (min n (b + (j + 1) * h))
    refine ⟨G, _, 0, ih, fun i z => ?_, ?_, ?_, ?_⟩
    · rw [Nat.zero_testBit] at z; cases z
    · rw [pop_0]; exact Nat.zero_le _
    · rw [Nat.or_zero]
    · rw [pop_0, hn, Nat.add_mul, Nat.one_mul]
      omega
theorem dR_up (hG : G < 1024) (hh : 1 ≤ h) (hW : ∀ j, j < n → W j &&& G = W j) : dRch W n h G (dyF W n h G) G n := by
  have hn := dcn_all hW
  have h2 := (cdv (x := popr G 10) (h := h) (D := (popr G 10 + h - 1) / h) hh).mp (Nat.le_refl _)
  have h3 : ¬ (popr G 10 + h - 1) / h = 0 → ((popr G 10 + h - 1) / h - 1) * h ≤ popr G 10 := cdv_lt hh
  have base : dRch W n h G ((popr G 10 + h - 1) / h) G (dyE W n h G) := by
    by_cases c : (popr G 10 + h - 1) / h = 0
    · have e : dyE W n h G = 0 := cif_t c
      rw [e, c]
      rw [c, Nat.zero_mul] at h2
      exact dR_in (j := 0) hG (fun _ z => z) (by omega)
    · have e : dyE W n h G = min ((popr G 10 + h - 1) / h * h - popr G 10) (dmr W n G (((popr G 10 + h - 1) / h - 1) * h)) := cif_f c
      rw [e]
      generalize hgd : (popr G 10 + h - 1) / h = gd at *
      obtain ⟨s, s1, s2, s3⟩ := dmr_is (W := W) (n := n) hG (h3 c)
      have q := dR_in (W := W) (n := n) (h := h) hG s1 s2
      obtain ⟨m, m1, m2, m3, m4⟩ := sub_diff s1 hG
      have eg : gd = gd - 1 + 1 := by omega
      have em : gd * h = (gd - 1) * h + h := by
        have z := Nat.add_mul (gd - 1) 1 h
        rw [Nat.one_mul, ← eg] at z
        exact z
      have h4 := h3 c
      have q2 : dRch W n h G (gd - 1 + 1) G (min (gd * h - popr G 10) (dmr W n G ((gd - 1) * h))) := ⟨s, 0, m, q, m3, by omega, m2.symm, by rw [s3]; omega⟩
      rw [← eg] at q2
      exact q2
  have l := dyE_le (W := W) (n := n) (h := h) (G := G)
  have q := dR_on hn base l ((n - dyE W n h G + h - 1) / h)
  have h5 := (cdv (x := n - dyE W n h G) (h := h) (D := (n - dyE W n h G + h - 1) / h) hh).mp (Nat.le_refl _)
  rw [Nat.min_eq_left (by omega)] at q
  exact q
end DI
