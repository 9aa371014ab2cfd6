/-! moves by sets against days by hand-in sets: pure -/
theorem dgl_cnt {gt : Nat → Prop} {wt : Nat → Nat} {P : Nat → Prop} : ∀ i, cnt (fun j => P (dgl gt wt i j)) (cnt gt i) = cnt (fun p => gt p ∧ P (wt p)) i
  | 0 => rfl
  | i + 1 => by
    have ih := dgl_cnt (gt := gt) (wt := wt) (P := P) i
    have e : ∀ j, dgl gt wt (i + 1) j = cif (gt i ∧ j = cnt gt i) (wt i) (dgl gt wt i j) := fun _ => rfl
    by_cases g : gt i
    · have e1 : cnt (fun j => P (dgl gt wt (i + 1) j)) (cnt gt i) = cnt (fun j => P (dgl gt wt i j)) (cnt gt i) := cnt_congr (fun j hj => by
        rw [e, cif_f (fun z => by omega)])
      have e2 : dgl gt wt (i + 1) (cnt gt i) = wt i := by rw [e, cif_t ⟨g, rfl⟩]
      rw [cnt_t g]
      by_cases p : P (wt i)
      · rw [cnt_t (c := fun j => P (dgl gt wt (i + 1) j)) (by show P (dgl gt wt (i + 1) (cnt gt i)); rw [e2]; exact p), cnt_t (c := fun p => gt p ∧ P (wt p)) ⟨g, p⟩, e1, ih]
      · rw [cnt_f (c := fun j => P (dgl gt wt (i + 1) j)) (by show ¬ P (dgl gt wt (i + 1) (cnt gt i)); rw [e2]; exact p), cnt_f (c := fun p => gt p ∧ P (wt p)) (fun z => p z.2), e1, ih]
    · rw [cnt_f g, cnt_f (c := fun p => gt p ∧ P (wt p)) (fun z => g z.1), ← ih]
      exact cnt_congr (fun j _ => by rw [e, cif_f (fun z => g z.1)])
theorem b16_bit {c : Nat → Prop} {i : Nat} : ∀ {k : Nat}, (b16 c k).testBit i = true ↔ 4 ≤ i ∧ i < 4 + k ∧ c (i - 4)
  | 0 => by
    rw [show b16 c 0 = 0 from rfl, Nat.zero_testBit]
    exact ⟨fun z => (by cases z), fun z => by omega⟩
  | k + 1 => by
    have ih := b16_bit (c := c) (i := i) (k := k)
    by_cases h : c k
    · rw [b16_t h, show 16 * 2 ^ k = 2 ^ (4 + k) by rw [Nat.pow_add], bl_tb, Bool.or_eq_true, ih, decide_eq_true_eq]
      constructor
      · rintro (z | z)
        · exact ⟨z.1, by omega, z.2.2⟩
        · exact ⟨by omega, by omega, by rw [← z, show 4 + k - 4 = k by omega]; exact h⟩
      · rintro ⟨a, b, z⟩
        by_cases q : 4 + k = i
        · exact Or.inr q
        · exact Or.inl ⟨a, by omega, z⟩
    · rw [b16_f h, ih]
      constructor
      · rintro ⟨a, b, z⟩
        exact ⟨a, by omega, z⟩
      · rintro ⟨a, b, z⟩
        refine ⟨a, ?_, z⟩
        by_cases q : 4 + k = i
        · rw [← q, show 4 + k - 4 = k by omega] at z
          exact absurd z h
        · omega
theorem m16 {s i : Nat} : (s % 16).testBit i = true ↔ i < 4 ∧ s.testBit i = true := by
  rw [show (16 : Nat) = 2 ^ 4 from rfl, Nat.testBit_mod_two_pow, Bool.and_eq_true, decide_eq_true_eq]
theorem nat_ext {a b : Nat} (h : ∀ i, a.testBit i = true ↔ b.testBit i = true) : a = b := Nat.eq_of_testBit_eq (fun i => by
  have := h i
  cases e : a.testBit i
  · cases f : b.testBit i
    · rfl
    · rw [e, f] at this; exact absurd (this.mpr rfl) (by decide)
  · rw [e] at this
    exact (this.mp rfl).symm)
theorem or_bit {a b i : Nat} : (a ||| b).testBit i = true ↔ a.testBit i = true ∨ b.testBit i = true := by
  rw [Nat.testBit_or, Bool.or_eq_true]
theorem or16 {a b : Nat} : (a ||| b) % 16 = a % 16 ||| b % 16 := nat_ext fun i => by
  rw [m16, or_bit, or_bit, m16, m16]
  constructor
  · rintro ⟨x, y | y⟩
    · exact Or.inl ⟨x, y⟩
    · exact Or.inr ⟨x, y⟩
  · rintro (⟨x, y⟩ | ⟨x, y⟩)
    · exact ⟨x, Or.inl y⟩
    · exact ⟨x, Or.inr y⟩
noncomputable def gts (s : Nat) : Nat := cnt (fun p => s.testBit (4 + p) = true) 6
theorem pop_split {s : Nat} : popr s 10 = popr (s % 16) 10 + gts s := by
  rw [popr_cnt, popr_cnt]
  have e1 : cnt (fun i => s.testBit i = true) 10 = cnt (fun i => s.testBit i = true) 4 + gts s := cnt_shift (c := fun i => s.testBit i = true) (s := 4) 6
  have e2 : cnt (fun i => (s % 16).testBit i = true) 10 = cnt (fun i => (s % 16).testBit i = true) 4 := cnt_ext (c := fun i => (s % 16).testBit i = true) (a := 4) (d := 6) (fun j hj _ z => by
    have := (m16.mp z).1
    omega)
  rw [e1, e2, cnt_congr (c := fun i => (s % 16).testBit i = true) (d := fun i => s.testBit i = true) (fun i hi => ⟨fun z => (m16.mp z).2, fun z => m16.mpr ⟨hi, z⟩⟩)]
theorem pop8_10 {m : Nat} (hm : m < 256) : pop8 m = popr m 10 := by
  rw [popr_cnt]
  exact (cnt_ext (c := fun i => m.testBit i = true) (a := 8) (d := 2) (fun j hj _ z => by
    rw [Nat.testBit_lt_two_pow (Nat.lt_of_lt_of_le (show m < 2 ^ 8 from hm) (Nat.pow_le_pow_right (by omega) hj))] at z
    cases z)).symm
theorem cnt6 {c : Nat → Prop} {pl : Nat} (h : pl ≤ 6) : cnt (fun p => p < pl ∧ c p) 6 = cnt c pl := by
  have e := cnt_ext (c := fun p => p < pl ∧ c p) (a := pl) (d := 6 - pl) (fun j hj _ z => by
    have := z.1
    omega)
  rw [show pl + (6 - pl) = 6 by omega] at e
  rw [e]
  exact cnt_congr (fun i hi => ⟨fun z => z.2, fun z => ⟨hi, z⟩⟩)
theorem pop_z {m : Nat} (hm : m < 1024) (h : popr m 10 = 0) : m = 0 := (dR_in (j := 0) (G := m) (W := fun _ => 0) (n := 0) (h := 0) hm (fun _ z => z) (by omega)).1
section D6
variable {gt : Nat → Prop} {wt A W : Nat → Nat} {pl h mv G n : Nat}
theorem d6_lo (hpl : pl ≤ 4) (hw : ∀ p, p < pl → gt p → dsub (wt p) G) (hA : ∀ p, p < pl → gt p → A (4 + p) = wt p) (hG : G < 16)
    (hmv : ∀ i, mv.testBit i = true ↔ (i < 4 ∧ G.testBit i = true) ∨ (4 ≤ i ∧ i < 4 + pl ∧ gt (i - 4)))
    (hD : ∀ T, dcn W n T = cnt (fun p => gt p ∧ wt p &&& T = wt p) pl) :
    ∀ t s, Lr mv A h t s → dsub s mv ∧ (∀ p, s.testBit (4 + p) = true → dsub (wt p) (s % 16)) ∧ ∃ b, dRch W n h G t (s % 16) b ∧ gts s ≤ b := by
  intro t
  induction t with
  | zero =>
    intro s q
    have q' : s = 0 := q
    subst q'
    refine ⟨fun i z => ?_, fun p z => ?_, 0, ⟨rfl, rfl⟩, ?_⟩
    · rw [Nat.zero_testBit] at z; cases z
    · rw [Nat.zero_testBit] at z; cases z
    · exact Nat.le_of_eq (cnt_no (fun j _ z => by rw [Nat.zero_testBit] at z; cases z))
  | succ t ih =>
    intro s q
    obtain ⟨s0, m, q0, q1, q2, q3, q4, rfl⟩ := q
    obtain ⟨i1, i2, b, i3, i4⟩ := ih s0 q0
    have hmy : m ≤ may mv A s0 := by rw [← q2]; exact Nat.and_le_right
    have hm8 : m < 256 := Nat.lt_of_le_of_lt hmy may_lt
    have hm : ∀ i, m.testBit i = true → i < 8 ∧ mayb mv A s0 i := fun i z => bitsOf_bit.mp (n_sub.mp q2 i z)
    have bl4 : ∀ i, G.testBit i = true → i < 4 := fun i z => by
      apply Classical.byContradiction
      intro w
      rw [Nat.testBit_lt_two_pow (Nat.lt_of_lt_of_le (show G < 2 ^ 4 from hG) (Nat.pow_le_pow_right (by omega) (by omega)))] at z
      cases z
    have hgm : ∀ p, m.testBit (4 + p) = true → p < pl ∧ gt p ∧ dsub (wt p) (s0 % 16) := fun p z => by
      obtain ⟨z1, z2, z3, z4⟩ := hm _ z
      rcases (hmv _).mp z2 with y | ⟨y1, y2, y3⟩
      · omega
      · rw [show 4 + p - 4 = p by omega] at y3
        have hp : p < pl := by omega
        rw [hA p hp y3] at z4
        exact ⟨hp, y3, fun i hi => m16.mpr ⟨bl4 i (hw p hp y3 i hi), n_sub.mp z4 i hi⟩⟩
    have hms : ∀ i, m.testBit i = true → s0.testBit i = false := fun i z => by
      have := (hm i z).2.2.1
      cases c : s0.testBit i
      · rfl
      · exact absurd c this
    have hs : dsub (s0 ||| m) mv := fun i z => by
      rcases or_bit.mp z with y | y
      · exact i1 i y
      · exact (hm i y).2.1
    have hwt0 : ∀ p, (s0 ||| m).testBit (4 + p) = true → dsub (wt p) (s0 % 16) := fun p z => by
      rcases or_bit.mp z with y | y
      · exact i2 p y
      · exact (hgm p y).2.2
    have hg : gts s0 + gts m = gts (s0 ||| m) := cnt_dis (fun i _ => ⟨or_bit, fun z => by
      have := hms _ z.2
      rw [z.1] at this
      cases this⟩)
    have hd : gts (s0 ||| m) ≤ dcn W n (s0 % 16) := by
      rw [hD, ← cnt6 (by omega)]
      refine cnt_imp (fun p _ z => ?_)
      rcases (hmv _).mp (hs _ z) with y | ⟨y1, y2, y3⟩
      · omega
      · rw [show 4 + p - 4 = p by omega] at y3
        exact ⟨by omega, y3, n_sub.mpr (hwt0 p z)⟩
    have hp := pop_split (s := m)
    rw [pop8_10 hm8] at q4
    refine ⟨hs, fun p z i hi => ?_, _, ⟨s0 % 16, b, m % 16, i3, fun i z => ?_, by omega, or16, rfl⟩, by omega⟩
    · rw [or16]
      exact or_bit.mpr (Or.inl (hwt0 p z i hi))
    · obtain ⟨z1, z2⟩ := m16.mp z
      rcases (hmv i).mp (hm i z2).2.1 with y | y
      · refine ⟨y.2, ?_⟩
        have := hms i z2
        cases c : (s0 % 16).testBit i
        · rfl
        · rw [(m16.mp c).2] at this
          cases this
      · omega
theorem d6_up (hpl : pl ≤ 4) (hw : ∀ p, p < pl → gt p → dsub (wt p) G) (hA : ∀ p, p < pl → gt p → A (4 + p) = wt p) (hA0 : ∀ b, b < 4 → A b = 0) (hG : G < 16)
    (hmv : ∀ i, mv.testBit i = true ↔ (i < 4 ∧ G.testBit i = true) ∨ (4 ≤ i ∧ i < 4 + pl ∧ gt (i - 4)))
    (hD : ∀ T, dcn W n T = cnt (fun p => gt p ∧ wt p &&& T = wt p) pl) :
    ∀ t T b, dRch W n h G t T b → ∃ t' s, t' ≤ t ∧ Lr mv A h t' s ∧ dsub s mv ∧ s % 16 = T ∧ gts s = b ∧ (∀ p, s.testBit (4 + p) = true → p < pl ∧ gt p ∧ dsub (wt p) T) := by
  intro t
  induction t with
  | zero =>
    intro T b q
    obtain ⟨rfl, rfl⟩ := q
    refine ⟨0, 0, Nat.le_refl _, rfl, fun i z => ?_, rfl, cnt_no (fun j _ z => by rw [Nat.zero_testBit] at z; cases z), fun p z => ?_⟩
    · rw [Nat.zero_testBit] at z; cases z
    · rw [Nat.zero_testBit] at z; cases z
  | succ t ih =>
    intro T b q
    obtain ⟨T0, a, m, q1, q2, q3, rfl, rfl⟩ := q
    obtain ⟨t', s0, j1, j2, j3, j4, j5, j6⟩ := ih T0 a q1
    have bl4 : ∀ i, G.testBit i = true → i < 4 := fun i z => by
      apply Classical.byContradiction
      intro w
      rw [Nat.testBit_lt_two_pow (Nat.lt_of_lt_of_le (show G < 2 ^ 4 from hG) (Nat.pow_le_pow_right (by omega) (by omega)))] at z
      cases z
    -- all that may have been got
    have hF : ∀ i, (s0 ||| b16 (fun p => gt p ∧ wt p &&& T0 = wt p) pl).testBit i = true ↔ s0.testBit i = true ∨ (4 ≤ i ∧ i < 4 + pl ∧ gt (i - 4) ∧ wt (i - 4) &&& T0 = wt (i - 4)) := fun i => by
      rw [or_bit, b16_bit]
    generalize hFe : s0 ||| b16 (fun p => gt p ∧ wt p &&& T0 = wt p) pl = F at hF
    have sF : dsub s0 F := fun i z => (hF i).mpr (Or.inl z)
    have mvF : dsub F mv := fun i z => by
      rcases (hF i).mp z with y | y
      · exact j3 i y
      · exact (hmv i).mpr (Or.inr ⟨y.1, y.2.1, y.2.2.1⟩)
    have mv8 : mv < 2 ^ 8 := Nat.lt_pow_two_of_testBit mv (fun i hi => by
      cases c : mv.testBit i
      · rfl
      · rcases (hmv i).mp c with y | y <;> omega)
    have F8 : F < 256 := Nat.lt_of_le_of_lt (dsub_le mvF) mv8
    have F16 : F % 16 = T0 := by
      rw [← j4]
      exact nat_ext fun i => by
        rw [m16, m16, hF]
        constructor
        · rintro ⟨x, y | y⟩
          · exact ⟨x, y⟩
          · omega
        · rintro ⟨x, y⟩
          exact ⟨x, Or.inl y⟩
    have Fg : gts F = dcn W n T0 := by
      rw [hD, ← cnt6 (by omega)]
      refine cnt_congr (fun p hp => ?_)
      show F.testBit (4 + p) = true ↔ _
      rw [hF, show 4 + p - 4 = p by omega]
      constructor
      · rintro (y | ⟨y1, y2, y3⟩)
        · obtain ⟨x1, x2, x3⟩ := j6 p y
          exact ⟨x1, x2, n_sub.mpr x3⟩
        · exact ⟨by omega, y3⟩
      · rintro ⟨y1, y2⟩
        exact Or.inr ⟨by omega, by omega, y2⟩
    have ps0 := pop_split (s := s0)
    have pF := pop_split (s := F)
    rw [j4] at ps0
    rw [F16] at pF
    have hle := (dR_f q1).2.1
    generalize hK : min (dcn W n T0 - a) (h - popr m 10) = K
    obtain ⟨s', k1, k2, k3⟩ := sub_ext (t := F) (k := popr s0 10 + K) (by omega) (by omega) K s0 rfl sF
    have s'8 : s' < 256 := Nat.lt_of_le_of_lt (dsub_le k2) F8
    obtain ⟨m', l1, l2, l3, l4⟩ := sub_diff k1 (by omega)
    have m'F : ∀ i, m'.testBit i = true → 4 ≤ i ∧ i < 4 + pl ∧ gt (i - 4) ∧ wt (i - 4) &&& T0 = wt (i - 4) ∧ ¬ s0.testBit i = true := fun i z => by
      obtain ⟨x1, x2⟩ := l3 i z
      rcases (hF i).mp (k2 i x1) with y | y
      · rw [x2] at y; cases y
      · exact ⟨y.1, y.2.1, y.2.2.1, y.2.2.2, by rw [x2]; decide⟩
    have m4 : ∀ i, m.testBit i = true → i < 4 := fun i z => bl4 i (q2 i z).1
    have m'8 : m' < 256 := Nat.lt_of_le_of_lt (dsub_le (fun i z => (l3 i z).1)) s'8
    have m8 : m < 256 := Nat.lt_of_le_of_lt (dsub_le (fun i z => (q2 i z).1)) (by omega)
    have s'16 : s' % 16 = T0 := by
      rw [← j4]
      exact nat_ext fun i => by
        rw [m16, m16, ← l2, or_bit]
        constructor
        · rintro ⟨x, y | y⟩
          · exact ⟨x, y⟩
          · have := (m'F i y).1
            omega
        · rintro ⟨x, y⟩
          exact ⟨x, Or.inl y⟩
    have ps' := pop_split (s := s')
    rw [s'16] at ps'
    have hmm : popr m 10 + popr m' 10 = popr (m ||| m') 10 := pop_or (fun i z => by
      cases c : m.testBit i
      · rfl
      · have := m4 i c
        have := (m'F i z).1
        omega)
    have eS : s0 ||| (m ||| m') = s' ||| m := by rw [← l2, Nat.or_assoc, Nat.or_comm m m']
    have r1 : dsub (s' ||| m) mv := fun i z => by
      rcases or_bit.mp z with y | y
      · exact mvF i (k2 i y)
      · exact (hmv i).mpr (Or.inl ⟨m4 i y, (q2 i y).1⟩)
    have r2 : (s' ||| m) % 16 = T0 ||| m := by
      rw [or16, s'16]
      congr 1
      exact nat_ext fun i => by
        rw [m16]
        exact ⟨fun z => z.2, fun z => ⟨m4 i z, z⟩⟩
    have r3 : gts (s' ||| m) = gts s' := cnt_congr (fun p _ => by
      rw [or_bit]
      refine ⟨fun z => z.elim id (fun y => ?_), Or.inl⟩
      have := m4 _ y
      omega)
    have r4 : ∀ p, (s' ||| m).testBit (4 + p) = true → p < pl ∧ gt p ∧ dsub (wt p) (T0 ||| m) := fun p z => by
      rcases or_bit.mp z with y | y
      · rcases (hF _).mp (k2 _ y) with x | ⟨x1, x2, x3, x4⟩
        · obtain ⟨x1, x2, x3⟩ := j6 p x
          exact ⟨x1, x2, fun i hi => or_bit.mpr (Or.inl (x3 i hi))⟩
        · rw [show 4 + p - 4 = p by omega] at x3 x4
          exact ⟨by omega, x3, fun i hi => or_bit.mpr (Or.inl (n_sub.mp x4 i hi))⟩
      · have := m4 _ y
        omega
    by_cases c : m ||| m' = 0
    · refine ⟨t', s' ||| m, by omega, ?_, r1, r2, by omega, r4⟩
      rw [← eS, c, Nat.or_zero]
      exact j2
    · refine ⟨t' + 1, s' ||| m, by omega, ⟨s0, m ||| m', j2, n_sub.mpr j3, n_sub.mpr (fun i z => ?_), by omega, ?_, eS.symm⟩, r1, r2, by omega, r4⟩
      · refine bitsOf_bit.mpr ?_
        rcases or_bit.mp z with y | y
        · have i4 := m4 i y
          obtain ⟨y1, y2⟩ := q2 i y
          refine ⟨by omega, (hmv i).mpr (Or.inl ⟨i4, y1⟩), fun w => ?_, ?_⟩
          · have : T0.testBit i = true := by rw [← j4]; exact m16.mpr ⟨i4, w⟩
            rw [y2] at this
            cases this
          · rw [hA0 i i4]
            exact Nat.zero_and _
        · obtain ⟨y1, y2, y3, y4, y5⟩ := m'F i y
          refine ⟨by omega, (hmv i).mpr (Or.inr ⟨y1, y2, y3⟩), y5, ?_⟩
          have e := hA (i - 4) (by omega) y3
          rw [show 4 + (i - 4) = i by omega] at e
          rw [e]
          refine n_sub.mpr (fun k hk => ?_)
          have := n_sub.mp y4 k hk
          rw [← j4] at this
          exact (m16.mp this).2
      · rw [pop8_10 (Nat.or_lt_two_pow (n := 8) m8 m'8)]
        omega
theorem d6_is (hpl : pl ≤ 4) (hh : 1 ≤ h) (hw : ∀ p, p < pl → gt p → dsub (wt p) G) (hA : ∀ p, p < pl → gt p → A (4 + p) = wt p) (hA0 : ∀ b, b < 4 → A b = 0) (hG : G < 16)
    (hmv : ∀ i, mv.testBit i = true ↔ (i < 4 ∧ G.testBit i = true) ∨ (4 ≤ i ∧ i < 4 + pl ∧ gt (i - 4)))
    (hD : ∀ T, dcn W n T = cnt (fun p => gt p ∧ wt p &&& T = wt p) pl) (hn : n = cnt gt pl) (hWG : ∀ j, j < n → W j &&& G = W j) :
    Lr mv A h (dyF W n h G) mv ∧ (∀ t, t < dyF W n h G → ¬ Lr mv A h t mv) ∧ dyF W n h G ≤ 8 := by
  have mv8 : mv < 2 ^ 8 := Nat.lt_pow_two_of_testBit mv (fun i hi => by
    cases c : mv.testBit i
    · rfl
    · rcases (hmv i).mp c with y | y <;> omega)
  have bl4 : ∀ i, G.testBit i = true → i < 4 := fun i z => by
    apply Classical.byContradiction
    intro w
    rw [Nat.testBit_lt_two_pow (Nat.lt_of_lt_of_le (show G < 2 ^ 4 from hG) (Nat.pow_le_pow_right (by omega) (by omega)))] at z
    cases z
  have e16 : mv % 16 = G := nat_ext fun i => by
    rw [m16, hmv]
    constructor
    · rintro ⟨x, y | y⟩
      · exact y.2
      · omega
    · intro z
      exact ⟨bl4 i z, Or.inl ⟨bl4 i z, z⟩⟩
  have eg : gts mv = n := by
    rw [hn, ← cnt6 (by omega)]
    refine cnt_congr (fun p _ => ?_)
    rw [hmv, show 4 + p - 4 = p by omega]
    constructor
    · rintro (y | y)
      · omega
      · exact ⟨by omega, y.2.2⟩
    · rintro ⟨y1, y2⟩
      exact Or.inr ⟨by omega, by omega, y2⟩
  have lo : ∀ t, Lr mv A h t mv → dyF W n h G ≤ t := fun t q => by
    obtain ⟨-, -, b, b1, b2⟩ := d6_lo hpl hw hA hG hmv hD t mv q
    rw [e16] at b1
    have f := dR_f b1
    have : dcn W n G ≤ n := cnt_le n
    rw [show b = n by omega] at b1
    exact dR_lo (by omega) hh b1
  obtain ⟨t', s, u1, u2, u3, u4, u5, -⟩ := d6_up hpl hw hA hA0 hG hmv hD _ _ _ (dR_up (W := W) (n := n) (h := h) (G := G) (by omega) hh hWG)
  have es : s = mv := by
    obtain ⟨m, l1, l2, l3, l4⟩ := sub_diff u3 (show mv < 1024 by omega)
    have p1 := pop_split (s := s)
    have p2 := pop_split (s := mv)
    rw [u4] at p1
    rw [e16] at p2
    have := pop_z l1 (by omega)
    rw [this, Nat.or_zero] at l2
    exact l2
  rw [es] at u2
  have l := lo t' u2
  rw [show t' = dyF W n h G by omega] at u2
  refine ⟨u2, fun t ht q => ?_, ?_⟩
  · have := lo t q
    omega
  · have hn4 : n ≤ 4 := by
      have := cnt_le (c := gt) pl
      omega
    have hp4 : popr G 10 ≤ 4 := by
      have p1 := pop_split (s := G)
      have e : popr G 10 = popr G 4 := by
        rw [popr_cnt, popr_cnt]
        exact cnt_ext (c := fun i => G.testBit i = true) (a := 4) (d := 6) (fun j hj _ z => by
          have := bl4 j z
          omega)
      have := popr_le (s := G) 4
      omega
    have m1 : ∀ x, x ≤ 4 → x ≤ 4 * h := fun x hx => by omega
    have a := (cdv (x := popr G 10) (h := h) (D := 4) hh).mpr (m1 _ hp4)
    have b := (cdv (x := n - dyE W n h G) (h := h) (D := 4) hh).mpr (m1 _ (by omega))
    unfold dyF
    omega
end D6
