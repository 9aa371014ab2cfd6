/-! the law's two days: 55 and 61 -/
def sD (σ τ : zS) : Prop := (∀ c j, ¬ (c = 11 ∨ c = 5) → σ.1 c j = τ.1 c j) ∧ (∀ a, ¬ (a = 72 ∨ a = 47 ∨ a = 48 ∨ a = 49 ∨ a = 101) → σ.2.1 a = τ.2.1 a)
theorem P8_sD {σ τ : zS} {nv p T U : Nat} (e : sD σ τ) (h : P8 τ nv p T U) : P8 σ nv p T U := by
  obtain ⟨e1, e2⟩ := e
  obtain ⟨h1, h2, h3, h4, h5, h6, h7, h8, h9, h10, h11⟩ := h
  unfold P8
  rw [e1 10 5 (by omega), e2 79 (by omega), e1 7 4 (by omega), e2 65 (by omega), e2 66 (by omega), e2 99 (by omega), e2 100 (by omega), e2 70 (by omega), e2 52 (by omega), e2 53 (by omega)]
  exact ⟨h1, h2, h3, fun q q1 q2 => by
    rw [e2 (55 + q) (by omega)]
    exact h4 q q1 q2, h5, h6, h7, h8, h9, h10, h11⟩
theorem L8_sD {σ τ : zS} {p n : Nat} (e : sD σ τ) (h : L8 τ p n) : L8 σ p n := by
  obtain ⟨e1, e2⟩ := e
  unfold L8
  rw [e1 3 5 (by omega), e2 39 (by omega), e2 40 (by omega), e2 41 (by omega), e2 42 (by omega), e2 99 (by omega)]
  exact h
noncomputable def mvA (H W : Nat → Int32) (pl : Nat) : Nat → Nat := fun b => cif (4 ≤ b ∧ b < 4 + pl ∧ dgt H W (b - 4)) (aset H W (b - 4) pl) 0
theorem gAh_A {H W : Nat → Int32} {pl b : Nat} : gAh H W pl pl b = nI (mvA H W pl b) := by
  unfold gAh mvA
  by_cases c : 4 ≤ b ∧ b < 4 + pl ∧ dgt H W (b - 4)
  · rw [cif_t c, cif_t c]
  · rw [cif_f c, cif_f c]
theorem mvA_lt {H W : Nat → Int32} {pl b : Nat} (hpl : pl ≤ 4) : mvA H W pl b < 256 := by
  unfold mvA
  by_cases c : 4 ≤ b ∧ b < 4 + pl ∧ dgt H W (b - 4)
  · rw [cif_t c]
    unfold aset
    refine Nat.or_lt_two_pow (n := 8) ?_ (Nat.lt_of_lt_of_le bitsOf_lt (Nat.pow_le_pow_right (by omega) (by omega)))
    unfold dw1
    by_cases q : H (b - 4) = -nI 1
    · rw [cif_t q]
      decide
    · rw [cif_f q]
      exact Nat.pow_lt_pow_right (by omega) (by omega)
  · rw [cif_f c]
    decide
theorem mvs_bit {H W : Nat → Int32} {pl i : Nat} (hpl : pl ≤ 4) : (mvs H W pl).testBit i = true ↔ (i < 4 ∧ (bitsOf (dgv H W) pl).testBit i = true) ∨ (4 ≤ i ∧ i < 4 + pl ∧ dgt H W (i - 4)) := by
  unfold mvs
  rw [or_bit, b16_bit, bitsOf_bit]
  constructor
  · rintro (z | z)
    · exact Or.inl ⟨by omega, z⟩
    · exact Or.inr z
  · rintro (z | z)
    · exact Or.inl z.2
    · exact Or.inr z
section D7
variable {σ : zS} {nv pl T U n : Nat}
theorem d7_on {p l : Nat} {d : Int32} {C F E : Nat → Int32} (h : ln_on C F E (nI p) d l) : C l = nI p := h.1
theorem d7_hH (hpl : pl ≤ 4) (P : P8 σ nv pl T U) (L : L8 σ pl n) (hnv : nv ≤ 5) {p : Nat} (hp : p < 10) :
    hdP (σ.2.1 39) (σ.2.1 40) (σ.2.1 41) (σ.2.1 42) (nI 55) n p = if p < pl then σ.2.1 99 p else -nI 1 := by
  obtain ⟨-, -, L3, L4, L5⟩ := L
  have P7 := P.2.2.2.2.2.2.1
  by_cases c : p < pl
  · rw [if_pos c]
    rcases (P7 p c).1 with z | ⟨v, hv, z⟩
    · rw [z]
      refine hdP_no (fun m hm q => ?_)
      obtain ⟨q1, v1, a, b, c1, c2, -⟩ := L3 m hm
      have e : q1 = p := (nI_eq (by omega) (by omega)).mp (c1.symm.trans q.1)
      rw [e, z] at c2
      exact (n_negeq (show v1 < 2 ^ 31 by omega) (by omega)).mp c2
    · obtain ⟨l, hl, e⟩ := L4 p v c (by omega) z
      obtain ⟨q1, v1, a, b, c1, c2, c3, c4, c5⟩ := L3 l hl
      have e2 : q1 = p := (nI_eq (by omega) (by omega)).mp (c1.symm.trans e)
      rw [hdP_of hl ⟨e, by rw [c4]; decide, by rw [c5]; decide⟩ (fun m hm q => L5 m l hm hl (q.1.trans e.symm)), c3, ← c2, e2]
  · rw [if_neg c]
    refine hdP_no (fun m hm q => ?_)
    obtain ⟨q1, v1, a, b, c1, -⟩ := L3 m hm
    have e : q1 = p := (nI_eq (by omega) (by omega)).mp (c1.symm.trans q.1)
    omega
theorem d7_oy (hpl : pl ≤ 4) (P : P8 σ nv pl T U) (L : L8 σ pl n) {v q : Nat} (hv : v < 5) (hq : q < pl) (z : σ.2.1 99 q = nI v) :
    hdP (σ.2.1 40) (σ.2.1 39) (σ.2.1 41) (σ.2.1 42) (nI 55) n v = nI q := by
  obtain ⟨-, -, L3, L4, L5⟩ := L
  have P8 := P.2.2.2.2.2.2.2.1
  obtain ⟨l, hl, e⟩ := L4 q v hq hv z
  obtain ⟨q1, v1, a, b, c1, c2, c3, c4, c5⟩ := L3 l hl
  have e2 : q1 = q := (nI_eq (by omega) (by omega)).mp (c1.symm.trans e)
  rw [e2, z] at c2
  rw [hdP_of hl ⟨c3.trans c2.symm, by rw [c4]; decide, by rw [c5]; decide⟩ (fun m hm y => ?_)]
  · exact e
  · obtain ⟨q2, v2, a2, b2, d1, d2, d3, -⟩ := L3 m hm
    have e3 : v2 = v := (nI_eq (by omega) (by omega)).mp (d3.symm.trans y.1)
    rw [e3] at d2
    have e4 : q2 = q := Classical.byContradiction (fun w => by
      have := P8 q2 q a2 hq w (d2.trans z.symm)
      rw [d2] at this
      exact (n_eqneg (show v < 2 ^ 31 by omega) (by omega)).mp this)
    exact L5 m l hm hl (by rw [d1, e, e4])
theorem d7_on' (hpl : pl ≤ 4) (L : L8 σ pl n) {v : Nat} (hv : v < 5) (z : ¬ ∃ q, q < pl ∧ σ.2.1 99 q = nI v) :
    hdP (σ.2.1 40) (σ.2.1 39) (σ.2.1 41) (σ.2.1 42) (nI 55) n v = -nI 1 := by
  obtain ⟨-, -, L3, L4, L5⟩ := L
  refine hdP_no (fun m hm y => ?_)
  obtain ⟨q2, v2, a2, b2, d1, d2, d3, -⟩ := L3 m hm
  have e3 : v2 = v := (nI_eq (by omega) (by omega)).mp (d3.symm.trans y.1)
  rw [e3] at d2
  exact z ⟨q2, a2, d2⟩
theorem d7_61 (L : L8 σ pl n) {p : Nat} : hdP (σ.2.1 39) (σ.2.1 40) (σ.2.1 41) (σ.2.1 42) (nI 61) n p = -nI 1 ∧ hdP (σ.2.1 40) (σ.2.1 39) (σ.2.1 41) (σ.2.1 42) (nI 61) n p = -nI 1 := by
  obtain ⟨-, -, L3, L4, L5⟩ := L
  constructor
  · refine hdP_no (fun m hm y => ?_)
    obtain ⟨q2, v2, a2, b2, d1, d2, d3, d4, d5⟩ := L3 m hm
    have := y.2.2
    rw [d5] at this
    exact absurd this (by decide)
  · refine hdP_no (fun m hm y => ?_)
    obtain ⟨q2, v2, a2, b2, d1, d2, d3, d4, d5⟩ := L3 m hm
    have := y.2.2
    rw [d5] at this
    exact absurd this (by decide)
theorem d7_lok (hnv : nv ≤ 5) (P : P8 σ nv pl T U) : lok (fun _ _ => True) nv (σ.2.1 100) pl := by
  intro p hp
  rcases (P.2.2.2.2.2.2.1 p hp).2.1 with z | ⟨v, hv, z⟩
  · exact Or.inl z
  · refine Or.inr ⟨v, hv, z, trivial, fun q hq y => ?_⟩
    have := P.2.2.2.2.2.2.2.2.1 q p (by omega) hp (by omega) (y.trans z.symm)
    rw [y] at this
    exact (n_eqneg (show v < 2 ^ 31 by omega) (by omega)).mp this
theorem d7_L (hpl : pl ≤ 4) (L : L8 σ pl n) : ∀ l, l < n → (∃ p, p < 10 ∧ σ.2.1 39 l = nI p) ∧ (∃ v, v < 10 ∧ σ.2.1 40 l = nI v) := fun l hl => by
  obtain ⟨q2, v2, a2, b2, d1, d2, d3, -⟩ := L.2.2.1 l hl
  exact ⟨⟨q2, by omega, d1⟩, ⟨v2, by omega, d3⟩⟩
theorem d7_55 (hpl : pl ≤ 4) (hnv : nv ≤ 5) (P : P8 σ nv pl T U) (L : L8 σ pl n) {h : Nat} (hh : 1 ≤ h ∧ h ≤ 4) {sc : zX} :
    ∃ D, D ≤ 8 ∧ Lr (mvs (σ.2.1 99) (σ.2.1 100) pl) (mvA (σ.2.1 99) (σ.2.1 100) pl) h D (mvs (σ.2.1 99) (σ.2.1 100) pl) ∧ (∀ t, t < D → ¬ Lr (mvs (σ.2.1 99) (σ.2.1 100) pl) (mvA (σ.2.1 99) (σ.2.1 100) pl) h t (mvs (σ.2.1 99) (σ.2.1 100) pl)) ∧ ∀ Q, (∀ S, eqd σ S → Q (some (.int (nI D))) S) → PC sc 41 [.ref 11, .int (nI 55), .int (nI h), .int (nI 2), .int (nI 2), .int (nI 0)] σ Q := by
  have hH := fun p hp => d7_hH (n := n) hpl P L hnv (p := p) hp
  have P7 := P.2.2.2.2.2.2.1
  have ok := d7_lok hnv P
  have hO : ∀ v, v < nv → (∃ q, q < pl ∧ σ.2.1 99 q = nI v ∧ hdP (σ.2.1 40) (σ.2.1 39) (σ.2.1 41) (σ.2.1 42) (nI 55) n v = nI q) ∨ ((¬ ∃ q, q < pl ∧ σ.2.1 99 q = nI v) ∧ hdP (σ.2.1 40) (σ.2.1 39) (σ.2.1 41) (σ.2.1 42) (nI 55) n v = -nI 1) := fun v hv => by
    by_cases c : ∃ q, q < pl ∧ σ.2.1 99 q = nI v
    · obtain ⟨q, q1, q2⟩ := c
      exact Or.inl ⟨q, q1, q2, d7_oy hpl P L (by omega) q1 q2⟩
    · exact Or.inr ⟨c, d7_on' hpl L (by omega) c⟩
  obtain ⟨HH, OO, eH, eO, hWG, call⟩ := sp_days (sc := sc) (σ := σ) (d := 55) (h := h) (np := pl) (nv := nv) (nl := n) (x := σ.2.1 100) (by omega) (by omega) hpl (by omega) (by have := L.2.1; omega) P.2.2.1 P.1 L.1 P.2.2.2.2.1 P.2.2.2.2.2.1 (fun p hp => (P7 p hp).2.2) (d7_L hpl L) ok
    (fun p hp => by
      rw [hH p (by omega), if_pos hp]
      rcases (P7 p hp).1 with z | ⟨v, hv, z⟩
      · exact Or.inl z
      · exact Or.inr ⟨v, by omega, z⟩)
    (fun v hv => by
      rcases hO v hv with ⟨q, q1, q2, q3⟩ | ⟨_, z⟩
      · exact Or.inr ⟨q, by omega, q3⟩
      · exact Or.inl z)
    (fun v q hv hq z => by
      rcases hO v hv with ⟨q', q1, q2, q3⟩ | ⟨_, z2⟩
      · have e : q' = q := (nI_eq (by omega) (by omega)).mp (q3.symm.trans z)
        subst e
        refine ⟨q1, ?_⟩
        rw [hH q' (by omega), if_pos q1]
        exact q2
      · rw [z2] at z
        exact absurd z (fun w => (n_negeq (show q < 2 ^ 31 by omega) (by omega)).mp w))
  have eHH : ∀ p, p < pl → HH p = σ.2.1 99 p := fun p hp => by rw [eH p (by omega), hH p (by omega), if_pos hp]
  have egt : ∀ p, p < pl → (dgt HH (σ.2.1 100) p ↔ dgt (σ.2.1 99) (σ.2.1 100) p) := fun p hp => by
    unfold dgt
    rw [eHH p hp]
  have egv : bitsOf (dgv HH (σ.2.1 100)) pl = bitsOf (dgv (σ.2.1 99) (σ.2.1 100)) pl := nat_ext fun i => by
    rw [bitsOf_bit, bitsOf_bit]
    refine and_congr_right (fun hi => ?_)
    unfold dgv
    rw [eHH i hi]
  have ewt : ∀ p, p < pl → dgt HH (σ.2.1 100) p → dwt HH OO (σ.2.1 100) p = aset (σ.2.1 99) (σ.2.1 100) p pl := fun p hp g => by
    unfold dwt aset
    rw [eHH p hp]
    congr 1
    rcases (P7 p hp).2.1 with z | ⟨w, hw, z⟩
    · exact absurd z g.1
    · rw [z, nI_clamp (by omega), eO w (by omega)]
      rcases hO w hw with ⟨q, q1, q2, q3⟩ | ⟨q1, q2⟩
      · rw [q3, dw2_s (by omega)]
        refine nat_ext fun i => ?_
        rw [bitsOf_bit, Nat.testBit_two_pow, decide_eq_true_eq]
        constructor
        · intro e
          subst e
          exact ⟨q1, q2⟩
        · rintro ⟨i1, i2⟩
          exact Classical.byContradiction (fun y => by
            have := P.2.2.2.2.2.2.2.1 q i q1 i1 y (q2.trans i2.symm)
            rw [q2] at this
            exact (n_eqneg (show w < 2 ^ 31 by omega) (by omega)).mp this)
      · rw [q2, dw2_n]
        refine nat_ext fun i => ?_
        rw [bitsOf_bit, Nat.zero_testBit]
        constructor
        · intro e
          cases e
        · rintro ⟨i1, i2⟩
          exact absurd ⟨i, i1, i2⟩ q1
  have hG : bitsOf (dgv HH (σ.2.1 100)) pl < 16 := Nat.lt_of_lt_of_le bitsOf_lt (Nat.pow_le_pow_right (j := 4) (by omega) hpl)
  have hwG : ∀ p, p < pl → dgt HH (σ.2.1 100) p → dsub (dwt HH OO (σ.2.1 100) p) (bitsOf (dgv HH (σ.2.1 100)) pl) := fun p hp g i hi => by
    rw [ewt p hp g] at hi
    rw [egv, bitsOf_bit]
    have g' := (egt p hp).mp g
    rcases or_bit.mp hi with z | z
    · unfold dw1 at z
      by_cases c : σ.2.1 99 p = -nI 1
      · rw [cif_t c, Nat.zero_testBit] at z
        cases z
      · rw [cif_f c, Nat.testBit_two_pow, decide_eq_true_eq] at z
        subst z
        exact ⟨hp, c, g'.2⟩
    · obtain ⟨i1, i2⟩ := bitsOf_bit.mp z
      refine ⟨i1, fun w => g'.1 (i2.symm.trans w), fun w => ?_⟩
      by_cases c : i = p
      · subst c
        exact g'.2 w
      · have := P.2.2.2.2.2.2.2.2.1 i p i1 hp c (w.symm.trans i2)
        exact g'.1 (i2.symm.trans (w.trans this))
  have key := d6_is (gt := dgt HH (σ.2.1 100)) (wt := dwt HH OO (σ.2.1 100)) (A := mvA (σ.2.1 99) (σ.2.1 100) pl) (W := dgl (dgt HH (σ.2.1 100)) (dwt HH OO (σ.2.1 100)) pl) (pl := pl) (h := h) (mv := mvs (σ.2.1 99) (σ.2.1 100) pl) (G := bitsOf (dgv HH (σ.2.1 100)) pl) (n := cnt (dgt HH (σ.2.1 100)) pl) hpl hh.1 hwG
    (fun p hp g => by
      unfold mvA
      rw [cif_t ⟨by omega, by omega, by rw [show 4 + p - 4 = p by omega]; exact (egt p hp).mp g⟩, show 4 + p - 4 = p by omega]
      exact (ewt p hp g).symm)
    (fun b hb => cif_f (by omega)) hG
    (fun i => by
      rw [mvs_bit hpl, egv]
      refine or_congr_right ⟨fun z => ⟨z.1, z.2.1, (egt _ (by omega)).mpr z.2.2⟩, fun z => ⟨z.1, z.2.1, (egt _ (by omega)).mp z.2.2⟩⟩)
    (fun T => dgl_cnt (P := fun w => w &&& T = w) pl) rfl hWG
  exact ⟨_, key.2.2, key.1, key.2.1, call⟩
theorem d7_61c (hpl : pl ≤ 4) (hnv : nv ≤ 5) (P : P8 σ nv pl T U) (L : L8 σ pl n) {sc : zX} :
    ∃ D, D = (if U = 0 then 0 else 1) ∧ ∀ Q, (∀ S, Q (some (.int (nI D))) S) → PC sc 41 [.ref 11, .int (nI 61), .int (nI 9), .int (nI 2), .int (nI 2), .int (nI 0)] σ Q := by
  have P7 := P.2.2.2.2.2.2.1
  have ok := d7_lok hnv P
  have hU := P.2.2.2.2.2.2.2.2.2.2
  obtain ⟨HH, OO, eH, eO, hWG, call⟩ := sp_days (sc := sc) (σ := σ) (d := 61) (h := 9) (np := pl) (nv := nv) (nl := n) (x := σ.2.1 100) (by omega) (by omega) hpl (by omega) (by have := L.2.1; omega) P.2.2.1 P.1 L.1 P.2.2.2.2.1 P.2.2.2.2.2.1 (fun p hp => (P7 p hp).2.2) (d7_L hpl L) ok
    (fun p hp => Or.inl (d7_61 L).1) (fun v hv => Or.inl (d7_61 L).2)
    (fun v q hv hq z => by
      rw [(d7_61 L).2] at z
      exact absurd z (fun w => (n_negeq (show q < 2 ^ 31 by omega) (by omega)).mp w))
  have eHH : ∀ p, p < pl → HH p = -nI 1 := fun p hp => by rw [eH p (by omega), (d7_61 L).1]
  have eG : bitsOf (dgv HH (σ.2.1 100)) pl = 0 := nat_ext fun i => by
    rw [bitsOf_bit, Nat.zero_testBit]
    constructor
    · rintro ⟨i1, i2⟩
      exact absurd (eHH i i1) i2.1
    · intro z
      cases z
  have eg : cnt (dgt HH (σ.2.1 100)) pl ≤ 0 ↔ U = 0 := by
    rw [cnt_pos]
    constructor
    · intro z
      refine nat_ext fun i => ?_
      rw [Nat.zero_testBit]
      refine ⟨fun y => ?_, fun y => by cases y⟩
      have hi : i < 5 := Classical.byContradiction (fun w => by
        rw [Nat.testBit_lt_two_pow (Nat.lt_of_lt_of_le (show U < 2 ^ 5 from hU.1) (Nat.pow_le_pow_right (by omega) (by omega)))] at y
        cases y)
      obtain ⟨q, q1, q2⟩ := (hU.2 i hi).mp y
      refine absurd ⟨q, q1, fun w => ?_, fun w => ?_⟩ z
      · rw [q2] at w
        exact (n_eqneg (show i < 2 ^ 31 by omega) (by omega)).mp w
      · rw [eHH q q1, q2] at w
        exact (n_negeq (show i < 2 ^ 31 by omega) (by omega)).mp w
    · rintro z ⟨q, q1, q2, q3⟩
      rcases (P7 q q1).2.1 with w | ⟨v, hv, w⟩
      · exact q2 w
      · have := (hU.2 v (by omega)).mpr ⟨q, q1, w⟩
        rw [z, Nat.zero_testBit] at this
        cases this
  have c4 := cnt_le (c := dgt HH (σ.2.1 100)) pl
  rw [eG] at call
  generalize cnt (dgt HH (σ.2.1 100)) pl = k at eg c4 call
  have e0 : ∀ W, dyF W k 9 0 = if U = 0 then 0 else 1 := fun W => by
    have e : dyE W k 9 0 = 0 := cif_t (by rw [pop_0])
    unfold dyF
    rw [e, pop_0]
    by_cases c : U = 0
    · rw [if_pos c]
      have := eg.mpr c
      omega
    · rw [if_neg c]
      have : ¬ k ≤ 0 := fun z => c (eg.mp z)
      omega
  rw [e0] at call
  exact ⟨_, rfl, fun Q hQ => call Q (fun S _ => hQ S)⟩
end D7
