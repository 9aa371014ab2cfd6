/-! risks: choices for the free, ways for all -/
theorem nx_none {c : Nat → Prop} {F : Nat → Int32} : ∀ {n : Nat}, nx c F n = none → ∀ j, j < n → ¬ c j
  | 0, _, j, h => absurd h (Nat.not_lt_zero j)
  | n + 1, h, j, hj => by
    cases e : nx c F n with
    | none =>
      by_cases q : c n
      · rw [nx_t q (fun k hk => by rw [e] at hk; cases hk)] at h
        cases h
      · by_cases z : j = n
        · subst z; exact q
        · exact nx_none e j (by omega)
    | some k =>
      by_cases q : c n
      · by_cases q2 : F k ≤ F n
        · rw [nx_f2 e q2, e] at h
          cases h
        · rw [nx_t q (fun k' hk => by rw [e] at hk; cases hk; exact q2)] at h
          cases h
      · rw [nx_f q, e] at h
        cases h
theorem nx_spec {c : Nat → Prop} {F : Nat → Int32} {k : Nat} : ∀ {n : Nat}, nx c F n = some k → k < n ∧ c k ∧ (∀ j, j < n → c j → F k ≤ F j) ∧ ∀ j, j < k → c j → ¬ F j ≤ F k
  | 0, h => by cases h
  | n + 1, h => by
    cases e : nx c F n with
    | none =>
      have hn := nx_none e
      by_cases q : c n
      · rw [nx_t q (fun k hk => by rw [e] at hk; cases hk)] at h
        cases h
        refine ⟨by omega, q, fun j hj cj => ?_, fun j hj cj => absurd cj (hn j hj)⟩
        by_cases z : j = k
        · subst z; exact Int32.le_refl _
        · exact absurd cj (hn j (by omega))
      · rw [nx_f q, e] at h
        cases h
    | some k' =>
      obtain ⟨a1, a2, a3, a4⟩ := nx_spec e
      by_cases q : c n
      · by_cases q2 : F k' ≤ F n
        · rw [nx_f2 e q2, e] at h
          cases h
          refine ⟨by omega, a2, fun j hj cj => ?_, a4⟩
          by_cases z : j = n
          · subst z; exact q2
          · exact a3 j (by omega) cj
        · rw [nx_t q (fun k'' hk => by rw [e] at hk; cases hk; exact q2)] at h
          cases h
          refine ⟨by omega, q, fun j hj cj => ?_, fun j hj cj z => q2 (Int32.le_trans (a3 j hj cj) z)⟩
          by_cases z : j = k
          · subst z; exact Int32.le_refl _
          · exact Int32.le_trans (Int32.le_of_lt (Int32.not_le.mp q2)) (a3 j (by omega) cj)
      · rw [nx_f q, e] at h
        cases h
        refine ⟨by omega, a2, fun j hj cj => ?_, a4⟩
        by_cases z : j = n
        · subst z; exact absurd cj q
        · exact a3 j (by omega) cj
theorem nx_uniq {c : Nat → Prop} {F : Nat → Int32} {k n : Nat} (h1 : k < n) (h2 : c k) (h3 : ∀ j, j < n → c j → F k ≤ F j) (h4 : ∀ j, j < k → c j → ¬ F j ≤ F k) : nx c F n = some k := by
  cases e : nx c F n with
  | none => exact absurd h2 (nx_none e k h1)
  | some k' =>
    obtain ⟨a1, a2, a3, a4⟩ := nx_spec e
    by_cases q : k' < k
    · exact absurd (a3 k h1 h2) (h4 k' q a2)
    · by_cases q' : k < k'
      · exact absurd (h3 k' a1 a2) (a4 k q' h2)
      · exact congrArg some (by omega)
theorem nx_map {c : Nat → Prop} {F F' : Nat → Int32} {ins : Nat → Nat} {nf nm : Nat} (h0 : 0 < nf) (hc : ∀ w, w < nm → (c w ↔ ∃ a, a < nf ∧ ins a = w)) (hl : ∀ a, a < nf → ins a < nm) (hm : ∀ a b, a < b → b < nf → ins a < ins b) (hF : ∀ a, a < nf → F (ins a) = F' a) : ∃ k, k < nf ∧ nx (fun _ => True) F' nf = some k ∧ nx c F nm = some (ins k) := by
  cases e : nx (fun _ => True) F' nf with
  | none => exact absurd trivial (nx_none e 0 h0)
  | some k =>
    obtain ⟨a1, a2, a3, a4⟩ := nx_spec e
    refine ⟨k, a1, rfl, nx_uniq (hl k a1) ((hc _ (hl k a1)).mpr ⟨k, a1, rfl⟩) ?_ ?_⟩
    · intro j hj cj
      obtain ⟨a, b1, rfl⟩ := (hc j hj).mp cj
      rw [hF k a1, hF a b1]
      exact a3 a b1 trivial
    · intro j hj cj
      obtain ⟨a, b1, rfl⟩ := (hc j (by have := hl k a1; omega)).mp cj
      rw [hF k a1, hF a b1]
      refine a4 a ?_ trivial
      refine Nat.not_le.mp (fun q => ?_)
      by_cases z : a = k
      · subst z; omega
      · have := hm k a (by omega) b1
        omega
/-- a sum over some -/
noncomputable def sX (c : Nat → Prop) (X : Nat → Nat) : Nat → Nat
  | 0 => 0
  | j + 1 => sX c X j + cif (c j) (X j) 0
theorem sX_t {c : Nat → Prop} {X : Nat → Nat} {j : Nat} (h : c j) : sX c X (j + 1) = sX c X j + X j := congrArg (sX c X j + ·) (cif_t h)
theorem sX_f {c : Nat → Prop} {X : Nat → Nat} {j : Nat} (h : ¬ c j) : sX c X (j + 1) = sX c X j := (congrArg (sX c X j + ·) (cif_f h)).trans (Nat.add_zero _)
theorem sX_congr {c d : Nat → Prop} {X : Nat → Nat} : ∀ {n : Nat}, (∀ j, j < n → (c j ↔ d j)) → sX c X n = sX d X n
  | 0, _ => rfl
  | n + 1, h => by
    have ih := sX_congr (X := X) (fun j hj => h j (by omega) : ∀ j, j < n → (c j ↔ d j))
    by_cases q : c n
    · rw [sX_t q, sX_t ((h n (by omega)).mp q), ih]
    · rw [sX_f q, sX_f (fun z => q ((h n (by omega)).mpr z)), ih]
theorem sX_le {c : Nat → Prop} {X : Nat → Nat} {B : Nat} : ∀ {n : Nat}, (∀ j, j < n → X j ≤ B) → sX c X n ≤ n * B
  | 0, _ => Nat.zero_le _
  | n + 1, h => by
    have ih := sX_le (c := c) (fun j hj => h j (by omega) : ∀ j, j < n → X j ≤ B)
    have := h n (by omega)
    rw [Nat.succ_mul]
    by_cases q : c n
    · rw [sX_t q]; omega
    · rw [sX_f q]; omega
section IN
variable (P X : Nat → Nat)
noncomputable def frn (k : Nat) : Nat := cnt (fun j => P j = 2) k
noncomputable def ins : Nat → Nat → Nat
  | 0, _ => 0
  | k + 1, c => cif (P k = 2) (cif (c < 2 ^ frn P k) (ins k c) (ins k (c - 2 ^ frn P k) + 2 ^ k)) (cif (P k = 1) (ins k c + 2 ^ k) (ins k c))
noncomputable def ldn (c k : Nat) : Nat := sX (fun j => P j = 2 ∧ c.testBit (frn P j) = true) X k
variable {P X}
theorem frn_t {k : Nat} (h : P k = 2) : frn P (k + 1) = frn P k + 1 := cnt_t (c := fun j => P j = 2) h
theorem frn_f {k : Nat} (h : ¬ P k = 2) : frn P (k + 1) = frn P k := cnt_f (c := fun j => P j = 2) h
theorem frn_le {j : Nat} : ∀ {k : Nat}, j ≤ k → frn P j ≤ frn P k
  | 0, h => by rw [show j = 0 by omega]; exact Nat.le_refl _
  | k + 1, h => by
    by_cases z : j = k + 1
    · subst z; exact Nat.le_refl _
    · have ih := frn_le (show j ≤ k by omega)
      by_cases q : P k = 2
      · rw [frn_t q]; omega
      · rw [frn_f q]; exact ih
theorem frn_lt {j k : Nat} (h : j < k) (q : P j = 2) : frn P j < frn P k := by
  have := frn_le (P := P) (show j + 1 ≤ k from h)
  rw [frn_t q] at this
  omega
theorem ins_2l {k c : Nat} (h : P k = 2) (q : c < 2 ^ frn P k) : ins P (k + 1) c = ins P k c := (cif_t h).trans (cif_t q)
theorem ins_2h {k c : Nat} (h : P k = 2) (q : ¬ c < 2 ^ frn P k) : ins P (k + 1) c = ins P k (c - 2 ^ frn P k) + 2 ^ k := (cif_t h).trans (cif_f q)
theorem ins_1 {k c : Nat} (h : P k = 1) : ins P (k + 1) c = ins P k c + 2 ^ k := (cif_f (by omega)).trans (cif_t h)
theorem ins_0 {k c : Nat} (h : ¬ P k = 2) (h1 : ¬ P k = 1) : ins P (k + 1) c = ins P k c := (cif_f h).trans (cif_f h1)
theorem tb_add {r k j : Nat} (hr : r < 2 ^ k) : (r + 2 ^ k).testBit j = true ↔ j = k ∨ (j < k ∧ r.testBit j = true) := by
  rw [Nat.add_comm]
  by_cases z : j = k
  · subst z
    rw [Nat.testBit_two_pow_add_eq, Nat.testBit_lt_two_pow hr]
    exact ⟨fun _ => Or.inl rfl, fun _ => rfl⟩
  · by_cases q : j < k
    · rw [Nat.testBit_two_pow_add_gt q]
      exact ⟨fun w => Or.inr ⟨q, w⟩, fun w => w.elim (fun e => absurd e z) (fun e => e.2)⟩
    · have : 2 ^ k + r < 2 ^ j := by
        have : 2 ^ (k + 1) ≤ 2 ^ j := Nat.pow_le_pow_right (by omega) (by omega)
        rw [Nat.pow_succ] at this
        omega
      rw [Nat.testBit_lt_two_pow this]
      exact ⟨fun w => (by cases w), fun w => w.elim (fun e => absurd e z) (fun e => absurd e.1 q)⟩
theorem ins_lt : ∀ k c, c < 2 ^ frn P k → ins P k c < 2 ^ k
  | 0, c, _ => by show 0 < 1; omega
  | k + 1, c, h => by
    have e : 2 ^ (k + 1) = 2 ^ k + 2 ^ k := by rw [Nat.pow_succ]; omega
    by_cases q : P k = 2
    · rw [frn_t q, Nat.pow_succ] at h
      by_cases q2 : c < 2 ^ frn P k
      · rw [ins_2l q q2]
        have := ins_lt k c q2
        omega
      · rw [ins_2h q q2]
        have := ins_lt k (c - 2 ^ frn P k) (by omega)
        omega
    · rw [frn_f q] at h
      have := ins_lt k c h
      by_cases q2 : P k = 1
      · rw [ins_1 q2]; omega
      · rw [ins_0 q q2]; omega
theorem ins_mono : ∀ k a b, a < b → b < 2 ^ frn P k → ins P k a < ins P k b
  | 0, a, b, h, h2 => by
    have : frn P 0 = 0 := rfl
    rw [this] at h2
    omega
  | k + 1, a, b, h, h2 => by
    by_cases q : P k = 2
    · rw [frn_t q, Nat.pow_succ] at h2
      by_cases qb : b < 2 ^ frn P k
      · rw [ins_2l q qb, ins_2l q (show a < 2 ^ frn P k by omega)]
        exact ins_mono k a b h qb
      · rw [ins_2h q qb]
        by_cases qa : a < 2 ^ frn P k
        · rw [ins_2l q qa]
          have := ins_lt k a qa
          omega
        · rw [ins_2h q qa]
          have := ins_mono k (a - 2 ^ frn P k) (b - 2 ^ frn P k) (by omega) (by omega)
          omega
    · rw [frn_f q] at h2
      have := ins_mono k a b h h2
      by_cases q2 : P k = 1
      · rw [ins_1 q2, ins_1 q2]; omega
      · rw [ins_0 q q2, ins_0 q q2]; omega
theorem ins_bit : ∀ k c, c < 2 ^ frn P k → ∀ j, j < k → ((ins P k c).testBit j = true ↔ P j = 1 ∨ (P j = 2 ∧ c.testBit (frn P j) = true))
  | 0, _, _, j, hj => absurd hj (Nat.not_lt_zero j)
  | k + 1, c, h, j, hj => by
    by_cases q : P k = 2
    · rw [frn_t q, Nat.pow_succ] at h
      by_cases q2 : c < 2 ^ frn P k
      · rw [ins_2l q q2]
        by_cases z : j = k
        · subst z
          rw [Nat.testBit_lt_two_pow (ins_lt _ c q2), Nat.testBit_lt_two_pow q2]
          constructor
          · intro w; cases w
          · rintro (w | ⟨_, w⟩)
            · omega
            · cases w
        · exact ins_bit k c q2 j (by omega)
      · have hr : c - 2 ^ frn P k < 2 ^ frn P k := by omega
        rw [ins_2h q q2, tb_add (ins_lt k _ hr)]
        have hc : ∀ i, c.testBit i = true ↔ i = frn P k ∨ (i < frn P k ∧ (c - 2 ^ frn P k).testBit i = true) := fun i => by
          have := tb_add (j := i) hr
          rw [show c - 2 ^ frn P k + 2 ^ frn P k = c by omega] at this
          exact this
        by_cases z : j = k
        · subst z
          exact ⟨fun _ => Or.inr ⟨q, (hc _).mpr (Or.inl rfl)⟩, fun _ => Or.inl rfl⟩
        · have ih := ins_bit k _ hr j (by omega)
          rw [ih, hc]
          constructor
          · rintro (w | ⟨_, w | ⟨w1, w2⟩⟩)
            · exact absurd w z
            · exact Or.inl w
            · exact Or.inr ⟨w1, Or.inr ⟨frn_lt (by omega) w1, w2⟩⟩
          · rintro (w | ⟨w1, w2 | w2⟩)
            · exact Or.inr ⟨by omega, Or.inl w⟩
            · have := frn_lt (P := P) (show j < k by omega) w1
              omega
            · exact Or.inr ⟨by omega, Or.inr ⟨w1, w2.2⟩⟩
    · rw [frn_f q] at h
      by_cases q2 : P k = 1
      · rw [ins_1 q2, tb_add (ins_lt k c h)]
        by_cases z : j = k
        · subst z
          exact ⟨fun _ => Or.inl q2, fun _ => Or.inl rfl⟩
        · rw [ins_bit k c h j (by omega)]
          exact ⟨fun w => w.elim (fun e => absurd e z) (fun e => e.2), fun w => Or.inr ⟨by omega, w⟩⟩
      · rw [ins_0 q q2]
        by_cases z : j = k
        · subst z
          rw [Nat.testBit_lt_two_pow (ins_lt _ c h)]
          constructor
          · intro w; cases w
          · rintro (w | ⟨w, _⟩)
            · exact absurd w q2
            · exact absurd w q
        · exact ins_bit k c h j (by omega)
theorem ins_sur : ∀ k w, w < 2 ^ k → (∀ j, j < k → (P j = 0 → ¬ w.testBit j = true) ∧ (P j = 1 → w.testBit j = true) ∧ P j ≤ 2) → ∃ c, c < 2 ^ frn P k ∧ ins P k c = w
  | 0, w, h, _ => ⟨0, by show 0 < 1; omega, by show 0 = w; have : (2 : Nat) ^ 0 = 1 := rfl; omega⟩
  | k + 1, w, h, hw => by
    obtain ⟨p0, p1, p2⟩ := hw k (by omega)
    rw [Nat.pow_succ] at h
    by_cases q : w < 2 ^ k
    · obtain ⟨c, c1, c2⟩ := ins_sur k w q (fun j hj => hw j (by omega))
      have hb : ¬ w.testBit k = true := by rw [Nat.testBit_lt_two_pow q]; intro z; cases z
      by_cases r : P k = 2
      · refine ⟨c, ?_, (ins_2l r c1).trans c2⟩
        rw [frn_t r, Nat.pow_succ]; omega
      · refine ⟨c, ?_, (ins_0 r (fun z => hb (p1 z))).trans c2⟩
        rw [frn_f r]; exact c1
    · have hr : w - 2 ^ k < 2 ^ k := by omega
      have hb : ∀ j, w.testBit j = true ↔ j = k ∨ (j < k ∧ (w - 2 ^ k).testBit j = true) := fun j => by
        have := tb_add (j := j) hr
        rw [show w - 2 ^ k + 2 ^ k = w by omega] at this
        exact this
      obtain ⟨c, c1, c2⟩ := ins_sur k (w - 2 ^ k) hr (fun j hj => by
        obtain ⟨a, b, d⟩ := hw j (by omega)
        refine ⟨fun z y => a z ((hb j).mpr (Or.inr ⟨hj, y⟩)), fun z => ?_, d⟩
        rcases (hb j).mp (b z) with y | y
        · omega
        · exact y.2)
      by_cases r : P k = 2
      · refine ⟨c + 2 ^ frn P k, ?_, ?_⟩
        · rw [frn_t r, Nat.pow_succ]; omega
        · rw [ins_2h r (by omega), show c + 2 ^ frn P k - 2 ^ frn P k = c by omega, c2]
          omega
      · have r1 : P k = 1 := by
          have : ¬ P k = 0 := fun z => p0 z ((hb k).mpr (Or.inl rfl))
          omega
        refine ⟨c, ?_, ?_⟩
        · rw [frn_f r]; exact c1
        · rw [ins_1 r1, c2]
          omega
theorem ldn_f {c k : Nat} (h : ¬ P k = 2) : ldn P X c (k + 1) = ldn P X c k := sX_f (fun z => h z.1)
theorem ldn_l {c k : Nat} (q : c < 2 ^ frn P k) : ldn P X c (k + 1) = ldn P X c k := sX_f (fun z => by
  have := z.2
  rw [Nat.testBit_lt_two_pow q] at this
  cases this)
theorem ldn_h {c k : Nat} (h : P k = 2) (q : c < 2 ^ frn P k) : ldn P X (c + 2 ^ frn P k) (k + 1) = ldn P X c k + X k := by
  unfold ldn
  rw [sX_t ⟨h, (tb_add q).mpr (Or.inl rfl)⟩]
  congr 1
  refine sX_congr (fun j hj => ?_)
  rw [tb_add q]
  constructor
  · rintro ⟨w, y | y⟩
    · have := frn_lt (P := P) hj w
      omega
    · exact ⟨w, y.2⟩
  · rintro ⟨w, y⟩
    exact ⟨w, Or.inr ⟨frn_lt hj w, y⟩⟩
theorem risk_1 {w c : Nat} : ∀ {k : Nat}, (∀ j, j < k → (w.testBit j = true ↔ P j = 1 ∨ (P j = 2 ∧ c.testBit (frn P j) = true))) → sX (fun j => w.testBit j = true) X k = sX (fun j => P j = 1) X k + ldn P X c k
  | 0, _ => rfl
  | k + 1, h => by
    have ih := risk_1 (fun j hj => h j (by omega) : ∀ j, j < k → _)
    have hk := h k (by omega)
    by_cases q1 : P k = 1
    · rw [sX_t (c := fun j => w.testBit j = true) (hk.mpr (Or.inl q1)), sX_t (c := fun j => P j = 1) q1, ldn_f (by omega), ih]
      omega
    · by_cases q2 : P k = 2 ∧ c.testBit (frn P k) = true
      · unfold ldn at ih ⊢
        rw [sX_t (c := fun j => w.testBit j = true) (hk.mpr (Or.inr q2)), sX_f (c := fun j => P j = 1) q1, sX_t (c := fun j => P j = 2 ∧ c.testBit (frn P j) = true) q2, ih]
        omega
      · unfold ldn at ih ⊢
        rw [sX_f (c := fun j => w.testBit j = true) (fun z => (hk.mp z).elim q1 q2), sX_f (c := fun j => P j = 1) q1, sX_f (c := fun j => P j = 2 ∧ c.testBit (frn P j) = true) q2, ih]
theorem risk_0 {w c : Nat} : ∀ {k : Nat}, (∀ j, j < k → P j ≤ 2) → (∀ j, j < k → (w.testBit j = true ↔ P j = 1 ∨ (P j = 2 ∧ c.testBit (frn P j) = true))) → sX (fun j => ¬ w.testBit j = true) X k + ldn P X c k = sX (fun j => P j = 0) X k + sX (fun j => P j = 2) X k
  | 0, _, _ => rfl
  | k + 1, hp, h => by
    have ih := risk_0 (fun j hj => hp j (by omega)) (fun j hj => h j (by omega) : ∀ j, j < k → _)
    have hk := h k (by omega)
    have hpk := hp k (by omega)
    by_cases q1 : P k = 1
    · rw [sX_f (c := fun j => ¬ w.testBit j = true) (fun z => z (hk.mpr (Or.inl q1))), sX_f (c := fun j => P j = 0) (by omega), sX_f (c := fun j => P j = 2) (by omega), ldn_f (by omega), ih]
    · by_cases q0 : P k = 0
      · rw [sX_t (c := fun j => ¬ w.testBit j = true) (fun z => (hk.mp z).elim q1 (fun y => by omega)), sX_t (c := fun j => P j = 0) q0, sX_f (c := fun j => P j = 2) (by omega), ldn_f (by omega)]
        omega
      · have q2 : P k = 2 := by omega
        unfold ldn at ih ⊢
        by_cases q3 : c.testBit (frn P k) = true
        · rw [sX_f (c := fun j => ¬ w.testBit j = true) (fun z => z (hk.mpr (Or.inr ⟨q2, q3⟩))), sX_f (c := fun j => P j = 0) q0, sX_t (c := fun j => P j = 2) q2, sX_t (c := fun j => P j = 2 ∧ c.testBit (frn P j) = true) ⟨q2, q3⟩]
          omega
        · rw [sX_t (c := fun j => ¬ w.testBit j = true) (fun z => (hk.mp z).elim q1 (fun y => q3 y.2)), sX_f (c := fun j => P j = 0) q0, sX_t (c := fun j => P j = 2) q2, sX_f (c := fun j => P j = 2 ∧ c.testBit (frn P j) = true) (fun z => q3 z.2)]
          omega
end IN
