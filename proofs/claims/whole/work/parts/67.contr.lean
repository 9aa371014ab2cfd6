/-! THE CONTRACT: both readings of a text -/
def lt_ (x : Int32) : Option Nat := if x.toInt = 65 then some 0 else if x.toInt = 66 then some 1 else if x.toInt = 72 then some 2 else if x.toInt = 89 then some 3 else none
theorem lt_4 {x : Int32} {y : Nat} (h : lt_ x = some y) : y < 4 := by
  unfold lt_ at h
  split at h
  · cases h; omega
  · split at h
    · cases h; omega
    · split at h
      · cases h; omega
      · split at h
        · cases h; omega
        · cases h
abbrev CS : Type := (Nat → Int32) × Option Nat × Nat × Nat
def cst (x : Int32) (s : CS) : Option CS := match s with
  | (D, none, g, c) => (match lt_ x with
    | none => none
    | some y => if D y = -9 then some (upd D y 0, some y, g, c + 1) else none)
  | (D, some k, g, c) => if x = 59 then (if g = 0 ∨ 3 < c then none else some (D, none, 0, c)) else if (48 ≤ x ∧ x ≤ 57) ∧ ¬ (g = 3 ∨ (0 < g ∧ D k = 0)) then some (upd D k (10 * D k + (x - 48)), some k, g + 1, c) else none
def mst (x : Int32) (s : CS) : Option CS := match s with
  | (N, none, _, m) => (match lt_ x with
    | none => none
    | some y => if N y = -9 then some (N, some y, 0, m) else none)
  | (N, some k, g, m) => if 48 ≤ x ∧ x ≤ 57 then (if g = 3 ∨ (0 < g ∧ N k = 0) then none else some (upd N k ((if g = 0 then 0 else 10 * N k) + x - 48), some k, g + 1, m)) else if ¬ x = 59 ∨ g = 0 ∨ m = 3 then none else some (N, none, g, m + 1)
/-- so far: the place of the fault, or none -/
def cgo (st : Int32 → CS → Option CS) (f : Nat → Int32) : Nat → Nat → CS → Option Nat × CS
  | 0, _, s => (none, s)
  | d + 1, i, s => match st (f i) s with
    | none => (some i, s)
    | some s' => cgo st f d (i + 1) s'
/-- what both readings hold -/
def crel (s s' : CS) : Prop := s.2.1 = s'.2.1 ∧ (∀ k, s.2.1 = some k → k < 4) ∧ s.2.2.2 = cnt (fun j => s.1 j ≠ -9) 4 ∧
  (s.2.1 = none → s.2.2.1 = 0 ∧ s'.2.2.2 = s.2.2.2 ∧ ∀ j, j < 4 → s.1 j = s'.1 j) ∧
  (∀ k, s.2.1 = some k → s.2.2.1 = s'.2.2.1 ∧ s'.2.2.2 + 1 = s.2.2.2 ∧ (∀ j, j < 4 → j ≠ k → s.1 j = s'.1 j) ∧ s.2.2.1 ≤ 3 ∧ (∃ d : Nat, d < 10 ^ s.2.2.1 ∧ s.1 k = nI d) ∧ (s.2.2.1 = 0 → s'.1 k = -9) ∧ (0 < s.2.2.1 → s'.1 k = s.1 k)) ∧
  (∀ j, j < 4 → s.1 j = -9 ∨ zn (s.1 j) 999)
theorem cnt_upd {D : Nat → Int32} {y : Nat} {x : Int32} (hy : y < 4) (h : D y = -9) (hx : x ≠ -9) : cnt (fun j => upd D y x j ≠ -9) 4 = cnt (fun j => D j ≠ -9) 4 + 1 :=
  cnt_one (x := y) hy (fun z => z h) (by show upd D y x y ≠ -9; rw [pk_us]; exact hx) (fun j _ hne => by show upd D y x j ≠ -9 ↔ D j ≠ -9; rw [pk_un hne])
theorem cnt_upd2 {D : Nat → Int32} {y : Nat} {x : Int32} (h : D y ≠ -9) (hx : x ≠ -9) : cnt (fun j => upd D y x j ≠ -9) 4 = cnt (fun j => D j ≠ -9) 4 :=
  cnt_congr (fun j _ => by
    by_cases e : j = y
    · subst e; rw [pk_us]; exact ⟨fun _ => h, fun _ => hx⟩
    · rw [pk_un e])
theorem nI_n9 {d : Nat} (h : d < 2 ^ 31) : nI d ≠ -9 := fun z => by
  rw [n_l9, n_eqneg h (by omega)] at z
  exact z
theorem crel_st {s s' : CS} {x : Int32} (h : crel s s') : (cst x s = none ∧ mst x s' = none) ∨ ∃ t t', cst x s = some t ∧ mst x s' = some t' ∧ crel t t' := by
  obtain ⟨D, l, g, c⟩ := s
  obtain ⟨N, l', g', m⟩ := s'
  obtain ⟨h1, h2, h3, h4, h5, h6⟩ := h
  simp only at h1 h2 h3 h4 h5 h6
  subst h1
  cases l with
  | none =>
    obtain ⟨rfl, rfl, e⟩ := h4 rfl
    cases ht : lt_ x with
    | none => left; simp only [cst, mst, ht, and_self]
    | some y =>
      have hy := lt_4 ht
      by_cases q : D y = -9
      · have q' : N y = -9 := by rw [← e y hy]; exact q
        right
        refine ⟨(upd D y 0, some y, 0, m + 1), (N, some y, 0, m), by simp only [cst, ht, q, if_true], by simp only [mst, ht, q', if_true], rfl, fun k hk => by cases hk; exact hy, ?_, fun z => (by cases z), fun k hk => ?_, fun j hj => ?_⟩
        · show m + 1 = cnt (fun j => upd D y 0 j ≠ -9) 4
          rw [cnt_upd hy q (by decide), ← h3]
        · cases hk
          refine ⟨rfl, rfl, fun j hj hne => ?_, Nat.zero_le 3, ⟨0, (by show 0 < 10 ^ 0; decide), pk_us⟩, fun _ => q', fun z => absurd z (Nat.lt_irrefl 0)⟩
          show upd D y 0 j = N j
          rw [pk_un hne]
          exact e j hj
        · show upd D y 0 j = -9 ∨ zn (upd D y 0 j) 999
          by_cases e2 : j = y
          · subst e2; rw [pk_us]; exact Or.inr ⟨0, by omega, rfl⟩
          · rw [pk_un e2]; exact h6 j hj
      · have q' : ¬ N y = -9 := by rw [← e y hy]; exact q
        left
        simp only [cst, mst, ht, q, q', if_false, and_self]
  | some k =>
    have hk := h2 k rfl
    obtain ⟨rfl, hm, e, hg, ⟨d, d1, d2⟩, e0, e1⟩ := h5 k rfl
    have d3 : d < 1000 := Nat.lt_of_lt_of_le d1 (Nat.pow_le_pow_right (by omega) hg)
    by_cases c59 : x = 59
    · have hr : ¬ (48 ≤ x ∧ x ≤ 57) := by rw [c59]; decide
      by_cases q : g = 0 ∨ 3 < c
      · left
        have q2 : ¬ x = 59 ∨ g = 0 ∨ m = 3 := by
          have := cnt_le (c := fun j => D j ≠ -9) 4
          right
          omega
        refine ⟨?_, ?_⟩
        · show (if x = 59 then (if g = 0 ∨ 3 < c then none else some (D, none, 0, c)) else _) = none
          rw [if_pos c59, if_pos q]
        · show (if 48 ≤ x ∧ x ≤ 57 then _ else if ¬ x = 59 ∨ g = 0 ∨ m = 3 then none else some (N, none, g, m + 1)) = none
          rw [if_neg hr, if_pos q2]
      · have q2 : ¬ (¬ x = 59 ∨ g = 0 ∨ m = 3) := by
          intro z
          rcases z with z | z
          · exact z c59
          · omega
        right
        have hg0 : 0 < g := by omega
        refine ⟨(D, none, 0, c), (N, none, g, m + 1), ?_, ?_, rfl, fun k hk => (by cases hk), h3, fun _ => ⟨rfl, hm, fun j hj => ?_⟩, fun k hk => (by cases hk), h6⟩
        · show (if x = 59 then (if g = 0 ∨ 3 < c then none else some (D, none, 0, c)) else _) = _
          rw [if_pos c59, if_neg q]
        · show (if 48 ≤ x ∧ x ≤ 57 then _ else if ¬ x = 59 ∨ g = 0 ∨ m = 3 then none else some (N, none, g, m + 1)) = _
          rw [if_neg hr, if_neg q2]
        · by_cases e2 : j = k
          · subst e2; exact (e1 hg0).symm
          · exact e j hj e2
    · by_cases hr : 48 ≤ x ∧ x ≤ 57
      · have eqv : (g = 3 ∨ (0 < g ∧ D k = 0)) ↔ (g = 3 ∨ (0 < g ∧ N k = 0)) := by
          by_cases z : 0 < g
          · rw [e1 z]
          · simp only [z, false_and]
        by_cases q : g = 3 ∨ (0 < g ∧ D k = 0)
        · left
          have q2 := eqv.mp q
          refine ⟨?_, ?_⟩
          · show (if x = 59 then _ else if (48 ≤ x ∧ x ≤ 57) ∧ ¬ (g = 3 ∨ (0 < g ∧ D k = 0)) then some (upd D k (10 * D k + (x - 48)), some k, g + 1, c) else none) = none
            rw [if_neg c59, if_neg (fun z => z.2 q)]
          · show (if 48 ≤ x ∧ x ≤ 57 then (if g = 3 ∨ (0 < g ∧ N k = 0) then none else some (upd N k ((if g = 0 then 0 else 10 * N k) + x - 48), some k, g + 1, m)) else if ¬ x = 59 ∨ g = 0 ∨ m = 3 then none else _) = none
            rw [if_pos hr, if_pos q2]
        · right
          have q2 : ¬ (g = 3 ∨ (0 < g ∧ N k = 0)) := fun z => q (eqv.mpr z)
          have hr' := hr
          rw [n_l48, n_l57] at hr'
          obtain ⟨x', x1, x2, rfl⟩ : ∃ x', 48 ≤ x' ∧ x' ≤ 57 ∧ x = nI x' := by
            rcases n_btw x (a := 48) (b := 57) (by omega) (by omega) with z | z
            · exact z
            · rw [z] at hr'; exact hr'.elim
          have ev : 10 * D k + (nI x' - 48) = nI (10 * d + (x' - 48)) := by
            rw [d2, n_l10, n_l48, pk_mul, pk_sub x1, nI_add]
          have ev2 : (if g = 0 then 0 else 10 * N k) + nI x' - 48 = nI (10 * d + (x' - 48)) := by
            by_cases z : g = 0
            · subst z
              have : d = 0 := by
                simp at d1
                exact d1
              subst this
              rw [if_pos rfl, n_l0, n_l48, nI_add, pk_sub (by omega)]
              congr 1
              omega
            · rw [if_neg z, e1 (by omega), d2, n_l10, n_l48, pk_mul, nI_add, pk_sub (by omega)]
              congr 1
              omega
          have hp : 10 * d + (x' - 48) < 10 ^ (g + 1) := by
            rw [Nat.pow_succ]
            omega
          have hg3 : g + 1 ≤ 3 := by omega
          have hp3 : 10 * d + (x' - 48) < 1000 := Nat.lt_of_lt_of_le hp (Nat.pow_le_pow_right (by omega) hg3)
          refine ⟨(upd D k (nI (10 * d + (x' - 48))), some k, g + 1, c), (upd N k (nI (10 * d + (x' - 48))), some k, g + 1, m), ?_, ?_, rfl, fun j hj => by cases hj; exact hk, ?_, fun z => (by cases z), fun j hj => ?_, fun j hj => ?_⟩
          · show (if nI x' = 59 then _ else if (48 ≤ nI x' ∧ nI x' ≤ 57) ∧ ¬ (g = 3 ∨ (0 < g ∧ D k = 0)) then some (upd D k (10 * D k + (nI x' - 48)), some k, g + 1, c) else none) = _
            rw [if_neg c59, if_pos ⟨hr, q⟩, ev]
          · show (if 48 ≤ nI x' ∧ nI x' ≤ 57 then (if g = 3 ∨ (0 < g ∧ N k = 0) then none else some (upd N k ((if g = 0 then 0 else 10 * N k) + nI x' - 48), some k, g + 1, m)) else if ¬ nI x' = 59 ∨ g = 0 ∨ m = 3 then none else _) = _
            rw [if_pos hr, if_neg q2, ev2]
          · show c = cnt (fun j => upd D k (nI (10 * d + (x' - 48))) j ≠ -9) 4
            rw [cnt_upd2 (by rw [d2]; exact nI_n9 (by omega)) (nI_n9 (by omega))]
            exact h3
          · cases hj
            refine ⟨rfl, hm, fun j hj hne => ?_, hg3, ⟨_, hp, pk_us⟩, fun z => absurd z (Nat.succ_ne_zero g), fun _ => ?_⟩
            · show upd D k (nI (10 * d + (x' - 48))) j = upd N k (nI (10 * d + (x' - 48))) j
              rw [pk_un hne, pk_un hne]
              exact e j hj hne
            · show upd N k (nI (10 * d + (x' - 48))) k = upd D k (nI (10 * d + (x' - 48))) k
              rw [pk_us, pk_us]
          · show upd D k (nI (10 * d + (x' - 48))) j = -9 ∨ zn (upd D k (nI (10 * d + (x' - 48))) j) 999
            by_cases e2 : j = k
            · subst e2; rw [pk_us]; exact Or.inr ⟨_, by omega, rfl⟩
            · rw [pk_un e2]; exact h6 j hj
      · left
        have q2 : ¬ x = 59 ∨ g = 0 ∨ m = 3 := Or.inl c59
        refine ⟨?_, ?_⟩
        · show (if x = 59 then _ else if (48 ≤ x ∧ x ≤ 57) ∧ ¬ (g = 3 ∨ (0 < g ∧ D k = 0)) then some (upd D k (10 * D k + (x - 48)), some k, g + 1, c) else none) = none
          rw [if_neg c59, if_neg (fun z => hr z.1)]
        · show (if 48 ≤ x ∧ x ≤ 57 then (if g = 3 ∨ (0 < g ∧ N k = 0) then none else some (upd N k ((if g = 0 then 0 else 10 * N k) + x - 48), some k, g + 1, m)) else if ¬ x = 59 ∨ g = 0 ∨ m = 3 then none else _) = none
          rw [if_neg hr, if_pos q2]
theorem crel_go {f g : Nat → Int32} : ∀ {d i : Nat} {s s' : CS}, (∀ j, i ≤ j → j < i + d → f j = g j) → crel s s' → (cgo cst f d i s).1 = (cgo mst g d i s').1 ∧ crel (cgo cst f d i s).2 (cgo mst g d i s').2
  | 0, _, _, _, _, h => ⟨rfl, h⟩
  | d + 1, i, s, s', hf, h => by
    have e := hf i (Nat.le_refl i) (by omega)
    rcases crel_st (x := f i) h with ⟨a, b⟩ | ⟨t, t', a, b, c⟩
    · rw [e] at b
      unfold cgo
      rw [a, b]
      exact ⟨rfl, h⟩
    · rw [e] at b
      unfold cgo
      rw [a, b]
      exact crel_go (d := d) (i := i + 1) (fun j h1 h2 => hf j (by omega) (by omega)) c
