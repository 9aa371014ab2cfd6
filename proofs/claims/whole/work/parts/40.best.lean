/-! THE BEST LENDING, as numbers: rows of violins (10: none), the first of the greatest sum -/
def bl_val (t : Nat → Nat → Nat) (p v : Nat) : Nat := if v = 10 then 0 else t p v
def bl_sum (t : Nat → Nat → Nat) (r : Nat → Nat) : Nat → Nat
  | 0 => 0
  | n + 1 => bl_sum t r n + bl_val t n (r n)
def bl_ok (np nv : Nat) (t : Nat → Nat → Nat) (r : Nat → Nat) : Prop := (∀ p, p < np → r p = 10 ∨ (r p < nv ∧ 0 < t p (r p))) ∧ (∀ p q, p < np → q < np → p ≠ q → r p ≠ 10 → r p ≠ r q)
def bl_less (np : Nat) (r r' : Nat → Nat) : Prop := ∃ p, p < np ∧ r p < r' p ∧ ∀ q, q < p → r q = r' q
def bl_best (np nv : Nat) (t : Nat → Nat → Nat) (r : Nat → Nat) : Prop := bl_ok np nv t r ∧ ∀ r', bl_ok np nv t r' → bl_sum t r' np ≤ bl_sum t r np ∧ (bl_sum t r' np = bl_sum t r np → ¬ bl_less np r' r)
theorem bl_uniq {np nv : Nat} {t : Nat → Nat → Nat} {r r' : Nat → Nat} (h : bl_best np nv t r) (h' : bl_best np nv t r') : bl_sum t r np = bl_sum t r' np ∧ ∀ p, p < np → r p = r' p := by
  have e : bl_sum t r np = bl_sum t r' np := Nat.le_antisymm (h'.2 r h.1).1 (h.2 r' h'.1).1
  refine ⟨e, ?_⟩
  have s := fst_spec (c := fun p => r p ≠ r' p) np
  by_cases q : fst (fun p => r p ≠ r' p) np < np
  · have d := s.2 q
    have eq : ∀ j, j < fst (fun p => r p ≠ r' p) np → r j = r' j := fun j hj => Classical.byContradiction (s.1 j hj)
    rcases Nat.lt_or_gt_of_ne d with l | l
    · exact absurd ⟨_, q, l, eq⟩ ((h'.2 r h.1).2 e)
    · exact absurd ⟨_, q, l, fun j hj => (eq j hj).symm⟩ ((h.2 r' h'.1).2 e.symm)
  · intro p hp
    exact Classical.byContradiction (s.1 p (by omega))
/-- the table of what is left -/
noncomputable def bl_st (t : Nat → Nat → Nat) (p g : Nat) (N : Nat → Nat) : Nat → Nat
  | 0 => N g
  | v + 1 => if g.testBit v = false ∧ 0 < t p v then max (bl_st t p g N v) (t p v + N (g ||| 2 ^ v)) else bl_st t p g N v
noncomputable def bl_M (np nv : Nat) (t : Nat → Nat → Nat) : Nat → Nat → Nat
  | 0, _ => 0
  | d + 1, g => bl_st t (np - (d + 1)) g (bl_M np nv t d) nv
theorem bl_st_ge {t : Nat → Nat → Nat} {p g : Nat} {N : Nat → Nat} : ∀ {n : Nat}, N g ≤ bl_st t p g N n
  | 0 => Nat.le_refl _
  | n + 1 => by
    unfold bl_st
    have := bl_st_ge (t := t) (p := p) (g := g) (N := N) (n := n)
    split <;> omega
theorem bl_st_up {t : Nat → Nat → Nat} {p g : Nat} {N : Nat → Nat} : ∀ {n : Nat} {v : Nat}, v < n → g.testBit v = false → 0 < t p v → t p v + N (g ||| 2 ^ v) ≤ bl_st t p g N n
  | 0, _, h, _, _ => absurd h (Nat.not_lt_zero _)
  | n + 1, v, h, a, b => by
    unfold bl_st
    by_cases q : v = n
    · subst q
      rw [if_pos ⟨a, b⟩]
      omega
    · have := bl_st_up (t := t) (p := p) (g := g) (N := N) (n := n) (v := v) (by omega) a b
      split <;> omega
theorem bl_st_is {t : Nat → Nat → Nat} {p g : Nat} {N : Nat → Nat} : ∀ {n : Nat}, bl_st t p g N n = N g ∨ ∃ v, v < n ∧ g.testBit v = false ∧ 0 < t p v ∧ t p v + N (g ||| 2 ^ v) = bl_st t p g N n
  | 0 => Or.inl rfl
  | n + 1 => by
    unfold bl_st
    have ih := bl_st_is (t := t) (p := p) (g := g) (N := N) (n := n)
    split
    · rename_i h
      by_cases q : bl_st t p g N n ≤ t p n + N (g ||| 2 ^ n)
      · right
        exact ⟨n, by omega, h.1, h.2, by omega⟩
      · rw [Nat.max_eq_left (by omega)]
        rcases ih with ih | ⟨v, a, b⟩
        · exact Or.inl ih
        · exact Or.inr ⟨v, by omega, b⟩
    · rcases ih with ih | ⟨v, a, b⟩
      · exact Or.inl ih
      · exact Or.inr ⟨v, by omega, b⟩
def bl_suf (np : Nat) (t : Nat → Nat → Nat) (r : Nat → Nat) : Nat → Nat
  | 0 => 0
  | d + 1 => bl_val t (np - (d + 1)) (r (np - (d + 1))) + bl_suf np t r d
theorem bl_split {np : Nat} {t : Nat → Nat → Nat} {r : Nat → Nat} : ∀ {d : Nat}, d ≤ np → bl_sum t r np = bl_sum t r (np - d) + bl_suf np t r d
  | 0, _ => by simp [bl_suf]
  | d + 1, h => by
    have ih := bl_split (np := np) (t := t) (r := r) (d := d) (by omega)
    have e : np - d = (np - (d + 1)) + 1 := by omega
    rw [ih, e]
    simp only [bl_sum, bl_suf]
    omega
theorem bl_tb {g v w : Nat} : (g ||| 2 ^ v).testBit w = (g.testBit w || decide (v = w)) := by
  rw [Nat.testBit_or, Nat.testBit_two_pow]
theorem bl_up {np nv : Nat} {t : Nat → Nat → Nat} {r : Nat → Nat} (ok : bl_ok np nv t r) : ∀ {d : Nat} {g : Nat}, d ≤ np → (∀ p, np - d ≤ p → p < np → r p ≠ 10 → g.testBit (r p) = false) → bl_suf np t r d ≤ bl_M np nv t d g
  | 0, _, _, _ => Nat.le_refl _
  | d + 1, g, h, hg => by
    unfold bl_suf bl_M
    have hp : np - (d + 1) < np := by omega
    rcases ok.1 _ hp with e | ⟨e1, e2⟩
    · rw [e]
      have ih := bl_up ok (d := d) (g := g) (by omega) (fun p a b c => hg p (by omega) b c)
      have := bl_st_ge (t := t) (p := np - (d + 1)) (g := g) (N := bl_M np nv t d) (n := nv)
      simp only [bl_val, if_true]
      omega
    · by_cases e10 : r (np - (d + 1)) = 10
      · rw [e10]
        have ih := bl_up ok (d := d) (g := g) (by omega) (fun p a b c => hg p (by omega) b c)
        have := bl_st_ge (t := t) (p := np - (d + 1)) (g := g) (N := bl_M np nv t d) (n := nv)
        simp only [bl_val, if_true]
        omega
      · have ih := bl_up ok (d := d) (g := g ||| 2 ^ (r (np - (d + 1)))) (by omega) (fun p a b c => by
          rw [bl_tb, hg p (by omega) b c]
          simp only [Bool.false_or, decide_eq_false_iff_not]
          exact ok.2 _ _ hp b (by omega) e10)
        have := bl_st_up (t := t) (p := np - (d + 1)) (g := g) (N := bl_M np nv t d) (n := nv) e1 (hg _ (Nat.le_refl _) hp e10) e2
        simp only [bl_val, if_neg e10]
        omega
/-- the choice: the first violin with which the sum is still the greatest -/
noncomputable def bl_c (np nv : Nat) (t : Nat → Nat → Nat) (p g v : Nat) : Prop := g.testBit v = false ∧ 0 < t p v ∧ t p v + bl_M np nv t (np - p - 1) (g ||| 2 ^ v) = bl_M np nv t (np - p) g
noncomputable def bl_ch (np nv : Nat) (t : Nat → Nat → Nat) (p g : Nat) : Nat := if fst (bl_c np nv t p g) nv < nv then fst (bl_c np nv t p g) nv else 10
def bl_add (g v : Nat) : Nat := if v = 10 then g else g ||| 2 ^ v
noncomputable def bl_g (np nv : Nat) (t : Nat → Nat → Nat) : Nat → Nat
  | 0 => 0
  | p + 1 => bl_add (bl_g np nv t p) (bl_ch np nv t p (bl_g np nv t p))
noncomputable def bl_r (np nv : Nat) (t : Nat → Nat → Nat) (p : Nat) : Nat := bl_ch np nv t p (bl_g np nv t p)
theorem bl_ch_is {np nv : Nat} {t : Nat → Nat → Nat} {p g : Nat} : (bl_ch np nv t p g < nv ∧ bl_c np nv t p g (bl_ch np nv t p g) ∧ ∀ w, w < bl_ch np nv t p g → ¬ bl_c np nv t p g w) ∨ (bl_ch np nv t p g = 10 ∧ ∀ w, w < nv → ¬ bl_c np nv t p g w) := by
  have s := fst_spec (c := bl_c np nv t p g) nv
  have l := fst_le (c := bl_c np nv t p g) nv
  unfold bl_ch
  split
  · rename_i h
    exact Or.inl ⟨h, s.2 h, s.1⟩
  · rename_i h
    exact Or.inr ⟨rfl, fun w hw => s.1 w (by omega)⟩
theorem bl_g_mono {np nv : Nat} {t : Nat → Nat → Nat} {w p : Nat} (h : (bl_g np nv t p).testBit w = true) : ∀ d, (bl_g np nv t (p + d)).testBit w = true
  | 0 => h
  | d + 1 => by
    have ih := bl_g_mono h d
    show (bl_g np nv t (p + d + 1)).testBit w = true
    unfold bl_g bl_add
    split
    · exact ih
    · rw [bl_tb, ih]; rfl
theorem bl_g_has {np nv : Nat} {t : Nat → Nat → Nat} {p q : Nat} (h : q < p) (hq : bl_r np nv t q ≠ 10) : (bl_g np nv t p).testBit (bl_r np nv t q) = true := by
  have h1 : (bl_g np nv t (q + 1)).testBit (bl_r np nv t q) = true := by
    show (bl_add (bl_g np nv t q) (bl_r np nv t q)).testBit (bl_r np nv t q) = true
    unfold bl_add
    rw [if_neg hq, bl_tb]
    simp
  have := bl_g_mono h1 (p - (q + 1))
  rw [show q + 1 + (p - (q + 1)) = p by omega] at this
  exact this
theorem bl_g_only {np nv : Nat} {t : Nat → Nat → Nat} {w : Nat} : ∀ {p : Nat}, (bl_g np nv t p).testBit w = true → ∃ q, q < p ∧ bl_r np nv t q = w ∧ w ≠ 10
  | 0, h => by simp [bl_g] at h
  | p + 1, h => by
    unfold bl_g bl_add at h
    split at h
    · obtain ⟨q, a, b⟩ := bl_g_only (p := p) h
      exact ⟨q, by omega, b⟩
    · rename_i hc
      rw [bl_tb] at h
      cases hh : (bl_g np nv t p).testBit w with
      | true =>
        obtain ⟨q, a, b⟩ := bl_g_only (p := p) hh
        exact ⟨q, by omega, b⟩
      | false =>
        rw [hh] at h
        simp only [Bool.false_or, decide_eq_true_eq] at h
        exact ⟨p, by omega, h, by rw [← h]; exact hc⟩
theorem bl_r_ok {np nv : Nat} {t : Nat → Nat → Nat} : bl_ok np nv t (bl_r np nv t) := by
  refine ⟨fun p hp => ?_, fun p q hp hq hpq h10 he => ?_⟩
  · rcases bl_ch_is (np := np) (nv := nv) (t := t) (p := p) (g := bl_g np nv t p) with h | h
    · exact Or.inr ⟨h.1, h.2.1.2.1⟩
    · exact Or.inl h.1
  · have key : ∀ a b, a < b → bl_r np nv t a ≠ 10 → bl_r np nv t a = bl_r np nv t b → False := by
      intro a b hab ha e
      have h1 := bl_g_has (np := np) (nv := nv) (t := t) hab ha
      rcases bl_ch_is (np := np) (nv := nv) (t := t) (p := b) (g := bl_g np nv t b) with h | h
      · have := h.2.1.1
        rw [e] at h1
        unfold bl_r at h1
        rw [this] at h1
        cases h1
      · exact ha (e.trans h.1)
    rcases Nat.lt_or_gt_of_ne hpq with l | l
    · exact key p q l h10 he
    · exact key q p l (by rw [← he]; exact h10) he.symm
theorem bl_r_suf {np nv : Nat} {t : Nat → Nat → Nat} (hnv : nv ≤ 10) : ∀ {d : Nat}, d ≤ np → bl_suf np t (bl_r np nv t) d = bl_M np nv t d (bl_g np nv t (np - d))
  | 0, _ => rfl
  | d + 1, h => by
    have ih := bl_r_suf (np := np) (nv := nv) (t := t) hnv (d := d) (by omega)
    have e1 : np - d = (np - (d + 1)) + 1 := by omega
    have e2 : np - (np - (d + 1)) - 1 = d := by omega
    have e3 : np - (np - (d + 1)) = d + 1 := by omega
    unfold bl_suf
    rw [ih, e1]
    show bl_val t (np - (d + 1)) (bl_r np nv t (np - (d + 1))) + bl_M np nv t d (bl_add (bl_g np nv t (np - (d + 1))) (bl_r np nv t (np - (d + 1)))) = _
    rcases bl_ch_is (np := np) (nv := nv) (t := t) (p := np - (d + 1)) (g := bl_g np nv t (np - (d + 1))) with h1 | h1
    · have h2 := h1.2.1.2.2
      rw [e2, e3] at h2
      have hn : ¬ bl_r np nv t (np - (d + 1)) = 10 := by
        have := h1.1
        unfold bl_r
        omega
      unfold bl_val bl_add
      rw [if_neg hn, if_neg hn]
      exact h2
    · have h10 : bl_r np nv t (np - (d + 1)) = 10 := h1.1
      unfold bl_val bl_add
      rw [if_pos h10, if_pos h10, Nat.zero_add]
      show _ = bl_st t (np - (d + 1)) (bl_g np nv t (np - (d + 1))) (bl_M np nv t d) nv
      rcases bl_st_is (t := t) (p := np - (d + 1)) (g := bl_g np nv t (np - (d + 1))) (N := bl_M np nv t d) (n := nv) with h3 | ⟨v, a, b, c, e⟩
      · exact h3.symm
      · exfalso
        refine h1.2 v a ⟨b, c, ?_⟩
        rw [e2, e3]
        exact e
theorem bl_dp {np nv : Nat} {t : Nat → Nat → Nat} (hnv : nv ≤ 10) : bl_best np nv t (bl_r np nv t) ∧ bl_M np nv t np 0 = bl_sum t (bl_r np nv t) np := by
  have hs : bl_sum t (bl_r np nv t) np = bl_M np nv t np 0 := by
    rw [bl_split (d := np) (Nat.le_refl _), bl_r_suf hnv (Nat.le_refl _), Nat.sub_self]
    simp [bl_sum, bl_g]
  refine ⟨⟨bl_r_ok, fun r ok => ?_⟩, hs.symm⟩
  have hle : ∀ r', bl_ok np nv t r' → bl_sum t r' np ≤ bl_M np nv t np 0 := by
    intro r' ok'
    rw [bl_split (d := np) (Nat.le_refl _), Nat.sub_self]
    have := bl_up ok' (d := np) (g := 0) (Nat.le_refl _) (fun p _ _ _ => by simp)
    simp only [bl_sum]
    omega
  refine ⟨by rw [hs]; exact hle r ok, fun he => ?_⟩
  rintro ⟨p, hp, hl, hq⟩
  -- before p the rows are the same
  have e1 : ∀ n, n ≤ p → bl_sum t r n = bl_sum t (bl_r np nv t) n := by
    intro n
    induction n with
    | zero => intro _; rfl
    | succ n ih =>
      intro h
      simp only [bl_sum]
      rw [ih (by omega), hq n (by omega)]
  have s1 := bl_split (np := np) (t := t) (r := r) (d := np - p) (by omega)
  have s2 := bl_split (np := np) (t := t) (r := bl_r np nv t) (d := np - p) (by omega)
  have s3 := bl_r_suf (np := np) (nv := nv) (t := t) hnv (d := np - p) (by omega)
  rw [show np - (np - p) = p by omega] at s1 s2 s3
  rw [e1 p (Nat.le_refl p)] at s1
  have hsuf : bl_suf np t r (np - p) = bl_M np nv t (np - p) (bl_g np nv t p) := by omega
  have hch := bl_ch_is (np := np) (nv := nv) (t := t) (p := p) (g := bl_g np nv t p)
  have hrp : r p ≠ 10 ∧ r p < nv := by
    have h1 : bl_r np nv t p ≤ 10 := by
      unfold bl_r
      rcases hch with h | h <;> omega
    have h2 : r p ≠ 10 := by omega
    rcases ok.1 p hp with h3 | h3
    · exact absurd h3 h2
    · exact ⟨h2, h3.1⟩
  have htp : 0 < t p (r p) := by
    rcases ok.1 p hp with h3 | h3
    · exact absurd h3 hrp.1
    · exact h3.2
  have hfree : ∀ q, p ≤ q → q < np → r q ≠ 10 → (bl_g np nv t p).testBit (r q) = false := by
    intro q a b c
    cases hb : (bl_g np nv t p).testBit (r q) with
    | false => rfl
    | true =>
      obtain ⟨x, hx, hx2, _⟩ := bl_g_only hb
      rw [← hq x hx] at hx2
      exact absurd hx2.symm (ok.2 q x b (by omega) (by omega) c)
  have hc : bl_c np nv t p (bl_g np nv t p) (r p) := by
    refine ⟨hfree p (Nat.le_refl p) hp hrp.1, htp, ?_⟩
    have hu := bl_up ok (d := np - p - 1) (g := bl_g np nv t p ||| 2 ^ (r p)) (by omega) (fun q a b c => by
      rw [bl_tb, hfree q (by omega) b c]
      simp only [Bool.false_or, decide_eq_false_iff_not]
      exact ok.2 p q hp b (by omega) hrp.1)
    have hd : np - p = (np - p - 1) + 1 := by omega
    have hv : bl_suf np t r (np - p) = t p (r p) + bl_suf np t r (np - p - 1) := by
      conv => lhs; rw [hd]
      show bl_val t (np - (np - p - 1 + 1)) (r (np - (np - p - 1 + 1))) + bl_suf np t r (np - p - 1) = _
      rw [show np - (np - p - 1 + 1) = p by omega]
      unfold bl_val
      rw [if_neg hrp.1]
    have hM : t p (r p) + bl_M np nv t (np - p - 1) (bl_g np nv t p ||| 2 ^ (r p)) ≤ bl_M np nv t (np - p) (bl_g np nv t p) := by
      conv => rhs; rw [hd]
      have := bl_st_up (t := t) (p := p) (g := bl_g np nv t p) (N := bl_M np nv t (np - p - 1)) (n := nv) (v := r p) hrp.2 (hfree p (Nat.le_refl p) hp hrp.1) htp
      show _ ≤ bl_st t (np - (np - p - 1 + 1)) (bl_g np nv t p) (bl_M np nv t (np - p - 1)) nv
      rw [show np - (np - p - 1 + 1) = p by omega]
      exact this
    omega
  rcases hch with h | h
  · exact h.2.2 (r p) hl hc
  · exact h.2 (r p) hrp.2 hc
/-! weights: a row as a number to the base 11 -/
def bl_D (r : Nat → Nat) : Nat → Nat
  | 0 => 0
  | n + 1 => bl_D r n + r n * 11 ^ (9 - n)
theorem bl_D_eq {r r' : Nat → Nat} : ∀ {n : Nat}, (∀ q, q < n → r q = r' q) → bl_D r n = bl_D r' n
  | 0, _ => rfl
  | n + 1, h => by
    unfold bl_D
    rw [bl_D_eq (n := n) (fun q hq => h q (by omega)), h n (by omega)]
theorem bl_pow {n : Nat} (h : n ≤ 9) : 11 ^ (10 - n) = 11 * 11 ^ (9 - n) := by
  rw [show 10 - n = (9 - n) + 1 by omega, Nat.pow_succ]
  omega
theorem bl_D_tail {r : Nat → Nat} {p : Nat} : ∀ {d : Nat}, p + d ≤ 10 → (∀ q, p ≤ q → q < p + d → r q ≤ 10) → bl_D r (p + d) + 11 ^ (10 - (p + d)) ≤ bl_D r p + 11 ^ (10 - p)
  | 0, _, _ => Nat.le_refl _
  | d + 1, h, hr => by
    have ih := bl_D_tail (r := r) (p := p) (d := d) (by omega) (fun q a b => hr q a (by omega))
    have h1 := hr (p + d) (by omega) (by omega)
    show bl_D r (p + d) + r (p + d) * 11 ^ (9 - (p + d)) + 11 ^ (10 - (p + (d + 1))) ≤ _
    rw [bl_pow (n := p + d) (by omega)] at ih
    rw [show 10 - (p + (d + 1)) = 9 - (p + d) by omega]
    have := Nat.mul_le_mul_right (11 ^ (9 - (p + d))) h1
    omega
theorem bl_D_mono {r : Nat → Nat} {p : Nat} : ∀ d, bl_D r p ≤ bl_D r (p + d)
  | 0 => Nat.le_refl _
  | d + 1 => by
    have := bl_D_mono (r := r) (p := p) d
    show _ ≤ bl_D r (p + d) + r (p + d) * 11 ^ (9 - (p + d))
    omega
theorem bl_D_less {np : Nat} {r r' : Nat → Nat} (hnp : np ≤ 10) (hr : ∀ q, q < np → r' q ≤ 10) (h : bl_less np r' r) : bl_D r' np < bl_D r np := by
  obtain ⟨p, hp, hl, he⟩ := h
  have h1 := bl_D_tail (r := r') (p := p + 1) (d := np - (p + 1)) (by omega) (fun q a b => hr q (by omega))
  have h2 := bl_D_mono (r := r) (p := p + 1) (np - (p + 1))
  rw [show p + 1 + (np - (p + 1)) = np by omega] at h1 h2
  have h3 := bl_D_eq he
  have h4 : bl_D r' (p + 1) = bl_D r' p + r' p * 11 ^ (9 - p) := rfl
  have h5 : bl_D r (p + 1) = bl_D r p + r p * 11 ^ (9 - p) := rfl
  rw [show 10 - (p + 1) = 9 - p by omega] at h1
  have h6 : (r' p + 1) * 11 ^ (9 - p) ≤ r p * 11 ^ (9 - p) := Nat.mul_le_mul_right _ hl
  rw [Nat.add_mul, Nat.one_mul] at h6
  have h7 : 0 < 11 ^ (10 - np) := Nat.pow_pos (by omega)
  omega
/-- who is cheapest by weights is the best -/
theorem bl_of_key {np nv : Nat} {t : Nat → Nat → Nat} {r : Nat → Nat} (hnp : np ≤ 10) (hnv : nv ≤ 10) (ok : bl_ok np nv t r)
    (hk : ∀ r', bl_ok np nv t r' → (bl_D r np : Int) - (bl_sum t r np : Int) * 25937424601 ≤ (bl_D r' np : Int) - (bl_sum t r' np : Int) * 25937424601) : bl_best np nv t r := by
  have hb : ∀ r', bl_ok np nv t r' → ∀ q, q < np → r' q ≤ 10 := by
    intro r' ok' q hq
    rcases ok'.1 q hq with h | h <;> omega
  have hB : ∀ r', bl_ok np nv t r' → bl_D r' np < 25937424601 := by
    intro r' ok'
    have := bl_D_tail (r := r') (p := 0) (d := np) (by omega) (fun q a b => hb r' ok' q (by omega))
    rw [Nat.zero_add] at this
    have h7 : 0 < 11 ^ (10 - np) := Nat.pow_pos (by omega)
    have h8 : bl_D r' 0 + 11 ^ (10 - 0) = 25937424601 := by
      simp only [bl_D]
    omega
  refine ⟨ok, fun r' ok' => ?_⟩
  have h1 := hk r' ok'
  have h2 := hB r ok
  have h3 := hB r' ok'
  refine ⟨by omega, fun he hl => ?_⟩
  have h4 := bl_D_less hnp (hb r' ok') hl
  rw [he] at h1
  omega
