/-! THE CALM ONE, as numbers -/
def cm_ah (rk : Nat → Nat) (q p : Nat) : Prop := rk p < rk q ∨ (rk q = rk p ∧ q < p)
def cm_bt (t : Nat → Nat → Nat) (p v w : Nat) : Prop := t p w < t p v ∨ (t p v = t p w ∧ v < w)
def cm_calm (np nv : Nat) (t : Nat → Nat → Nat) (rk : Nat → Nat) (L : Nat → Nat) : Prop := bl_ok np nv t L ∧ ∀ p v, p < np → v < nv → 0 < t p v → (L p = 10 ∨ cm_bt t p v (L p)) → ∃ q, q < np ∧ L q = v ∧ cm_ah rk q p
theorem cm_half {np nv : Nat} {t : Nat → Nat → Nat} {rk : Nat → Nat} {L L' : Nat → Nat} (h : cm_calm np nv t rk L) (h' : cm_calm np nv t rk L') {p : Nat} (hp : p < np) (eq : ∀ q, q < np → cm_ah rk q p → L q = L' q) (h10 : L p ≠ 10) (hb : L' p = 10 ∨ cm_bt t p (L p) (L' p)) : False := by
  rcases h.1.1 p hp with e | ⟨a, b⟩
  · exact h10 e
  · obtain ⟨q, q1, q2, q3⟩ := h'.2 p (L p) hp a b hb
    have e := eq q q1 q3
    have hne : p ≠ q := by
      intro c
      subst c
      unfold cm_ah at q3
      omega
    exact h.1.2 p q hp q1 hne h10 (by rw [e, q2])
theorem cm_uniq {np nv : Nat} {t : Nat → Nat → Nat} {rk : Nat → Nat} {L L' : Nat → Nat} (h : cm_calm np nv t rk L) (h' : cm_calm np nv t rk L') (hr : ∀ p, p < np → rk p ≤ 99) (hnp : np ≤ 10) : ∀ p, p < np → L p = L' p := by
  have key : ∀ k p, p < np → 1000 - (rk p * 10 + (9 - p)) ≤ k → L p = L' p := by
    intro k
    induction k with
    | zero =>
      intro p hp hk
      have := hr p hp
      omega
    | succ k ih =>
      intro p hp hk
      have eq : ∀ q, q < np → cm_ah rk q p → L q = L' q := by
        intro q hq ha
        refine ih q hq ?_
        have := hr q hq
        have := hr p hp
        unfold cm_ah at ha
        omega
      by_cases e : L p = L' p
      · exact e
      · exfalso
        by_cases e10 : L p = 10
        · exact cm_half h' h hp (fun q a b => (eq q a b).symm) (by omega) (Or.inl e10)
        · by_cases e10' : L' p = 10
          · exact cm_half h h' hp eq e10 (Or.inl e10')
          · by_cases hb : cm_bt t p (L p) (L' p)
            · exact cm_half h h' hp eq e10 (Or.inr hb)
            · refine cm_half h' h hp (fun q a b => (eq q a b).symm) e10' (Or.inr ?_)
              unfold cm_bt at hb ⊢
              omega
  intro p hp
  exact key 1000 p hp (by omega)
