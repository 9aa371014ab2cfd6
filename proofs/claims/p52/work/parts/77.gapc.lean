/-! the gaps: the class -/
def hr (F T : Nat → Int32) (n : Nat) : Prop := ∀ h, h < n → ∃ f t : Nat, 1500 ≤ f ∧ f ≤ t ∧ t ≤ 2100 ∧ F h = nI f ∧ T h = nI t
theorem nI_sb {a b : Nat} (h : b ≤ a) : nI a - nI b = nI (a - b) := by
  rw [iI_n, iI_n, iI_sub, iI_n]
  exact congrArg iI (by omega)
section GC1
variable {V F T : Nat → Int32} {v : Int32}
end GC1
section GC2
variable {sc : zX} {σ : zS} {Q : Option Value → zS → Prop}
end GC2
