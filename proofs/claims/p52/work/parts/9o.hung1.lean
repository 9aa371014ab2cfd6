/-! the best lending, the class: longs, costs, one seat's look -/
def jI (z : Int) : Int64 := Int64.ofInt z
/-- what the class has in its rows -/
def hS (m : Nat) (S cf : Nat → Nat) (w u sl : Nat → Int) (σ : zS) : Prop := (∀ j, j ≤ m → σ.2.1 34 j = nI (S j)) ∧ (∀ j, j ≤ m → σ.2.1 35 j = nI (cf j)) ∧ (∀ j, j ≤ m → σ.2.2 36 j = jI (sl j)) ∧ (∀ j, j ≤ m → σ.2.2 37 j = jI (w j)) ∧ (∀ i, i ≤ 10 → σ.2.2 38 i = jI (u i))
section HL
variable {sc : zX} {σ : zS} {Q : Option Value → zS → Prop}
end HL
