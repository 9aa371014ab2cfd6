/-! ways: the reference -/
def wok (P : Nat → Nat) (m w : Nat) : Prop := ∀ j, j < m → (P j = 0 → ¬ w.testBit j = true) ∧ (P j = 1 → w.testBit j = true) ∧ P j ≤ 2
noncomputable def rkM (X : Nat → Nat) (m w : Nat) : Int32 := nI (max (sX (fun j => ¬ w.testBit j = true) X m) (sX (fun j => w.testBit j = true) X m))
section WY
variable {sc : zX} {σ : zS} {Q : Option Value → zS → Prop}
end WY
