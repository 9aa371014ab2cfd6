/-! days: the size of a set, the reference -/
section DF6
variable {sc : zX} {σ : zS} {Q : Option Value → zS → Prop}
theorem popr_le {s : Nat} : ∀ i, popr s i ≤ i
  | 0 => Nat.le_refl 0
  | i + 1 => by
    have ih := popr_le (s := s) i
    show popr s i + (s.testBit i).toNat ≤ i + 1
    cases s.testBit i
    · show popr s i + 0 ≤ i + 1; omega
    · show popr s i + 1 ≤ i + 1; omega
end DF6
