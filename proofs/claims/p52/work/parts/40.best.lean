/-! THE BEST LENDING, as numbers: rows of violins (10: none), the first of the greatest sum -/
theorem bl_tb {g v w : Nat} : (g ||| 2 ^ v).testBit w = (g.testBit w || decide (v = w)) := by
  rw [Nat.testBit_or, Nat.testBit_two_pow]
/-! weights: a row as a number to the base 11 -/
