/-! WHAT BOTH SIDES HOLD: the relation between the class's cells and the reference's -/
def zn (x : Int32) (n : Nat) : Prop := ∃ k : Nat, k ≤ n ∧ x = nI k
section AG
variable {σ σ' : zS} {nv np nl nk nh nt : Nat}
end AG
