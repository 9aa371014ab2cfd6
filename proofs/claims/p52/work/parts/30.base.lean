/-! rows for the walks: what simp needs of states, of ints, of loops -/
theorem zl_i {x : Int32} : zlong? (some (.int x)) = false := rfl
theorem zl_r {x : Nat} : zlong? (some (.ref x)) = false := rfl
theorem zl_n : zlong? none = false := rfl
theorem zlen0 : ([] : List Value).length ≤ 4 := by decide
theorem zlen1 {a : Value} : [a].length ≤ 4 := by simp
theorem zlen2 {a b : Value} : [a, b].length ≤ 4 := by simp
theorem zlen3 {a b c : Value} : [a, b, c].length ≤ 4 := by simp
theorem zlen4 {a b c d : Value} : [a, b, c, d].length ≤ 4 := by simp
theorem zl_l {x : Int32} {L : List (Option Value)} : zlong? ((some (.int x) :: L).headD none) = false := rfl
theorem zS_uf1 {σ : zS} {c j c' j' : Nat} {v : Int32} : (zuf σ c j v).1 c' j' = if c' = c ∧ j' = j then v else σ.1 c' j' := rfl
theorem zS_uf2 {σ : zS} {c j : Nat} {v : Int32} : (zuf σ c j v).2 = σ.2 := rfl
theorem zS_ur1 {σ : zS} {a : Nat} {f : Nat → Int32} : (zur σ a f).1 = σ.1 := rfl
theorem zS_ur2 {σ : zS} {a b : Nat} {f : Nat → Int32} : (zur σ a f).2.1 b = if b = a then f else σ.2.1 b := rfl
theorem zS_ur3 {σ : zS} {a : Nat} {f : Nat → Int32} : (zur σ a f).2.2 = σ.2.2 := rfl
theorem zS_ul1 {σ : zS} {a : Nat} {f : Nat → Int64} : (zul σ a f).1 = σ.1 := rfl
theorem zS_ul2 {σ : zS} {a : Nat} {f : Nat → Int64} : (zul σ a f).2.1 = σ.2.1 := rfl
theorem zS_ul3 {σ : zS} {a b : Nat} {f : Nat → Int64} : (zul σ a f).2.2 b = if b = a then f else σ.2.2 b := rfl
