/-! rows for the walks: what simp needs of states, of ints, of loops -/
theorem zl_i {x : Int32} : zlong? (some (.int x)) = false := rfl
theorem zl_r {x : Nat} : zlong? (some (.ref x)) = false := rfl
theorem zl_n : zlong? none = false := rfl
theorem zS_uf1 {σ : zS} {c j c' j' : Nat} {v : Int32} : (zuf σ c j v).1 c' j' = if c' = c ∧ j' = j then v else σ.1 c' j' := rfl
theorem zS_uf2 {σ : zS} {c j : Nat} {v : Int32} : (zuf σ c j v).2 = σ.2 := rfl
theorem zS_ur1 {σ : zS} {a : Nat} {f : Nat → Int32} : (zur σ a f).1 = σ.1 := rfl
theorem zS_ur2 {σ : zS} {a b : Nat} {f : Nat → Int32} : (zur σ a f).2.1 b = if b = a then f else σ.2.1 b := rfl
theorem zS_ur3 {σ : zS} {a : Nat} {f : Nat → Int32} : (zur σ a f).2.2 = σ.2.2 := rfl
theorem zS_ul1 {σ : zS} {a : Nat} {f : Nat → Int64} : (zul σ a f).1 = σ.1 := rfl
theorem zS_ul2 {σ : zS} {a : Nat} {f : Nat → Int64} : (zul σ a f).2.1 = σ.2.1 := rfl
theorem zS_ul3 {σ : zS} {a b : Nat} {f : Nat → Int64} : (zul σ a f).2.2 b = if b = a then f else σ.2.2 b := rfl
theorem i_nlt {x y : Int32} : ¬ x < y ↔ y ≤ x := Int32.not_lt
theorem i_nle {x y : Int32} : ¬ x ≤ y ↔ y < x := Int32.not_le
theorem i_b0 {c : Prop} [Decidable c] : ((if c then (1 : Int32) else 0) = 0) ↔ ¬ c := by
  by_cases h : c <;> simp [h]
theorem i_bz {c : Prop} [Decidable c] : ((if c then (1 : Int32) else 0) = 0 ∨ (if c then (1 : Int32) else 0) = 1) ↔ True := by
  by_cases h : c <;> simp [h]
theorem i_10 : ((1 : Int32) = 0) ↔ False := by decide
theorem i_00 : ((0 : Int32) = 0 ∨ (0 : Int32) = 1) ↔ True := by decide
theorem i_11 : ((1 : Int32) = 0 ∨ (1 : Int32) = 1) ↔ True := by decide
/-- a loop upward: what holds at its end, what a turn does -/
theorem for_up {α : Type} (G I : Nat → α → Prop) (n : Nat) (hx : ∀ a, I n a → G n a) (hs : ∀ i a, i < n → I i a → (∀ a', I (i + 1) a' → G (i + 1) a') → G i a) : ∀ i a, i ≤ n → I i a → G i a := by
  have key : ∀ d i a, i + d = n → I i a → G i a := by
    intro d
    induction d with
    | zero =>
      intro i a h hI
      have : i = n := by omega
      subst this
      exact hx a hI
    | succ d ih =>
      intro i a h hI
      exact hs i a (by omega) hI (fun a' h' => ih (i + 1) a' (by omega) h')
  intro i a h hI
  exact key (n - i) i a (by omega) hI
/-! the smallest methods -/
section SM
variable {sc : zX} {σ : zS} {Q : Option Value → zS → Prop}
theorem sp_within {x lo hi : Int32} : PC sc 133 [.int x, .int lo, .int hi] σ Q ↔ Q (some (.int (if lo ≤ x ∧ x ≤ hi then 1 else 0))) σ := by
  rw [PC_133, zb_133_0]
  simp only [Int.reduceToNat, Nat.reduceAdd, Nat.reduceMul, List.length_nil, List.length_cons, Nat.reduceLeDiff, Nat.zero_le, Option.toList_some, Option.toList_none, List.cons_append, List.nil_append, PW_nil, PW_goto, zl_i, zl_r, zl_n, PW_iload_0, PW_iload_1, PW_ic_lt, PW_iload_2, PW_ic_gt, PW_k1, PW_k0, PW_ret_z zret_133, zb_133_1, zb_133_2]
  by_cases h1 : lo ≤ x <;> by_cases h2 : x ≤ hi <;> simp [h1, h2]
end SM
