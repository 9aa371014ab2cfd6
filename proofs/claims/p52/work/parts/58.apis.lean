/-! small calls -/
section AS
variable {sc : zX} {σ : zS} {Q : Option Value → zS → Prop}
theorem cnt_pos {c : Nat → Prop} {n : Nat} : cnt c n ≤ 0 ↔ ¬ ∃ j, j < n ∧ c j := by
  constructor
  · intro h
    rintro ⟨j, hj, hc⟩
    have h1 : cnt (fun i => c i ∧ i ≠ j) n + 1 = cnt c n := (cnt_one hj (fun q => q.2 rfl) hc (fun i _ hi => ⟨fun q => ⟨q, hi⟩, fun q => q.1⟩)).symm
    omega
  · intro h
    rw [cnt_no (fun j hj hc => h ⟨j, hj, hc⟩)]
    exact Nat.le_refl 0
end AS
