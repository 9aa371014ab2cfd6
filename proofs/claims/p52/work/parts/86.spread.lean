/-! the spread: the reference, and both -/
section SPR
variable {sc : zX} {σ : zS} {Q : Option Value → zS → Prop}
end SPR
/-- both find the same -/
theorem risk_same {σ : zS} {P X : Nat → Nat} {m : Nat} (hm : m ≤ 10) (hP : ∀ j, P j ≤ 2) (hX : ∀ j, j < m → X j ≤ 1000000) : ∃ k, k < 2 ^ frn P m ∧ nx (fun _ => True) (rkF (wS σ P X m)) (2 ^ frn P m) = some k ∧ nx (wok P m) (rkM X m) (2 ^ m) = some (ins P m k) ∧ rkF (wS σ P X m) k = rkM X m (ins P m k) := by
  have hF : ∀ a, a < 2 ^ frn P m → rkM X m (ins P m a) = rkF (wS σ P X m) a := fun a ha => by
    have hb := ins_bit m a ha
    have r1 := risk_1 (X := X) hb
    have r0 := risk_0 (X := X) (fun j _ => hP j) hb
    have b1 := sX_le (c := fun j => (ins P m a).testBit j = true) hX
    have b2 : m * 1000000 ≤ 10 * 1000000 := Nat.mul_le_mul_right _ hm
    have b0 := sX_le (c := fun j => ¬ (ins P m a).testBit j = true) hX
    have e1 : (wS σ P X m).2.1 77 0 = nI (sX (fun j => P j = 0) X m) := rfl
    have e2 : (wS σ P X m).2.1 77 1 = nI (sX (fun j => P j = 1) X m) := rfl
    have e3 : (wS σ P X m).1 9 6 = nI (sX (fun j => P j = 2) X m) := rfl
    have e4 : (wS σ P X m).2.1 76 a = nI (ldn P X a m) := if_pos ha
    unfold rkF rkM
    rw [e1, e2, e3, e4, nI_add, nI_add, ← r0, nI_sb (by omega), Nat.add_sub_cancel, r1]
    rw [r1] at b1
    generalize sX (fun j => ¬ (ins P m a).testBit j = true) X m = A at *
    generalize sX (fun j => P j = 1) X m + ldn P X a m = B at *
    rw [iI_n, iI_n, iI_n, z_mx_i (by omega) (by omega)]
    congr 1
    omega
  obtain ⟨k, k1, k2, k3⟩ := nx_map (c := wok P m) (F := rkM X m) (F' := rkF (wS σ P X m)) (ins := ins P m) (nf := 2 ^ frn P m) (nm := 2 ^ m) (Nat.pow_pos (by omega)) (fun w hw => ⟨fun h => ins_sur m w hw h, fun ⟨a, ha, e⟩ => by
    subst e
    have hb := ins_bit m a ha
    intro j hj
    refine ⟨fun z y => ?_, fun z => (hb j hj).mpr (Or.inl z), hP j⟩
    rcases (hb j hj).mp y with q | q
    · omega
    · omega⟩) (fun a ha => ins_lt m a ha) (fun a b h hb => ins_mono m a b h hb) hF
  exact ⟨k, k1, k2, k3, (hF k k1).symm⟩
