/-! the state behind the constructors, and that both sides agree there -/
def zi9 : Nat → Int32 := upd (upd (upd (upd (fun _ => 0) (0 : Int32).toNatClampNeg (-9)) (1 : Int32).toNatClampNeg (-9)) (2 : Int32).toNatClampNeg (-9)) (3 : Int32).toNatClampNeg (-9)
def zi1 : Nat → Int32 := upd (upd (upd (upd (fun _ => 0) (0 : Int32).toNatClampNeg (-1)) (1 : Int32).toNatClampNeg (-1)) (2 : Int32).toNatClampNeg (-1)) (3 : Int32).toNatClampNeg (-1)
def zi0 : zS := (fun c j => if c = 0 ∧ j = 4 then -9 else if c = 9 ∧ j = 4 then 1000000 else if c = 12 ∧ j = 49 then 1000000 else 0, fun a => if a = 13 then zi9 else if a = 14 then zi9 else if a = 65 then zi1 else if a = 104 then zi9 else if a = 131 then zi9 else fun _ => 0, fun _ _ => 0)
theorem zi0_r {a j : Nat} (h1 : a ≠ 13) (h2 : a ≠ 14) (h3 : a ≠ 65) (h4 : a ≠ 104) (h5 : a ≠ 131) : zi0.2.1 a j = 0 := by
  show (if a = 13 then zi9 else if a = 14 then zi9 else if a = 65 then zi1 else if a = 104 then zi9 else if a = 131 then zi9 else fun _ => 0) j = 0
  rw [if_neg h1, if_neg h2, if_neg h3, if_neg h4, if_neg h5]
theorem zi9_v : ∀ k, k < 4 → zi9 k = -9 := by decide +kernel
theorem zi1_v : ∀ k, k < 4 → zi1 k = -1 := by decide +kernel
theorem zn_0 {n : Nat} : zn 0 n := ⟨0, Nat.zero_le _, rfl⟩
theorem zi0_z {a j n : Nat} (h1 : a ≠ 13) (h2 : a ≠ 14) (h3 : a ≠ 65) (h4 : a ≠ 104) (h5 : a ≠ 131) : zn (zi0.2.1 a j) n := by
  rw [zi0_r h1 h2 h3 h4 h5]
  exact zn_0
theorem zi0_RR : RR zi0 := by
  refine ⟨0, 0, 0, 0, 0, 0, ⟨by decide, rfl, rfl, rfl, rfl, rfl, rfl, fun v hv j hj => ?_, fun v hv => zi0_z (by decide) (by decide) (by decide) (by decide) (by decide), fun v hv => zi0_z (by decide) (by decide) (by decide) (by decide) (by decide), fun v hv => zi0_z (by decide) (by decide) (by decide) (by decide) (by decide), fun v hv => zi0_z (by decide) (by decide) (by decide) (by decide) (by decide), fun j hj => zi0_z (by decide) (by decide) (by decide) (by decide) (by decide)⟩, ⟨by decide, rfl, rfl, rfl, fun p hp v hv => ?_, fun j hj => zi0_z (by decide) (by decide) (by decide) (by decide) (by decide), fun j hj => zi0_z (by decide) (by decide) (by decide) (by decide) (by decide)⟩, fun p hp => ⟨0, by decide, rfl, fun m hm => ?_⟩, ⟨by decide, rfl, rfl, rfl, rfl, rfl, rfl, rfl, fun l hl => absurd hl (Nat.not_lt_zero _), fun l m hl => absurd hl (Nat.not_lt_zero _), fun p hp => ⟨0, by decide, rfl, fun m hm => ?_⟩⟩, ⟨by decide, rfl, rfl, rfl, rfl, rfl, fun l hl => absurd hl (Nat.not_lt_zero _)⟩, ⟨by decide, rfl, rfl, rfl, rfl, rfl, rfl, fun l hl => absurd hl (Nat.not_lt_zero _)⟩, ⟨by decide, rfl, rfl, rfl, rfl, rfl, rfl, fun l hl => absurd hl (Nat.not_lt_zero _), fun t u hl => absurd hl (Nat.not_lt_zero _)⟩, fun k hk => Or.inl ⟨zi1_v k hk, zi9_v k hk⟩, ⟨zn_0, rfl, zn_0, rfl, fun j hj => rfl, fun j hj => zi0_z (by decide) (by decide) (by decide) (by decide) (by decide)⟩, ⟨fun j hj => rfl, fun j hj => Or.inl (zi9_v j hj), ?_⟩, ⟨rfl, rfl, rfl⟩⟩
  · rw [zi0_r (by omega) (by omega) (by omega) (by omega) (by omega), zi0_r (by decide) (by decide) (by decide) (by decide) (by decide)]
  · rw [zi0_r (by omega) (by omega) (by omega) (by omega) (by omega), zi0_r (by decide) (by decide) (by decide) (by decide) (by decide)]
  · rw [zi0_r (by decide) (by decide) (by decide) (by decide) (by decide)]
    simp [zb]
  · simp
  · have e : cnt (fun j => zi0.2.1 131 j ≠ -9) 4 = 0 := by
      have h0 : zi0.2.1 131 0 = -9 := zi9_v 0 (by decide)
      have h1 : zi0.2.1 131 1 = -9 := zi9_v 1 (by decide)
      have h2 : zi0.2.1 131 2 = -9 := zi9_v 2 (by decide)
      have h3 : zi0.2.1 131 3 = -9 := zi9_v 3 (by decide)
      simp [cnt, h0, h1, h2, h3]
    rw [e]
    rfl
