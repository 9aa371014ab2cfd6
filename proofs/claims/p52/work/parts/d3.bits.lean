/-! bits of longs: a set of sets in four longs -/
def rbit (x : Int64) (r : Nat) : Prop := x.toBitVec.getLsbD r = true
theorem l_sm : ∀ r, r < 64 → (((nI r).toInt64 &&& 63).toBitVec.smod 64).toNat = r := by decide +kernel
theorem lg_cmp_0 {y : Int64} : lg_cmp y 0 = nI 0 ↔ y = 0 := by
  unfold lg_cmp
  by_cases h1 : y > 0
  · rw [if_pos h1]
    refine ⟨fun z => absurd z (by decide), fun z => ?_⟩
    rw [z] at h1
    exact absurd h1 Int64.lt_irrefl
  · rw [if_neg h1]
    by_cases h2 : y = 0
    · rw [if_pos h2]
      exact ⟨fun _ => h2, fun _ => rfl⟩
    · rw [if_neg h2]
      exact ⟨fun z => absurd z (by decide), fun z => absurd z h2⟩
theorem bv_and1 {Z : BitVec 64} : Z &&& 1#64 = 0#64 ↔ ¬ Z.getLsbD 0 = true := by
  constructor
  · intro h z
    have := congrArg (fun b => b.getLsbD 0) h
    simp only [BitVec.getLsbD_and, BitVec.getLsbD_one, BitVec.getLsbD_zero, z] at this
    exact absurd this (by decide)
  · intro h
    apply BitVec.eq_of_getLsbD_eq
    intro i hi
    rw [BitVec.getLsbD_and, BitVec.getLsbD_one, BitVec.getLsbD_zero]
    by_cases c : i = 0
    · subst c
      cases e : Z.getLsbD 0
      · rfl
      · exact absurd e h
    · simp [c]
theorem lb_test {x : Int64} {r : Nat} (hr : r < 64) : (lg_cmp ((x >>> ((nI r).toInt64 &&& 63)) &&& 1) 0 = nI 0) = ¬ rbit x r := by
  apply propext
  rw [lg_cmp_0, ← Int64.toBitVec_inj, Int64.toBitVec_and, Int64.toBitVec_shiftRight]
  show x.toBitVec.sshiftRight' (((nI r).toInt64 &&& 63).toBitVec.smod 64) &&& 1#64 = 0#64 ↔ _
  rw [bv_and1, BitVec.sshiftRight_eq', l_sm r hr, BitVec.getLsbD_sshiftRight]
  unfold rbit
  rw [if_pos (by omega), Nat.add_zero]
  simp
theorem lb_set {x : Int64} {r s : Nat} (hr : r < 64) (hs : s < 64) : rbit (x ||| ((1 : Int64) <<< ((nI r).toInt64 &&& 63))) s ↔ s = r ∨ rbit x s := by
  unfold rbit
  rw [Int64.toBitVec_or, Int64.toBitVec_shiftLeft]
  show (x.toBitVec ||| (1#64 <<< (((nI r).toInt64 &&& 63).toBitVec.smod 64))).getLsbD s = true ↔ _
  rw [BitVec.getLsbD_or, BitVec.shiftLeft_eq', l_sm r hr, BitVec.getLsbD_shiftLeft, BitVec.getLsbD_one]
  cases x.toBitVec.getLsbD s
  · simp
    omega
  · simp
def rb (f : Nat → Int64) (s : Nat) : Prop := rbit (f (s / 64)) (s % 64)
theorem rb_set {g : Nat → Int64} {s t : Nat} : rb (vp_updL g (t / 64) (g (t / 64) ||| ((1 : Int64) <<< ((nI (t % 64)).toInt64 &&& 63)))) s ↔ s = t ∨ rb g s := by
  have b1 := Nat.mod_lt s (show 0 < 64 by omega)
  have b2 := Nat.mod_lt t (show 0 < 64 by omega)
  unfold rb vp_updL
  by_cases c : s / 64 = t / 64
  · rw [if_pos c, lb_set b2 b1, c]
    constructor
    · rintro (z | z)
      · exact Or.inl (by omega)
      · exact Or.inr z
    · rintro (z | z)
      · exact Or.inl (by omega)
      · exact Or.inr z
  · rw [if_neg c]
    exact ⟨fun z => Or.inr z, fun z => z.elim (fun e => absurd (by rw [e]) c) id⟩
theorem rb_0 {s : Nat} : ¬ rb (fun _ => 0) s := by
  unfold rb rbit
  rw [show ((0 : Int64).toBitVec) = 0#64 from rfl, BitVec.getLsbD_zero]
  decide
theorem rb_1 {s : Nat} (hs : s < 256) : rb (vp_updL (fun _ => 0) 0 1) s ↔ s = 0 := by
  have h := rb_set (g := fun _ => 0) (s := s) (t := 0)
  have e : (0 : Int64) ||| ((1 : Int64) <<< ((nI (0 % 64)).toInt64 &&& 63)) = 1 := by decide
  rw [e] at h
  exact h.trans ⟨fun z => z.elim id (fun y => absurd y rb_0), Or.inl⟩
