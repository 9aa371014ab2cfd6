/-! bits -/
theorem n_sl : ∀ n, n < 32 → ((nI n &&& nI 31).toBitVec.smod 32).toNat = n := by decide
theorem n_shl {a k : Nat} (hk : k < 32) (h : a * 2 ^ k < 2 ^ 32) : nI a <<< (nI k &&& nI 31) = nI (a * 2 ^ k) := pk_shlN _ k (n_sl k hk) h
theorem n_shl1 {k : Nat} (hk : k < 32) : nI 1 <<< (nI k &&& nI 31) = nI (2 ^ k) := by
  rw [n_shl hk (by
    rw [Nat.one_mul]
    exact Nat.pow_lt_pow_right (by omega) hk), Nat.one_mul]
theorem n_shr {a k : Nat} (hk : k < 32) (ha : a < 2 ^ 31) : nI a >>> (nI k &&& nI 31) = nI (a / 2 ^ k) := pk_shrN ha _ k (n_sl k hk)
theorem n_and {a b : Nat} : nI a &&& nI b = nI (a &&& b) := Int32.toBitVec_inj.1 (by
  show BitVec.ofNat 32 a &&& BitVec.ofNat 32 b = BitVec.ofNat 32 (a &&& b)
  rw [BitVec.ofNat_and])
theorem n_or {a b : Nat} : nI a ||| nI b = nI (a ||| b) := Int32.toBitVec_inj.1 (by
  show BitVec.ofNat 32 a ||| BitVec.ofNat 32 b = BitVec.ofNat 32 (a ||| b)
  rw [BitVec.ofNat_or])
theorem n_xor {a b : Nat} : nI a ^^^ nI b = nI (a ^^^ b) := Int32.toBitVec_inj.1 (by
  show BitVec.ofNat 32 a ^^^ BitVec.ofNat 32 b = BitVec.ofNat 32 (a ^^^ b)
  rw [BitVec.ofNat_xor])
theorem n_bit {a k : Nat} (hk : k < 32) (ha : a < 2 ^ 31) : (nI a >>> (nI k &&& nI 31)) &&& nI 1 = zb (a.testBit k = true) := by
  rw [n_shr hk ha, n_and, Nat.and_one_is_mod]
  have h := Nat.testBit_eq_decide_div_mod_eq (x := a) (i := k)
  by_cases q : a / 2 ^ k % 2 = 1
  · rw [zb_t (by rw [h]; exact decide_eq_true q), q]
    rfl
  · have e : a / 2 ^ k % 2 = 0 := by omega
    rw [zb_f (by rw [h]; simp [q]), e]
    rfl
theorem n_not {t : Nat} (h : t < 2 ^ 32) : nI t ^^^ -nI 1 = nI (2 ^ 32 - (t + 1)) := by
  have e : -nI 1 = nI (2 ^ 32 - 1) := by decide
  rw [e, n_xor]
  congr 1
  apply Nat.eq_of_testBit_eq
  intro i
  rw [Nat.testBit_xor, Nat.testBit_two_pow_sub_succ h, show (2 : Nat) ^ 32 - 1 = 2 ^ 32 - (0 + 1) by rfl, Nat.testBit_two_pow_sub_succ (by omega)]
  by_cases q : i < 32
  · simp [q]
  · have : t.testBit i = false := Nat.testBit_lt_two_pow (Nat.lt_of_lt_of_le h (Nat.pow_le_pow_right (by omega) (by omega)))
    simp [q, this]
theorem n_clr {s t : Nat} (h : t < 2 ^ 32) : nI s &&& (nI t ^^^ -nI 1) = nI (s &&& (2 ^ 32 - (t + 1))) := by rw [n_not h, n_and]
theorem n_clrb {s t i : Nat} (h : t < 2 ^ 32) (hi : i < 32) : (s &&& (2 ^ 32 - (t + 1))).testBit i = (s.testBit i && !t.testBit i) := by
  rw [Nat.testBit_and, Nat.testBit_two_pow_sub_succ h]
  simp [hi]
/-- all bits of the one are the other's -/
theorem n_sub0 {a b : Nat} (ha : a < 2 ^ 31) (hb : b < 2 ^ 31) : nI a &&& (nI b ^^^ -nI 1) = nI 0 ↔ a &&& b = a := by
  have hl : a &&& (2 ^ 32 - (b + 1)) ≤ a := Nat.and_le_left
  rw [n_clr (by omega), nI_eq (by omega) (by omega)]
  constructor
  · intro h
    apply Nat.eq_of_testBit_eq
    intro i
    rw [Nat.testBit_and]
    have h2 := congrArg (fun x => x.testBit i) h
    simp only [Nat.zero_testBit] at h2
    by_cases q : i < 32
    · rw [n_clrb (by omega) q] at h2
      cases ea : a.testBit i
      · rfl
      · rw [ea] at h2
        simpa using h2
    · have : a.testBit i = false := Nat.testBit_lt_two_pow (Nat.lt_of_lt_of_le ha (Nat.pow_le_pow_right (by omega) (by omega)))
      rw [this]; rfl
  · intro h
    apply Nat.eq_of_testBit_eq
    intro i
    rw [Nat.zero_testBit, Nat.testBit_and, Nat.testBit_two_pow_sub_succ (by omega)]
    have h2 := congrArg (fun x => x.testBit i) h
    simp only [Nat.testBit_and] at h2
    cases ea : a.testBit i
    · rfl
    · rw [ea] at h2
      simp at h2
      simp [h2]
theorem n_sub {a b : Nat} : a &&& b = a ↔ ∀ i, a.testBit i = true → b.testBit i = true := by
  constructor
  · intro h i hi
    have h2 := congrArg (fun x => x.testBit i) h
    simp only [Nat.testBit_and, hi] at h2
    simpa using h2
  · intro h
    apply Nat.eq_of_testBit_eq
    intro i
    rw [Nat.testBit_and]
    cases ea : a.testBit i
    · rfl
    · rw [h i ea]; rfl
