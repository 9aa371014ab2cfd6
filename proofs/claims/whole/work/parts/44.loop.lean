/-! rows for loops -/
theorem cnt_s {c : Nat → Prop} {n : Nat} : nI (cnt c (n + 1)) = nI (cnt c n) + zb (c n) := by
  by_cases h : c n
  · rw [cnt_t h, zb_t h, nI_1]
  · rw [cnt_f h, zb_f h, n_l0, nI_add]; rfl
theorem cnt_s2 {a : Nat} {c : Nat → Prop} {n : Nat} : nI (a + cnt c (n + 1)) = nI (a + cnt c n) + zb (c n) := by
  rw [← nI_add, cnt_s, ← nI_add, Int32.add_assoc]

def zi (m : Int32) (n k : Nat) : Int32 := if k < n then nI k else m
theorem zi_t {m : Int32} {n k : Nat} (h : k < n) : zi m n k = nI k := if_pos h
theorem zi_f {m : Int32} {n k : Nat} (h : n ≤ k) : zi m n k = m := if_neg (by omega)
theorem zi_e {b n k : Nat} (hb : 0 < b ∧ b < 2 ^ 31) (hn : n < 2 ^ 31) : zi (-nI b) n k = -nI b ↔ n ≤ k := by
  by_cases h : k < n
  · rw [zi_t h, n_eqneg (by omega) hb]
    simp only [false_iff]
    omega
  · rw [zi_f (by omega)]
    simp only [true_iff]
    omega
theorem q_zi {Q : Option Value → zS → Prop} {σ : zS} {m : Int32} {n k : Nat} : ((k < n → Q (some (.int (nI k))) σ) ∧ (¬ k < n → Q (some (.int m)) σ)) ↔ Q (some (.int (zi m n k))) σ := by
  by_cases h : k < n
  · rw [zi_t h]; simp only [h, not_true_eq_false, false_implies, and_true, true_implies]
  · rw [zi_f (by omega)]; simp only [h, not_false_eq_true, false_implies, true_and, true_implies]
def oi (m : Int32) : Option Nat → Int32
  | none => m
  | some k => nI k
theorem oi_n {m : Int32} : oi m none = m := rfl
theorem oi_s {m : Int32} {k : Nat} : oi m (some k) = nI k := rfl
/-- the first of the least -/
noncomputable def nx (c : Nat → Prop) (F : Nat → Int32) : Nat → Option Nat
  | 0 => none
  | i + 1 => @ite _ (c i ∧ ∀ k, nx c F i = some k → ¬ F k ≤ F i) (Classical.propDecidable _) (some i) (nx c F i)
theorem nx_0 {c : Nat → Prop} {F : Nat → Int32} : nx c F 0 = none := rfl
theorem nx_t {c : Nat → Prop} {F : Nat → Int32} {i : Nat} (h : c i) (h2 : ∀ k, nx c F i = some k → ¬ F k ≤ F i) : nx c F (i + 1) = some i := by
  show @ite _ (c i ∧ ∀ k, nx c F i = some k → ¬ F k ≤ F i) (Classical.propDecidable _) (some i) (nx c F i) = _
  rw [if_pos ⟨h, h2⟩]
theorem nx_f {c : Nat → Prop} {F : Nat → Int32} {i : Nat} (h : ¬ c i) : nx c F (i + 1) = nx c F i := by
  show @ite _ (c i ∧ ∀ k, nx c F i = some k → ¬ F k ≤ F i) (Classical.propDecidable _) (some i) (nx c F i) = _
  rw [if_neg (fun q => h q.1)]
theorem nx_f2 {c : Nat → Prop} {F : Nat → Int32} {i k : Nat} (h : nx c F i = some k) (h2 : F k ≤ F i) : nx c F (i + 1) = nx c F i := by
  show @ite _ (c i ∧ ∀ k, nx c F i = some k → ¬ F k ≤ F i) (Classical.propDecidable _) (some i) (nx c F i) = _
  rw [if_neg (fun q => q.2 k h h2)]
theorem nx_lt {c : Nat → Prop} {F : Nat → Int32} {k : Nat} : ∀ {n : Nat}, nx c F n = some k → k < n ∧ c k
  | 0, h => by cases h
  | n + 1, h => by
    by_cases q : c n ∧ ∀ k, nx c F n = some k → ¬ F k ≤ F n
    · rw [nx_t q.1 q.2] at h
      cases h
      exact ⟨by omega, q.1⟩
    · have e : nx c F (n + 1) = nx c F n := if_neg q
      rw [e] at h
      have := nx_lt h
      exact ⟨by omega, this.2⟩
theorem ex_s {c : Nat → Prop} {i : Nat} : (∃ h, h < i + 1 ∧ c h) ↔ (∃ h, h < i ∧ c h) ∨ c i := by
  constructor
  · rintro ⟨h, a, b⟩
    by_cases q : h = i
    · subst q; exact Or.inr b
    · exact Or.inl ⟨h, by omega, b⟩
  · rintro (⟨h, a, b⟩ | b)
    · exact ⟨h, by omega, b⟩
    · exact ⟨i, by omega, b⟩
theorem ex_0 {c : Nat → Prop} : (∃ h, h < 0 ∧ c h) ↔ False := ⟨fun ⟨_, a, _⟩ => absurd a (Nat.not_lt_zero _), False.elim⟩
theorem zb_or {p q : Prop} : zb p ||| zb q = zb (p ∨ q) := by
  by_cases h : p <;> by_cases k : q <;> simp only [h, k, zb_T, zb_F, or_true, true_or, or_false] <;> decide
theorem zb_and {p q : Prop} : zb p &&& zb q = zb (p ∧ q) := by
  by_cases h : p <;> by_cases k : q <;> simp only [h, k, zb_T, zb_F, and_true, true_and, and_false, false_and] <;> decide
theorem n_or0 {x : Int32} : x ||| nI 0 = x := Int32.or_zero
theorem zb_congr {p q : Prop} (h : p ↔ q) : zb p = zb q := by rw [propext h]
theorem i_nn {x y : Int32} : ¬ x ≤ y ↔ y < x := Int32.not_le
/-- counts of pairs -/
noncomputable def cq (c : Nat → Nat → Prop) : Nat → Nat
  | 0 => 0
  | h + 1 => cq c h + cnt (c h) h
theorem cq_s {c : Nat → Nat → Prop} {h : Nat} : cq c (h + 1) = cq c h + cnt (c h) h := rfl
theorem lpc {α : Type} (n : Nat) (P : Nat → α → Prop) (R : Prop) (h0 : ∀ a, P n a ↔ R) (hs : ∀ i, i < n → (∀ a, P (i + 1) a ↔ R) → ∀ a, P i a ↔ R) : ∀ a, P 0 a ↔ R := lp n P (fun _ => R) h0 hs 0 (Nat.zero_le n)
