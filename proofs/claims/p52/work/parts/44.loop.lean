/-! rows for loops -/
theorem cnt_s {c : Nat → Prop} {n : Nat} : nI (cnt c (n + 1)) = nI (cnt c n) + zb (c n) := by
  by_cases h : c n
  · rw [cnt_t h, zb_t h, nI_1]
  · rw [cnt_f h, zb_f h, n_l0, nI_add]; rfl
/-- the first of the least -/
noncomputable def nx (c : Nat → Prop) (F : Nat → Int32) : Nat → Option Nat
  | 0 => none
  | i + 1 => @ite _ (c i ∧ ∀ k, nx c F i = some k → ¬ F k ≤ F i) (Classical.propDecidable _) (some i) (nx c F i)
theorem nx_t {c : Nat → Prop} {F : Nat → Int32} {i : Nat} (h : c i) (h2 : ∀ k, nx c F i = some k → ¬ F k ≤ F i) : nx c F (i + 1) = some i := by
  show @ite _ (c i ∧ ∀ k, nx c F i = some k → ¬ F k ≤ F i) (Classical.propDecidable _) (some i) (nx c F i) = _
  rw [if_pos ⟨h, h2⟩]
theorem nx_f {c : Nat → Prop} {F : Nat → Int32} {i : Nat} (h : ¬ c i) : nx c F (i + 1) = nx c F i := by
  show @ite _ (c i ∧ ∀ k, nx c F i = some k → ¬ F k ≤ F i) (Classical.propDecidable _) (some i) (nx c F i) = _
  rw [if_neg (fun q => h q.1)]
theorem nx_f2 {c : Nat → Prop} {F : Nat → Int32} {i k : Nat} (h : nx c F i = some k) (h2 : F k ≤ F i) : nx c F (i + 1) = nx c F i := by
  show @ite _ (c i ∧ ∀ k, nx c F i = some k → ¬ F k ≤ F i) (Classical.propDecidable _) (some i) (nx c F i) = _
  rw [if_neg (fun q => q.2 k h h2)]
theorem n_or0 {x : Int32} : x ||| nI 0 = x := Int32.or_zero
theorem zb_congr {p q : Prop} (h : p ↔ q) : zb p = zb q := by rw [propext h]
theorem lpc {α : Type} (n : Nat) (P : Nat → α → Prop) (R : Prop) (h0 : ∀ a, P n a ↔ R) (hs : ∀ i, i < n → (∀ a, P (i + 1) a ↔ R) → ∀ a, P i a ↔ R) : ∀ a, P 0 a ↔ R := lp n P (fun _ => R) h0 hs 0 (Nat.zero_le n)
