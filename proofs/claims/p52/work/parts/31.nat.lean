/-! numbers: literals to nI, Int32 order to one form -/
theorem n_l0 : (0 : Int32) = nI 0 := rfl
theorem n_l1 : (1 : Int32) = nI 1 := rfl
theorem n_l2 : (2 : Int32) = nI 2 := rfl
theorem n_l3 : (3 : Int32) = nI 3 := rfl
theorem n_l4 : (4 : Int32) = nI 4 := rfl
theorem n_l5 : (5 : Int32) = nI 5 := rfl
theorem n_l8 : (8 : Int32) = nI 8 := rfl
theorem n_l9 : (9 : Int32) = nI 9 := rfl
theorem n_l10 : (10 : Int32) = nI 10 := rfl
theorem n_l15 : (15 : Int32) = nI 15 := rfl
theorem n_l20 : (20 : Int32) = nI 20 := rfl
theorem n_l31 : (31 : Int32) = nI 31 := rfl
theorem n_l40 : (40 : Int32) = nI 40 := rfl
theorem n_l48 : (48 : Int32) = nI 48 := rfl
theorem n_l57 : (57 : Int32) = nI 57 := rfl
theorem n_l59 : (59 : Int32) = nI 59 := rfl
theorem n_l60 : (60 : Int32) = nI 60 := rfl
theorem n_l70 : (70 : Int32) = nI 70 := rfl
theorem n_l99 : (99 : Int32) = nI 99 := rfl
theorem n_l100 : (100 : Int32) = nI 100 := rfl
theorem n_l255 : (255 : Int32) = nI 255 := rfl
theorem n_l601 : (601 : Int32) = nI 601 := rfl
theorem n_l602 : (602 : Int32) = nI 602 := rfl
theorem n_l1024 : (1024 : Int32) = nI 1024 := rfl
theorem n_l1500 : (1500 : Int32) = nI 1500 := rfl
theorem n_l2100 : (2100 : Int32) = nI 2100 := rfl
theorem n_l2101 : (2101 : Int32) = nI 2101 := rfl
theorem n_l65535 : (65535 : Int32) = nI 65535 := rfl
theorem n_l100000 : (100000 : Int32) = nI 100000 := rfl
theorem n_l1000000 : (1000000 : Int32) = nI 1000000 := rfl
theorem n_l100000000 : (100000000 : Int32) = nI 100000000 := rfl
theorem i_lt {x y : Int32} : x < y ↔ ¬ y ≤ x := Int32.not_le.symm
theorem n_in {k n : Nat} (h : k < n) (hn : n < 2 ^ 31) : vp_in (nI k) n ↔ True := by
  simp only [iff_true]
  exact vp_in_nI h hn
theorem n_negle {a b : Nat} (ha : a < 2 ^ 31) (hb : 0 < b ∧ b < 2 ^ 31) : nI a ≤ -nI b ↔ False := by
  have h1 := nI_toInt ha
  have h2 := sb_negT hb.2
  rw [Int32.le_iff_toInt_le, h1, h2]
  constructor
  · intro h; omega
  · exact False.elim
theorem n_legne {a b : Nat} (ha : a < 2 ^ 31) (hb : b < 2 ^ 31) : -nI b ≤ nI a ↔ True := by
  have h1 := nI_toInt ha
  have h2 := sb_negT hb
  rw [Int32.le_iff_toInt_le, h1, h2]
  constructor
  · intro h; trivial
  · intro _; omega
theorem n_eqneg {a b : Nat} (ha : a < 2 ^ 31) (hb : 0 < b ∧ b < 2 ^ 31) : nI a = -nI b ↔ False := by
  have h1 := nI_toInt ha
  have h2 := sb_negT hb.2
  rw [← Int32.toInt_inj, h1, h2]
  constructor
  · intro h; omega
  · exact False.elim
theorem n_negeq {a b : Nat} (ha : a < 2 ^ 31) (hb : 0 < b ∧ b < 2 ^ 31) : -nI b = nI a ↔ False := by
  rw [eq_comm]
  exact n_eqneg ha hb
theorem n_nn {a b : Nat} (ha : a < 2 ^ 31) (hb : b < 2 ^ 31) : -nI a = -nI b ↔ a = b := by
  rw [← Int32.toInt_inj, sb_negT ha, sb_negT hb]
  omega
theorem z_if0 {α : Type} {a b : Nat} {x y : α} (h : ¬ a = b) : (if a = b then x else y) = y := if_neg h
theorem z_if1 {α : Type} {a b : Nat} {x y : α} (h : a = b) : (if a = b then x else y) = x := if_pos h
/-- a condition as an int -/
noncomputable def zb (p : Prop) : Int32 := @ite _ p (Classical.propDecidable p) 1 0
theorem zb_t {p : Prop} (h : p) : zb p = 1 := by unfold zb; rw [if_pos h]
theorem zb_f {p : Prop} (h : ¬ p) : zb p = 0 := by unfold zb; rw [if_neg h]
theorem zb_e0 {p : Prop} : zb p = nI 0 ↔ ¬ p := by
  by_cases h : p
  · rw [zb_t h]; simp [h]; decide
  · rw [zb_f h]; simp [h]; rfl
theorem zb_e1 {p : Prop} : zb p = nI 1 ↔ p := by
  by_cases h : p
  · rw [zb_t h]; simp [h]; rfl
  · rw [zb_f h]; simp [h]; decide
theorem zb_r {p : Prop} : (zb p = nI 0 ∨ zb p = nI 1) ↔ True := by
  rw [zb_e0, zb_e1]
  simp only [iff_true]
  exact (Classical.em p).symm
theorem n_em {p : Prop} : (¬ p ∨ p) = True := eq_true (Classical.em p).symm
theorem zb_T : zb True = nI 1 := zb_t trivial
theorem zb_F : zb False = nI 0 := zb_f (fun h => h)
theorem nar0 : vp_nar .boolean (nI 0) = nI 0 := rfl
theorem nar1 : vp_nar .boolean (nI 1) = nI 1 := rfl
theorem nar_zb {p : Prop} : vp_nar .boolean (zb p) = zb p := by
  by_cases h : p
  · rw [zb_t h]; rfl
  · rw [zb_f h]; rfl
/-- how many below n -/
noncomputable def cnt (c : Nat → Prop) : Nat → Nat
  | 0 => 0
  | n + 1 => cnt c n + @ite _ (c n) (Classical.propDecidable _) 1 0
theorem cnt_t {c : Nat → Prop} {n : Nat} (h : c n) : cnt c (n + 1) = cnt c n + 1 := by
  show cnt c n + @ite _ (c n) (Classical.propDecidable _) 1 0 = _
  rw [if_pos h]
theorem cnt_f {c : Nat → Prop} {n : Nat} (h : ¬ c n) : cnt c (n + 1) = cnt c n := by
  show cnt c n + @ite _ (c n) (Classical.propDecidable _) 1 0 = _
  rw [if_neg h]
  rfl
theorem cnt_le {c : Nat → Prop} : ∀ n, cnt c n ≤ n
  | 0 => Nat.le_refl 0
  | n + 1 => by
    by_cases h : c n
    · rw [cnt_t h]; have := cnt_le (c := c) n; omega
    · rw [cnt_f h]; have := cnt_le (c := c) n; omega
theorem cnt_congr {c d : Nat → Prop} : ∀ {n : Nat}, (∀ i, i < n → (c i ↔ d i)) → cnt c n = cnt d n
  | 0, _ => rfl
  | n + 1, h => by
    have ih := cnt_congr (c := c) (d := d) (n := n) (fun i hi => h i (by omega))
    by_cases hc : c n
    · rw [cnt_t hc, cnt_t ((h n (by omega)).mp hc), ih]
    · rw [cnt_f hc, cnt_f (fun q => hc ((h n (by omega)).mpr q)), ih]
/-- the first below n, else n -/
noncomputable def fst (c : Nat → Prop) : Nat → Nat
  | 0 => 0
  | n + 1 => @ite _ (fst c n < n) (Classical.propDecidable _) (fst c n) (@ite _ (c n) (Classical.propDecidable _) n (n + 1))
theorem fst_le {c : Nat → Prop} : ∀ n, fst c n ≤ n
  | 0 => Nat.le_refl 0
  | n + 1 => by
    unfold fst
    split
    · omega
    · split <;> omega
theorem fst_spec {c : Nat → Prop} : ∀ n, (∀ j, j < fst c n → ¬ c j) ∧ (fst c n < n → c (fst c n))
  | 0 => ⟨fun j h => absurd h (Nat.not_lt_zero j), fun h => absurd h (Nat.lt_irrefl 0)⟩
  | n + 1 => by
    have ih := fst_spec (c := c) n
    have hl := fst_le (c := c) n
    unfold fst
    split
    · rename_i h
      exact ⟨ih.1, fun _ => ih.2 h⟩
    · rename_i h
      have e : fst c n = n := by omega
      rw [e] at ih
      split
      · rename_i h2
        exact ⟨ih.1, fun _ => h2⟩
      · rename_i h2
        refine ⟨fun j hj => ?_, fun hj => absurd hj (Nat.lt_irrefl _)⟩
        by_cases q : j = n
        · subst q; exact h2
        · exact ih.1 j (by omega)
theorem fst_eq {c : Nat → Prop} {n i : Nat} (hi : i < n) (hc : c i) (hn : ∀ j, j < i → ¬ c j) : fst c n = i := by
  have h := fst_spec (c := c) n
  have hl := fst_le (c := c) n
  by_cases h1 : fst c n < i
  · exact absurd (h.2 (by omega)) (hn _ h1)
  · by_cases h2 : i < fst c n
    · exact absurd hc (h.1 i h2)
    · omega
theorem fst_none {c : Nat → Prop} {n : Nat} (hn : ∀ j, j < n → ¬ c j) : fst c n = n := by
  have h := fst_spec (c := c) n
  have hl := fst_le (c := c) n
  by_cases h1 : fst c n < n
  · exact absurd (h.2 h1) (hn _ h1)
  · omega
theorem fst_lt {c : Nat → Prop} {n : Nat} : fst c n < n ↔ ∃ j, j < n ∧ c j := by
  constructor
  · intro h; exact ⟨_, h, (fst_spec n).2 h⟩
  · rintro ⟨j, hj, hc⟩
    have hl := fst_le (c := c) n
    by_cases q : fst c n = n
    · exact absurd hc ((fst_spec (c := c) n).1 j (by omega))
    · omega
/-! loops -/
theorem lp {α : Type} (n : Nat) (P : Nat → α → Prop) (R : Nat → Prop) (h0 : ∀ a, P n a ↔ R n) (hs : ∀ i, i < n → (∀ a, P (i + 1) a ↔ R (i + 1)) → ∀ a, P i a ↔ R i) : ∀ i, i ≤ n → ∀ a, P i a ↔ R i := by
  have key : ∀ d i, i + d = n → ∀ a, P i a ↔ R i := by
    intro d
    induction d with
    | zero =>
      intro i h a
      have : i = n := by omega
      subst this
      exact h0 a
    | succ d ih =>
      intro i h a
      exact hs i (by omega) (ih (i + 1) (by omega)) a
  intro i h
  exact key (n - i) i (by omega)
theorem lp_all (n : Nat) (P : Nat → Prop) (hs : ∀ i, i < n → (P i ↔ P (i + 1))) : P 0 ↔ P n := by
  have h := lp n (fun i (_ : Unit) => P i) (fun _ => P n) (fun _ => Iff.rfl) (fun i hi ih _ => (hs i hi).trans (ih ())) 0 (Nat.zero_le n) ()
  exact h
theorem lp_fst (n : Nat) (P : Nat → Prop) (c : Nat → Prop) (E : Nat → Prop) (hs : ∀ i, i < n → (P i ↔ (c i → E i) ∧ (¬ c i → P (i + 1)))) : P 0 ↔ (fst c n < n → E (fst c n)) ∧ (¬ fst c n < n → P n) := by
  have key : ∀ i, i ≤ n → (∀ j, j < i → ¬ c j) → (P i ↔ (fst c n < n → E (fst c n)) ∧ (¬ fst c n < n → P n)) := by
    have k2 : ∀ d i, i + d = n → (∀ j, j < i → ¬ c j) → (P i ↔ (fst c n < n → E (fst c n)) ∧ (¬ fst c n < n → P n)) := by
      intro d
      induction d with
      | zero =>
        intro i h hj
        have : i = n := by omega
        subst this
        rw [fst_none hj]
        simp
      | succ d ih =>
        intro i h hj
        rw [hs i (by omega)]
        by_cases q : c i
        · rw [fst_eq (by omega) q hj]
          have : i < n := by omega
          simp [q, this]
        · rw [ih (i + 1) (by omega) (fun j hj2 => by
            by_cases e : j = i
            · subst e; exact q
            · exact hj j (by omega))]
          simp [q]
    intro i h
    exact k2 (n - i) i (by omega)
  exact key 0 (Nat.zero_le n) (fun j h => absurd h (Nat.not_lt_zero j))
theorem lp_ex (n : Nat) (P : Nat → Prop) (c : Nat → Prop) (E : Prop) (hs : ∀ i, i < n → (P i ↔ (c i → E) ∧ (¬ c i → P (i + 1)))) : P 0 ↔ ((∃ j, j < n ∧ c j) → E) ∧ ((¬ ∃ j, j < n ∧ c j) → P n) := by
  rw [lp_fst n P c (fun _ => E) hs, fst_lt]
theorem q_zb {Q : Option Value → zS → Prop} {σ : zS} {p : Prop} : ((p → Q (some (.int (nI 1))) σ) ∧ (¬ p → Q (some (.int (nI 0))) σ)) ↔ Q (some (.int (zb p))) σ := by
  by_cases h : p
  · rw [zb_t h]; simp only [h, not_true_eq_false, false_implies, and_true, true_implies]; exact Iff.rfl
  · rw [zb_f h]; simp only [h, not_false_eq_true, false_implies, true_and, true_implies]; exact Iff.rfl
