/-! the cheapest seating gives the best lending -/
def hg_c (nv : Nat) (t : Nat → Nat → Nat) (i j : Nat) : Int := if nv < j then ((10 * 11 ^ (10 - i) : Nat) : Int) else if t (i - 1) (j - 1) = 0 then 1000000000000000 else (((j - 1) * 11 ^ (10 - i) : Nat) : Int) - (t (i - 1) (j - 1) : Int) * 25937424601
theorem hg_pw {i : Nat} (h1 : 1 ≤ i) : 11 ^ (10 - i) ≤ 2357947691 := by
  have : 11 ^ (10 - i) ≤ 11 ^ 9 := Nat.pow_le_pow_right (by omega) (by omega)
  have e : (11 : Nat) ^ 9 = 2357947691 := by decide
  omega
theorem hg_cC {m n nv : Nat} {t : Nat → Nat → Nat} (hnv : nv ≤ 10) (ht : ∀ p v, t p v ≤ 99) : hg_C m n (hg_c nv t) := by
  intro i j h1 _ h3 _
  have hp := hg_pw h1
  have h99 := ht (i - 1) (j - 1)
  unfold hg_c
  split
  · omega
  · split
    · omega
    · have : (j - 1) * 11 ^ (10 - i) ≤ 10 * 11 ^ (10 - i) := Nat.mul_le_mul_right _ (by omega)
      omega
noncomputable def hg_s (m : Nat) (S : Nat → Nat) (p : Nat) : Nat := fst (fun j => S (j + 1) = p + 1) m + 1
noncomputable def hg_r (m nv : Nat) (S : Nat → Nat) (p : Nat) : Nat := if hg_s m S p ≤ nv then hg_s m S p - 1 else 10
theorem sm_const {x : Int} : ∀ {n : Nat}, sm (fun _ => x) n = (n : Int) * x
  | 0 => by simp [sm]
  | n + 1 => by
    simp only [sm]
    rw [sm_const (n := n)]
    push_cast
    rw [Int.add_mul, Int.one_mul]
theorem sm_key {t : Nat → Nat → Nat} {r : Nat → Nat} : ∀ {n : Nat}, sm (fun p => ((r p * 11 ^ (9 - p) : Nat) : Int) - (bl_val t p (r p) : Int) * 25937424601) n = (bl_D r n : Int) - (bl_sum t r n : Int) * 25937424601
  | 0 => by simp [sm, bl_D, bl_sum]
  | n + 1 => by
    simp only [sm, bl_D, bl_sum]
    rw [sm_key (n := n)]
    generalize r n * 11 ^ (9 - n) = a
    push_cast
    omega
theorem hg_cr {nv : Nat} {t : Nat → Nat → Nat} {p v : Nat} (hv : v < nv) (hnv : nv ≤ 10) (ht : 0 < t p v) : hg_c nv t (p + 1) (v + 1) = ((v * 11 ^ (9 - p) : Nat) : Int) - (bl_val t p v : Int) * 25937424601 := by
  unfold hg_c bl_val
  rw [if_neg (by omega), show p + 1 - 1 = p by omega, show v + 1 - 1 = v by omega, if_neg (by omega), if_neg (by omega), show 10 - (p + 1) = 9 - p by omega]
theorem hg_cn {nv : Nat} {t : Nat → Nat → Nat} {p j : Nat} (hj : nv < j) : hg_c nv t (p + 1) j = ((10 * 11 ^ (9 - p) : Nat) : Int) - (bl_val t p 10 : Int) * 25937424601 := by
  unfold hg_c bl_val
  rw [if_pos hj, if_pos rfl, show 10 - (p + 1) = 9 - p by omega]
  omega
theorem hg_best {np nv : Nat} {t : Nat → Nat → Nat} {S : Nat → Nat} {w u : Nat → Int} (hnp : np ≤ 10) (hnv : nv ≤ 10) (ht : ∀ p v, t p v ≤ 99) (h : hg_base (nv + np) np (hg_c nv t) S w u) : bl_best np nv t (hg_r (nv + np) nv S) := by
  have hb := h
  obtain ⟨b1, b2, b3, b4, b5, b6, b7, b8⟩ := h
  have hs : ∀ p, p < np → 1 ≤ hg_s (nv + np) S p ∧ hg_s (nv + np) S p ≤ nv + np ∧ S (hg_s (nv + np) S p) = p + 1 := by
    intro p hp
    obtain ⟨j, j1, j2, j3⟩ := b3 (p + 1) (by omega) (by omega)
    have hl : fst (fun j => S (j + 1) = p + 1) (nv + np) < nv + np := fst_lt.mpr ⟨j - 1, by omega, by show S (j - 1 + 1) = p + 1; rw [show j - 1 + 1 = j by omega]; exact j3⟩
    have := (fst_spec (c := fun j => S (j + 1) = p + 1) (nv + np)).2 hl
    unfold hg_s
    exact ⟨by omega, by omega, this⟩
  have hinj : ∀ p q, p < np → q < np → hg_s (nv + np) S p = hg_s (nv + np) S q → p = q := by
    intro p q hp hq e
    have a := (hs p hp).2.2
    have b := (hs q hq).2.2
    rw [e] at a
    omega
  -- no forbidden seat
  have hcost : ∀ i j, 1 ≤ i → i ≤ np → 1 ≤ j → j ≤ nv + np → -2567805035499 ≤ hg_c nv t i j := by
    intro i j h1 _ h3 _
    have hp := hg_pw h1
    have h99 := ht (i - 1) (j - 1)
    unfold hg_c
    split
    · omega
    · split
      · omega
      · omega
  have hnone : sm (fun i => hg_c nv t (i + 1) (hg_s (nv + np) S i)) np ≤ sm (fun i => hg_c nv t (i + 1) (nv + i + 1)) np :=
    hg_opt hb hs (fun i hi => ⟨by omega, by omega⟩) (fun i j _ _ e => by omega)
  have hnone2 : sm (fun i => hg_c nv t (i + 1) (nv + i + 1)) np ≤ (np : Int) * 23579476910 := by
    rw [← sm_const]
    apply sm_le
    intro i hi
    have := hg_pw (i := i + 1) (by omega)
    unfold hg_c
    rw [if_pos (by omega)]
    omega
  have hfree : ∀ p, p < np → hg_s (nv + np) S p ≤ nv → 0 < t p (hg_s (nv + np) S p - 1) := by
    intro p hp hle
    apply Classical.byContradiction
    intro hz
    have hz' : t p (hg_s (nv + np) S p - 1) = 0 := by omega
    have h1 : sm (fun i => (if i = p then (fun _ => (1002567805035499 : Int)) i else 0) + (-2567805035499)) np ≤ sm (fun i => hg_c nv t (i + 1) (hg_s (nv + np) S i)) np := by
      apply sm_le
      intro i hi
      have := hs i hi
      have := hcost (i + 1) (hg_s (nv + np) S i) (by omega) (by omega) (by omega) (by omega)
      by_cases q : i = p
      · subst q
        have e : hg_c nv t (i + 1) (hg_s (nv + np) S i) = 1000000000000000 := by
          unfold hg_c
          rw [if_neg (by omega), show i + 1 - 1 = i by omega, if_pos hz']
        rw [e, if_pos rfl]
        show (1002567805035499 : Int) + -2567805035499 ≤ 1000000000000000
        omega
      · rw [if_neg q]
        omega
    rw [sm_add, sm_pt hp, sm_const] at h1
    omega
  have hkey : ∀ p, p < np → hg_c nv t (p + 1) (hg_s (nv + np) S p) = ((hg_r (nv + np) nv S p * 11 ^ (9 - p) : Nat) : Int) - (bl_val t p (hg_r (nv + np) nv S p) : Int) * 25937424601 := by
    intro p hp
    have a := hs p hp
    unfold hg_r
    split
    · rename_i hle
      have := hg_cr (nv := nv) (t := t) (p := p) (v := hg_s (nv + np) S p - 1) (by omega) hnv (hfree p hp hle)
      rw [show hg_s (nv + np) S p - 1 + 1 = hg_s (nv + np) S p by omega] at this
      exact this
    · exact hg_cn (by omega)
  refine bl_of_key hnp hnv ⟨fun p hp => ?_, fun p q hp hq hne h10 e => ?_⟩ (fun r' ok' => ?_)
  · have a := hs p hp
    unfold hg_r
    split
    · rename_i hle
      exact Or.inr ⟨by omega, hfree p hp hle⟩
    · exact Or.inl rfl
  · have a := hs p hp
    have b := hs q hq
    have hp10 : hg_s (nv + np) S p ≤ nv := by
      apply Classical.byContradiction
      intro z
      apply h10
      unfold hg_r
      rw [if_neg z]
    unfold hg_r at e h10
    rw [if_pos hp10] at e h10
    split at e
    · exact hne (hinj p q hp hq (by omega))
    · exact h10 e
  · rw [← sm_key, ← sm_key]
    have e1 : sm (fun p => ((hg_r (nv + np) nv S p * 11 ^ (9 - p) : Nat) : Int) - (bl_val t p (hg_r (nv + np) nv S p) : Int) * 25937424601) np = sm (fun i => hg_c nv t (i + 1) (hg_s (nv + np) S i)) np := sm_congr (fun p hp => (hkey p hp).symm)
    have e2 : sm (fun p => ((r' p * 11 ^ (9 - p) : Nat) : Int) - (bl_val t p (r' p) : Int) * 25937424601) np = sm (fun i => hg_c nv t (i + 1) (if r' i = 10 then nv + i + 1 else r' i + 1)) np := by
      apply sm_congr
      intro p hp
      show _ = hg_c nv t (p + 1) (if r' p = 10 then nv + p + 1 else r' p + 1)
      by_cases q : r' p = 10
      · rw [if_pos q, hg_cn (by omega), q]
      · rw [if_neg q]
        rcases ok'.1 p hp with z | ⟨z1, z2⟩
        · exact absurd z q
        · rw [hg_cr z1 hnv z2]
    rw [e1, e2]
    refine hg_opt hb hs (τ := fun i => if r' i = 10 then nv + i + 1 else r' i + 1) (fun i hi => ?_) (fun i j hi hj e => ?_)
    · show 1 ≤ (if r' i = 10 then nv + i + 1 else r' i + 1) ∧ (if r' i = 10 then nv + i + 1 else r' i + 1) ≤ nv + np
      rcases ok'.1 i hi with z | ⟨z1, z2⟩
      · rw [if_pos z]; omega
      · split <;> omega
    · have e' : (if r' i = 10 then nv + i + 1 else r' i + 1) = (if r' j = 10 then nv + j + 1 else r' j + 1) := e
      have ki := ok'.1 i hi
      have kj := ok'.1 j hj
      by_cases zi : r' i = 10
      · by_cases zj : r' j = 10
        · rw [if_pos zi, if_pos zj] at e'; omega
        · rw [if_pos zi, if_neg zj] at e'; omega
      · by_cases zj : r' j = 10
        · rw [if_neg zi, if_pos zj] at e'; omega
        · rw [if_neg zi, if_neg zj] at e'
          apply Classical.byContradiction
          intro hne
          exact ok'.2 i j hi hj hne zi (by omega)
