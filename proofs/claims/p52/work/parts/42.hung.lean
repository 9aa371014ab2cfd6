/-! THE CHEAPEST SEATING, as numbers: prices and augmenting paths -/
theorem cnt_one {c d : Nat → Prop} {x : Nat} : ∀ {n : Nat}, x < n → ¬ c x → d x → (∀ j, j < n → j ≠ x → (d j ↔ c j)) → cnt d n = cnt c n + 1
  | 0, h, _, _, _ => absurd h (Nat.not_lt_zero _)
  | n + 1, h, hc, hd, he => by
    by_cases q : x = n
    · subst q
      rw [cnt_t hd, cnt_f hc, cnt_congr (fun i hi => he i (by omega) (by omega))]
    · have ih := cnt_one (c := c) (d := d) (x := x) (n := n) (by omega) hc hd (fun j hj => he j (by omega))
      by_cases p : c n
      · rw [cnt_t ((he n (by omega) (fun e => q e.symm)).mpr p), cnt_t p, ih]
      · rw [cnt_f (fun e => p ((he n (by omega) (fun e => q e.symm)).mp e)), cnt_f p, ih]
theorem cnt_all {c : Nat → Prop} : ∀ {n : Nat}, (∀ j, j < n → c j) → cnt c n = n
  | 0, _ => rfl
  | n + 1, h => by rw [cnt_t (h n (by omega)), cnt_all (fun j hj => h j (by omega))]
theorem cnt_no {c : Nat → Prop} : ∀ {n : Nat}, (∀ j, j < n → ¬ c j) → cnt c n = 0
  | 0, _ => rfl
  | n + 1, h => by rw [cnt_f (h n (by omega)), cnt_no (fun j hj => h j (by omega))]
def sm (f : Nat → Int) : Nat → Int
  | 0 => 0
  | n + 1 => sm f n + f n
