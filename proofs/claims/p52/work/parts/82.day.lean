/-! the trips of a day -/
theorem n_cl {k : Nat} (h : k < 2 ^ 31) : (nI k).toNatClampNeg = k := by
  show (nI k).toInt.toNat = k
  rw [nI_toInt h]
  exact Int.toNat_natCast k
noncomputable def ix (c : Nat → Prop) : Nat → Nat → Nat
  | 0, _ => 0
  | n + 1, i => cif (c n ∧ cnt c n = i) n (ix c n i)
theorem cnt_mono {c : Nat → Prop} {a : Nat} : ∀ {b : Nat}, a ≤ b → cnt c a ≤ cnt c b
  | 0, h => by rw [show a = 0 by omega]; exact Nat.le_refl _
  | b + 1, h => by
    by_cases z : a = b + 1
    · subst z; exact Nat.le_refl _
    · have ih := cnt_mono (c := c) (show a ≤ b by omega)
      by_cases q : c b
      · rw [cnt_t q]; omega
      · rw [cnt_f q]; exact ih
theorem ix_of {c : Nat → Prop} {t : Nat} (h : c t) : ∀ {n : Nat}, t < n → ix c n (cnt c t) = t
  | 0, q => absurd q (Nat.not_lt_zero t)
  | n + 1, q => by
    by_cases z : t = n
    · subst z
      exact cif_t ⟨h, rfl⟩
    · have h1 : cnt c (t + 1) = cnt c t + 1 := cnt_t h
      have h2 := cnt_mono (c := c) (show t + 1 ≤ n by omega)
      exact (cif_f (fun w => by have := w.2; omega)).trans (ix_of h (by omega))
theorem cnt_le2 {c d : Nat → Prop} {e : Nat → Prop} : ∀ {n : Nat}, (∀ j, j < n → c j → d j ∨ e j) → cnt c n ≤ cnt d n + cnt e n
  | 0, _ => Nat.zero_le _
  | n + 1, h => by
    have ih := cnt_le2 (fun j hj => h j (by omega) : ∀ j, j < n → c j → d j ∨ e j)
    have hd := cnt_mono (c := d) (show n ≤ n + 1 by omega)
    have he := cnt_mono (c := e) (show n ≤ n + 1 by omega)
    by_cases q : c n
    · rw [cnt_t q]
      rcases h n (by omega) q with w | w
      · rw [cnt_t w]; omega
      · rw [cnt_t w]; omega
    · rw [cnt_f q]; omega
theorem cnt_one1 {c : Nat → Prop} : ∀ {n : Nat}, (∀ a b, a < n → b < n → c a → c b → a = b) → cnt c n ≤ 1
  | 0, _ => Nat.zero_le _
  | n + 1, h => by
    by_cases q : c n
    · rw [cnt_t q]
      have : cnt c n ≤ 0 := cnt_pos.mpr (fun ⟨j, hj, cj⟩ => by have := h j n (by omega) (by omega) cj q; omega)
      omega
    · rw [cnt_f q]
      exact cnt_one1 (fun a b ha hb => h a b (by omega) (by omega))
theorem cnt_pig {c : Nat → Prop} {f : Nat → Nat} {n : Nat} : ∀ K, (∀ j, j < n → c j → f j < K) → (∀ a b, a < n → b < n → c a → c b → f a = f b → a = b) → cnt c n ≤ K
  | 0, h, _ => cnt_pos.mpr (fun ⟨j, hj, cj⟩ => absurd (h j hj cj) (Nat.not_lt_zero _))
  | K + 1, h, hi => by
    have h1 := cnt_le2 (c := c) (d := fun j => c j ∧ ¬ f j = K) (e := fun j => c j ∧ f j = K) (n := n) (fun j _ cj => by
      by_cases q : f j = K
      · exact Or.inr ⟨cj, q⟩
      · exact Or.inl ⟨cj, q⟩)
    have h2 := cnt_pig (c := fun j => c j ∧ ¬ f j = K) (f := f) K (fun j hj cj => by have := h j hj cj.1; have := cj.2; omega) (fun a b ha hb ca cb => hi a b ha hb ca.1 cb.1)
    have h3 := cnt_one1 (c := fun j => c j ∧ f j = K) (n := n) (fun a b ha hb ca cb => hi a b ha hb ca.1 cb.1 (ca.2.trans cb.2.symm))
    omega
/-- how a trip is told, and its violin's worth -/
def pcd (x : Int32) : Nat := if x = -1 then 2 else if x = nI 1 then 1 else 0
section DY
variable (V D B W : Nat → Int32) (d : Int32) (n : Nat)
def onD (t : Nat) : Prop := D t = d
noncomputable def dM : Nat := cnt (onD D d) n
noncomputable def tj (j : Nat) : Nat := ix (onD D d) n (dM D d n - 1 - j)
noncomputable def dP (j : Nat) : Nat := pcd (B (tj D d n j))
noncomputable def dX (j : Nat) : Nat := (W (V (tj D d n j)).toNatClampNeg).toNatClampNeg
/-- what holds of the trips told -/
def trp : Prop := n ≤ 40 ∧ (∀ t, t < n → (∃ v, v < 10 ∧ V t = nI v) ∧ zn (D t) 100000 ∧ (B t = -1 ∨ zn (B t) 1)) ∧ (∀ t u, t < n → u < n → t ≠ u → V t = V u → D t ≠ D u) ∧ ∀ v, v < 10 → zn (W v) 1000000
variable {V D B W d n}
theorem dM_le (h : trp V D B W n) : dM D d n ≤ 10 := by
  obtain ⟨h1, h2, h3, h4⟩ := h
  refine cnt_pig (f := fun t => (V t).toNatClampNeg) 10 (fun j hj _ => ?_) (fun a b ha hb ca cb e => ?_)
  · obtain ⟨⟨v, v1, v2⟩, _⟩ := h2 j hj
    show (V j).toNatClampNeg < 10
    rw [v2, n_cl (by omega)]
    exact v1
  · refine Classical.byContradiction (fun q => h3 a b ha hb q ?_ ?_)
    · obtain ⟨⟨v, v1, v2⟩, _⟩ := h2 a ha
      obtain ⟨⟨u, u1, u2⟩, _⟩ := h2 b hb
      have e' : (V a).toNatClampNeg = (V b).toNatClampNeg := e
      rw [v2, u2, n_cl (by omega), n_cl (by omega)] at e'
      rw [v2, u2, e']
    · have ca' : D a = d := ca
      have cb' : D b = d := cb
      rw [ca', cb']
/-- the item that a trip of the day is -/
theorem tj_of {t : Nat} (ht : t < n) (h : onD D d t) : cnt (onD D d) t < dM D d n ∧ tj D d n (dM D d n - cnt (onD D d) (t + 1)) = t := by
  have h1 : cnt (onD D d) (t + 1) = cnt (onD D d) t + 1 := cnt_t h
  have h2 := cnt_mono (c := onD D d) (show t + 1 ≤ n from ht)
  have h3 : dM D d n = cnt (onD D d) n := rfl
  refine ⟨by omega, ?_⟩
  unfold tj
  rw [show dM D d n - 1 - (dM D d n - cnt (onD D d) (t + 1)) = cnt (onD D d) t by omega]
  exact ix_of h ht
theorem pcd_2 {x : Int32} : pcd x = 2 ↔ x = -1 := by
  unfold pcd
  by_cases h : x = -1
  · rw [if_pos h]; exact ⟨fun _ => h, fun _ => rfl⟩
  · rw [if_neg h]
    constructor
    · intro w
      split at w <;> omega
    · exact fun w => absurd w h
theorem pcd_n {k : Nat} (h : k ≤ 1) : pcd (nI k) = k := by
  rcases (show k = 0 ∨ k = 1 by omega) with rfl | rfl <;> decide
/-- free trips of the day from t on -/
theorem fr_cnt : ∀ k t, t + k = n → frn (dP D B d n) (dM D d n - cnt (onD D d) t) + cnt (fun t => onD D d t ∧ B t = -1) t = cnt (fun t => onD D d t ∧ B t = -1) n
  | 0, t, h => by
    rw [show t = n by omega, show dM D d n - cnt (onD D d) n = 0 from Nat.sub_self _]
    exact Nat.zero_add _
  | k + 1, t, h => by
    have ih := fr_cnt k (t + 1) (by omega)
    by_cases q : onD D d t
    · obtain ⟨a, b⟩ := tj_of (show t < n by omega) q
      have h1 : cnt (onD D d) (t + 1) = cnt (onD D d) t + 1 := cnt_t q
      rw [show dM D d n - cnt (onD D d) t = dM D d n - cnt (onD D d) (t + 1) + 1 by omega]
      have hp : dP D B d n (dM D d n - cnt (onD D d) (t + 1)) = pcd (B t) := by
        unfold dP
        rw [b]
      by_cases q2 : B t = -1
      · rw [frn_t (hp.trans (pcd_2.mpr q2))]
        rw [cnt_t (c := fun t => onD D d t ∧ B t = -1) ⟨q, q2⟩] at ih
        omega
      · rw [frn_f (fun z => q2 (pcd_2.mp (hp.symm.trans z)))]
        rw [cnt_f (c := fun t => onD D d t ∧ B t = -1) (fun z => q2 z.2)] at ih
        exact ih
    · rw [cnt_f q, cnt_f (c := fun t => onD D d t ∧ B t = -1) (fun z => q z.1)] at ih
      exact ih
end DY
