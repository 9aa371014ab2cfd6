/-! the law: what its walk needs -/
theorem somI_eq {v : Int32} {m k : Nat} (hm : 0 < m) (hm2 : m < 2 ^ 31) (hk : k < 2 ^ 31) : nI (som v m) = nI k ↔ som v m = k := nI_eq (Nat.lt_trans (som_lt hm) hm2) hk
def K0 (σ : zS) (nv : Nat) : Prop := σ.1 10 5 = nI nv ∧ (∀ v, v < nv → σ.2.1 79 v = nI v) ∧ σ.1 7 4 = nI 0 ∧ σ.1 3 5 = nI 0 ∧ ∀ p, p < 10 → σ.2.1 52 p = nI 0 ∧ σ.2.1 53 p = nI 0
section K0S
variable {σ : zS} {nv : Nat}
theorem K0_uf {c j : Nat} {x : Int32} (h : K0 σ nv) (hc : ¬ (c = 10 ∧ j = 5) ∧ ¬ (c = 7 ∧ j = 4) ∧ ¬ (c = 3 ∧ j = 5)) : K0 (zuf σ c j x) nv := by
  obtain ⟨h1, h2, h3, h4, h5⟩ := h
  refine ⟨?_, h2, ?_, ?_, h5⟩
  · rw [zS_uf1, if_neg (by omega)]; exact h1
  · rw [zS_uf1, if_neg (by omega)]; exact h3
  · rw [zS_uf1, if_neg (by omega)]; exact h4
theorem K0_ur {a : Nat} {f : Nat → Int32} (h : K0 σ nv) (ha : ¬ a = 79 ∧ ¬ a = 52 ∧ ¬ a = 53) : K0 (zur σ a f) nv := by
  obtain ⟨h1, h2, h3, h4, h5⟩ := h
  refine ⟨h1, fun v hv => ?_, h3, h4, fun p hp => ?_⟩
  · rw [zS_ur2, if_neg (by omega)]; exact h2 v hv
  · rw [zS_ur2, zS_ur2, if_neg (by omega), if_neg (by omega)]; exact h5 p hp
theorem K0_ul {a : Nat} {f : Nat → Int64} (h : K0 σ nv) : K0 (zul σ a f) nv := h
theorem K0_e9 {τ : zS} (h : K0 σ nv) (k : eq9 σ τ) : K0 τ nv := by
  obtain ⟨h1, h2, h3, h4, h5⟩ := h
  obtain ⟨k1, k2, k3, k4⟩ := k
  rw [← k1 10 5 (by omega)] at h1
  rw [← k1 7 4 (by omega)] at h3
  rw [← k1 3 5 (by omega)] at h4
  rw [← k2 79 (by omega) (by omega)] at h2
  rw [← k2 52 (by omega) (by omega), ← k2 53 (by omega) (by omega)] at h5
  exact ⟨h1, h2, h3, h4, h5⟩
theorem K0_e6 {τ : zS} (h : K0 σ nv) (k : eq6 σ τ) : K0 τ nv := by
  obtain ⟨h1, h2, h3, h4, h5⟩ := h
  obtain ⟨k1, k2⟩ := k
  rw [← k1 10 5 (by omega)] at h1
  rw [← k1 7 4 (by omega)] at h3
  rw [← k1 3 5 (by omega)] at h4
  rw [← k2] at h2 h5
  exact ⟨h1, h2, h3, h4, h5⟩
end K0S
