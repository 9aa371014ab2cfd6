/-! the law: what its walk needs -/
theorem somI_eq {v : Int32} {m k : Nat} (hm : 0 < m) (hm2 : m < 2 ^ 31) (hk : k < 2 ^ 31) : nI (som v m) = nI k ↔ som v m = k := nI_eq (Nat.lt_trans (som_lt hm) hm2) hk
def P0 (σ : zS) : Prop := ∀ p, p < 10 → σ.2.1 52 p = nI 0 ∧ σ.2.1 53 p = nI 0 ∧ ∀ v, v < 10 → σ.2.1 (55 + p) v = nI 0
theorem P0_ur {σ : zS} {a : Nat} {f : Nat → Int32} (h : P0 σ) (ha : ¬ a = 52 ∧ ¬ a = 53 ∧ ¬ (55 ≤ a ∧ a < 65)) : P0 (zur σ a f) := fun p hp => by
  rw [zS_ur2, zS_ur2, zS_ur2, if_neg (by omega), if_neg (by omega), if_neg (by omega)]
  exact h p hp
theorem P0_uf {σ : zS} {c j : Nat} {x : Int32} (h : P0 σ) : P0 (zuf σ c j x) := h
def K0 (σ : zS) (nv : Nat) : Prop := σ.1 10 5 = nI nv ∧ (∀ v, v < nv → σ.2.1 79 v = nI v) ∧ σ.1 7 4 = nI 0 ∧ σ.1 3 5 = nI 0 ∧ P0 σ
section K0S
variable {σ : zS} {nv : Nat}
theorem K0_uf {c j : Nat} {x : Int32} (h : K0 σ nv) (hc : ¬ (c = 10 ∧ j = 5) ∧ ¬ (c = 7 ∧ j = 4) ∧ ¬ (c = 3 ∧ j = 5)) : K0 (zuf σ c j x) nv := by
  obtain ⟨h1, h2, h3, h4, h5⟩ := h
  refine ⟨?_, h2, ?_, ?_, h5⟩
  · rw [zS_uf1, if_neg (by omega)]; exact h1
  · rw [zS_uf1, if_neg (by omega)]; exact h3
  · rw [zS_uf1, if_neg (by omega)]; exact h4
theorem K0_ur {a : Nat} {f : Nat → Int32} (h : K0 σ nv) (ha : ¬ a = 79 ∧ ¬ a = 52 ∧ ¬ a = 53 ∧ ¬ (55 ≤ a ∧ a < 65)) : K0 (zur σ a f) nv := by
  obtain ⟨h1, h2, h3, h4, h5⟩ := h
  refine ⟨h1, fun v hv => ?_, h3, h4, fun p hp => ?_⟩
  · rw [zS_ur2, if_neg (by omega)]; exact h2 v hv
  · rw [zS_ur2, zS_ur2, zS_ur2, if_neg (by omega), if_neg (by omega), if_neg (by omega)]; exact h5 p hp
theorem K0_ul {a : Nat} {f : Nat → Int64} (h : K0 σ nv) : K0 (zul σ a f) nv := h
theorem K0_e9 {τ : zS} (h : K0 σ nv) (k : eq9 σ τ) : K0 τ nv := by
  obtain ⟨h1, h2, h3, h4, h5⟩ := h
  obtain ⟨k1, k2, k3, k4⟩ := k
  rw [← k1 10 5 (by omega)] at h1
  rw [← k1 7 4 (by omega)] at h3
  rw [← k1 3 5 (by omega)] at h4
  rw [← k2 79 (by omega) (by omega)] at h2
  refine ⟨h1, h2, h3, h4, fun p hp => ?_⟩
  rw [k2 52 (by omega) (by omega), k2 53 (by omega) (by omega), k2 (55 + p) (by omega) (by omega)]
  exact h5 p hp
theorem K0_e6 {τ : zS} (h : K0 σ nv) (k : eq6 σ τ) : K0 τ nv := by
  obtain ⟨h1, h2, h3, h4, h5⟩ := h
  obtain ⟨k1, k2⟩ := k
  rw [← k1 10 5 (by omega)] at h1
  rw [← k1 7 4 (by omega)] at h3
  rw [← k1 3 5 (by omega)] at h4
  unfold P0 at h5
  rw [← k2] at h2 h5
  exact ⟨h1, h2, h3, h4, h5⟩
end K0S
section PN
variable {sn : Nat} {sf : Nat → Int32} {nb : Nat} {is : List Instr} {L : zL} {σ : zS} {Q : Option Value → zS → Prop}
theorem PN_new0 : PW (sn, sf, 0) 63 (.newarray .int :: is) nb L [.int (nI 5)] σ Q ↔ PW (sn, sf, 1) 63 is nb (L.map (zfg 93)) [.ref 93] (zur σ 93 (fun _ => nI 0)) Q := PW_new0
theorem PN_new1 : PW (sn, sf, 1) 63 (.newarray .int :: is) nb L [.int (nI 5)] σ Q ↔ PW (sn, sf, 2) 63 is nb (L.map (zfg 94)) [.ref 94] (zur σ 94 (fun _ => nI 0)) Q := PW_new1
theorem PN_new2 : PW (sn, sf, 2) 63 (.newarray .int :: is) nb L [.int (nI 5)] σ Q ↔ PW (sn, sf, 3) 63 is nb (L.map (zfg 95)) [.ref 95] (zur σ 95 (fun _ => nI 0)) Q := PW_new2
theorem PN_new3 : PW (sn, sf, 3) 63 (.newarray .int :: is) nb L [.int (nI 30)] σ Q ↔ PW (sn, sf, 4) 63 is nb (L.map (zfg 96)) [.ref 96] (zur σ 96 (fun _ => nI 0)) Q := PW_new3
theorem PN_new4 : PW (sn, sf, 4) 63 (.newarray .int :: is) nb L [.int (nI 40)] σ Q ↔ PW (sn, sf, 5) 63 is nb (L.map (zfg 97)) [.ref 97] (zur σ 97 (fun _ => nI 0)) Q := PW_new4
theorem PN_new5 : PW (sn, sf, 5) 63 (.newarray .int :: is) nb L [.int (nI 2)] σ Q ↔ PW (sn, sf, 6) 63 is nb (L.map (zfg 98)) [.ref 98] (zur σ 98 (fun _ => nI 0)) Q := PW_new5
theorem PN_new6 : PW (sn, sf, 6) 63 (.newarray .int :: is) nb L [.int (nI 4)] σ Q ↔ PW (sn, sf, 7) 63 is nb (L.map (zfg 99)) [.ref 99] (zur σ 99 (fun _ => nI 0)) Q := PW_new6
theorem PN_new7 : PW (sn, sf, 7) 63 (.newarray .int :: is) nb L [.int (nI 4)] σ Q ↔ PW (sn, sf, 8) 63 is nb (L.map (zfg 100)) [.ref 100] (zur σ 100 (fun _ => nI 0)) Q := PW_new7
theorem PN_new8 : PW (sn, sf, 8) 63 (.newarray .int :: is) nb L [.int (nI 8)] σ Q ↔ PW (sn, sf, 9) 63 is nb (L.map (zfg 101)) [.ref 101] (zur σ 101 (fun _ => nI 0)) Q := PW_new8
theorem PN_new9 : PW (sn, sf, 9) 63 (.newarray .long :: is) nb L [.int (nI 4)] σ Q ↔ PW (sn, sf, 10) 63 is nb (L.map (zfg 102)) [.ref 102] (zul σ 102 (fun _ => 0)) Q := PW_new9
theorem PN_newx {t : Nat} (h : t < 10) : PW (sn, sf, 10 + t) 63 (.newarray .long :: is) nb L [.int (nI 4)] σ Q ↔ PW (sn, sf, 10 + (t + 1)) 63 is nb (L.map (zfg (102 + (t + 1)))) [.ref (102 + (t + 1))] (zul σ (102 + (t + 1)) (fun _ => 0)) Q := PW_newx h
end PN
