/-! the law from its first block -/
theorem law_all {sn : Nat} {sf : Nat → Int32} {Q : Option Value → zS → Prop} {σ : zS} (hn : sn < 2 ^ 31) (h : J1 σ 0) (hQ : ∀ S, Q (some (.int (nI 1))) S) : PW (sn, sf, 0) 63 (zblk 63 0) 1 [some (.ref 134), some (.ref 11), none, none, none, none, none, none, none, none, none, none, none, none, none, none, none, none, none, none, none, none, none, none, none, none, none, none, none, none, none, none, none, none, none, none, none, none, none] [] (σ) Q := by
  refine seg1 hn h (fun nv σ a b h1 => seg2 hn ⟨a, b⟩ h1 (fun σ m hm h2 => seg3 ⟨a, b⟩ hm h2 (fun τ k => seg4 hn k (fun τ k => seg5 hn k (fun τ M s hM hs j => seg6 hn ⟨a, b⟩ hM hs j (fun τ h27 k p => seg7 ⟨a, b⟩ k p (fun τ h27 h28 k => seg8 hn ⟨a, b⟩ k (fun τ n T U pl p1 p2 P L => ?_))))))))
  have g := som_lt (v := cel sn sf 40) (m := 4) (by omega)
  have P7 := P.2.2.2.2.2.2.1
  obtain ⟨D, k1, k2, k3, -⟩ := d7_55 p2 b P L (h := 1 + som (cel sn sf 40) 4) (by omega) (sc := (sn, sf, 0))
  have hm : mvs (τ.2.1 99) (τ.2.1 100) pl < 2 ^ 8 := Nat.lt_pow_two_of_testBit _ (fun i hi => by
    cases c : (mvs (τ.2.1 99) (τ.2.1 100) pl).testBit i
    · rfl
    · rcases (mvs_bit p2).mp c with y | y <;> omega)
  refine seg9 p2 b rfl rfl (fun q hq => ⟨(P7 q hq).1, (P7 q hq).2.1⟩) (seg10 hn rfl k1 hm (A := mvA (τ.2.1 99) (τ.2.1 100) pl) (fun b hb => ⟨?_, mvA_lt p2⟩) k2 k3 (fun τ' e1 e2 => ?_))
  · rw [zS_ur2, if_pos rfl]
    exact gAh_A
  · have sd : sD τ' τ := ⟨fun c j _ => by rw [e1]; rfl, fun a ha => by
      rw [e2, zS_ur2, if_neg (by omega)]⟩
    have e99 := sd.2 99 (by omega)
    have e100 := sd.2 100 (by omega)
    exact seg11 p2 b (P8_sD sd P) (L8_sD sd L) (by omega) k1 (by rw [e99, e100]; exact k2) (by rw [e99, e100]; exact k3) hQ
