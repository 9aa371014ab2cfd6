/-! WHAT BOTH SIDES HOLD: the relation between the class's cells and the reference's -/
def zn (x : Int32) (n : Nat) : Prop := ∃ k : Nat, k ≤ n ∧ x = nI k
def VF (c j : Nat) : Prop := (c = 10 ∧ j = 5) ∨ (c = 12 ∧ j = 2)
def VR (a : Nat) : Prop := (78 ≤ a ∧ a ≤ 95) ∨ a = 128 ∨ a = 129
def RV (σ : zS) (nv : Nat) : Prop := nv ≤ 10 ∧ σ.1 10 5 = nI nv ∧ σ.1 12 2 = nI nv ∧ σ.2.1 78 = σ.2.1 93 ∧ σ.2.1 79 = σ.2.1 94 ∧ σ.2.1 80 = σ.2.1 95 ∧ σ.2.1 81 = σ.2.1 128 ∧
  (∀ v, v < 10 → ∀ j, j < 20 → σ.2.1 (83 + v) j = σ.2.1 129 (20 * v + j)) ∧ (∀ v, v < 10 → zn (σ.2.1 93 v) 2) ∧ (∀ v, v < 10 → zn (σ.2.1 94 v) 9) ∧ (∀ v, v < 10 → zn (σ.2.1 95 v) 1000000) ∧ (∀ v, v < 10 → zn (σ.2.1 128 v) 20) ∧ (∀ j, j < 200 → zn (σ.2.1 129 j) 255)
def PF (c j : Nat) : Prop := (c = 7 ∧ j = 4) ∨ (c = 12 ∧ j = 6)
def PR (a : Nat) : Prop := a = 51 ∨ (55 ≤ a ∧ a ≤ 64) ∨ a = 96 ∨ a = 97
def RP (σ : zS) (np : Nat) : Prop := np ≤ 10 ∧ σ.1 7 4 = nI np ∧ σ.1 12 6 = nI np ∧ σ.2.1 51 = σ.2.1 96 ∧ (∀ p, p < 10 → ∀ v, v < 10 → σ.2.1 (55 + p) v = σ.2.1 97 (10 * p + v)) ∧ (∀ j, j < 100 → zn (σ.2.1 97 j) 99) ∧ (∀ p, p < 10 → zn (σ.2.1 96 p) 99)
def DF (_c _j : Nat) : Prop := False
def DR (a : Nat) : Prop := a = 52 ∨ a = 98
/-- told to have had -/
def RD (σ : zS) : Prop := ∀ p, p < 10 → ∃ s : Nat, s < 1024 ∧ σ.2.1 52 p = nI s ∧ ∀ m, m < 10 → σ.2.1 98 (10 * p + m) = zb (s.testBit m = true)
def LF (c j : Nat) : Prop := (c = 3 ∧ j = 5) ∨ (c = 12 ∧ j = 19)
def LR (a : Nat) : Prop := (39 ≤ a ∧ a ≤ 43) ∨ a = 53 ∨ a = 94 ∨ (108 ≤ a ∧ a ≤ 112)
def RLo (σ : zS) (nv np nl : Nat) : Prop := nl ≤ 40 ∧ σ.1 3 5 = nI nl ∧ σ.1 12 19 = nI nl ∧ σ.2.1 39 = σ.2.1 108 ∧ σ.2.1 40 = σ.2.1 109 ∧ σ.2.1 41 = σ.2.1 110 ∧ σ.2.1 42 = σ.2.1 111 ∧ σ.2.1 43 = σ.2.1 112 ∧
  (∀ l, l < nl → (∃ p, p < np ∧ σ.2.1 108 l = nI p) ∧ (∃ v, v < nv ∧ σ.2.1 109 l = nI v) ∧ zn (σ.2.1 110 l) 100000 ∧ zn (σ.2.1 111 l) 100000 ∧ σ.2.1 110 l ≤ σ.2.1 111 l ∧ (σ.2.1 112 l = -9 ∨ zn (σ.2.1 112 l) 100000)) ∧
  (∀ l m, l < nl → m < nl → l ≠ m → (σ.2.1 108 l = σ.2.1 108 m ∨ σ.2.1 109 l = σ.2.1 109 m) → ∀ d : Int32, ¬ (σ.2.1 110 l ≤ d ∧ d ≤ σ.2.1 111 l ∧ σ.2.1 110 m ≤ d ∧ d ≤ σ.2.1 111 m)) ∧
  (∀ p, p < 10 → ∃ s : Nat, s < 1024 ∧ σ.2.1 53 p = nI s ∧ ∀ m, m < 10 → (s.testBit m = true ↔ ∃ l, l < nl ∧ σ.2.1 108 l = nI p ∧ σ.2.1 94 (σ.2.1 109 l).toNatClampNeg = nI m))
def KF (c j : Nat) : Prop := (c = 4 ∧ j = 3) ∨ (c = 12 ∧ j = 25)
def KR (a : Nat) : Prop := (44 ≤ a ∧ a ≤ 46) ∨ (113 ≤ a ∧ a ≤ 115)
def RK (σ : zS) (nk : Nat) : Prop := nk ≤ 40 ∧ σ.1 4 3 = nI nk ∧ σ.1 12 25 = nI nk ∧ σ.2.1 44 = σ.2.1 113 ∧ σ.2.1 45 = σ.2.1 114 ∧ σ.2.1 46 = σ.2.1 115 ∧ (∀ l, l < nk → zn (σ.2.1 114 l) 100000 ∧ zn (σ.2.1 115 l) 65535)
def HF (c j : Nat) : Prop := (c = 1 ∧ j = 4) ∨ (c = 12 ∧ j = 36)
def HR (a : Nat) : Prop := (15 ≤ a ∧ a ≤ 18) ∨ (120 ≤ a ∧ a ≤ 123)
def RH (σ : zS) (nh : Nat) : Prop := nh ≤ 40 ∧ σ.1 1 4 = nI nh ∧ σ.1 12 36 = nI nh ∧ σ.2.1 15 = σ.2.1 120 ∧ σ.2.1 16 = σ.2.1 121 ∧ σ.2.1 17 = σ.2.1 122 ∧ σ.2.1 18 = σ.2.1 123 ∧ (∀ h, h < nh → ∃ f t : Nat, 1500 ≤ f ∧ f ≤ t ∧ t ≤ 2100 ∧ σ.2.1 122 h = nI f ∧ σ.2.1 123 h = nI t)
def TF (c j : Nat) : Prop := (c = 9 ∧ (j = 3 ∨ j = 4)) ∨ (c = 12 ∧ (j = 45 ∨ j = 49))
def TR (a : Nat) : Prop := (73 ≤ a ∧ a ≤ 75) ∨ (124 ≤ a ∧ a ≤ 126)
def RT (σ : zS) (nv nt : Nat) : Prop := nt ≤ 40 ∧ σ.1 9 3 = nI nt ∧ σ.1 12 45 = nI nt ∧ σ.1 9 4 = σ.1 12 49 ∧ σ.2.1 73 = σ.2.1 124 ∧ σ.2.1 74 = σ.2.1 125 ∧ σ.2.1 75 = σ.2.1 126 ∧ (∀ t, t < nt → (∃ v, v < nv ∧ σ.2.1 124 t = nI v) ∧ zn (σ.2.1 125 t) 100000 ∧ (σ.2.1 126 t = -1 ∨ zn (σ.2.1 126 t) 1)) ∧
  (∀ t u, t < nt → u < nt → t ≠ u → σ.2.1 124 t = σ.2.1 124 u → σ.2.1 125 t ≠ σ.2.1 125 u)
def SF (_c _j : Nat) : Prop := False
def SR (a : Nat) : Prop := a = 65 ∨ a = 66 ∨ (68 ≤ a ∧ a ≤ 71) ∨ (104 ≤ a ∧ a ≤ 106)
def RS (σ : zS) : Prop := ∀ k, k < 4 → (σ.2.1 65 k = -1 ∧ σ.2.1 104 k = -9) ∨ (zn (σ.2.1 104 k) 2 ∧ σ.2.1 65 k = σ.2.1 104 k ∧ zn (σ.2.1 105 k) 60 ∧ σ.2.1 66 k = σ.2.1 105 k ∧ ∀ j, j < 60 → σ.2.1 (68 + k) j = σ.2.1 106 (60 * k + j))
def OF (c j : Nat) : Prop := (c = 6 ∧ (j = 1 ∨ j = 2)) ∨ (c = 12 ∧ (j = 56 ∨ j = 58))
def OR (a : Nat) : Prop := a = 50 ∨ a = 130
def RO (σ : zS) : Prop := zn (σ.1 12 56) 60 ∧ σ.1 6 1 = σ.1 12 56 ∧ zn (σ.1 12 58) 2100 ∧ σ.1 6 2 = σ.1 12 58 ∧ (∀ j, j < 60 → σ.2.1 50 j = σ.2.1 130 j) ∧ (∀ j, j < 60 → zn (σ.2.1 130 j) 255)
def CF (c j : Nat) : Prop := c = 0 ∧ j = 1
def CR (a : Nat) : Prop := a = 13 ∨ a = 131
def RC (σ : zS) : Prop := (∀ j, j < 4 → σ.2.1 13 j = σ.2.1 131 j) ∧ (∀ j, j < 4 → σ.2.1 131 j = -9 ∨ zn (σ.2.1 131 j) 999) ∧ σ.1 0 1 = nI (cnt (fun j => σ.2.1 131 j ≠ -9) 4)
def FF (c j : Nat) : Prop := (c = 11 ∧ (j = 11 ∨ j = 12)) ∨ (c = 12 ∧ (j = 0 ∨ j = 1))
def RF (σ : zS) : Prop := σ.1 11 11 = σ.1 12 1 ∧ σ.1 11 12 = σ.1 12 0 ∧ σ.2.1 76 0 = nI 0
/-- the loads: none chosen weighs nothing -/
def zNoR (a : Nat) : Prop := a = 76
/-- places of no lasting meaning -/
def scF (c j : Nat) : Prop := (c = 0 ∧ 3 ≤ j) ∨ (c = 1 ∧ 6 ≤ j) ∨ c = 2 ∨ c = 5 ∨ (c = 6 ∧ 3 ≤ j) ∨ (c = 9 ∧ (j = 6 ∨ j = 7 ∨ j = 9 ∨ j = 10)) ∨ (c = 12 ∧ (j = 29 ∨ j = 30 ∨ j = 32 ∨ (41 ≤ j ∧ j ≤ 44) ∨ (51 ≤ j ∧ j ≤ 53) ∨ j = 59 ∨ j = 60))
def scR (a : Nat) : Prop := a = 14 ∨ a = 19 ∨ (20 ≤ a ∧ a ≤ 38) ∨ (47 ≤ a ∧ a ≤ 49) ∨ a = 72 ∨ a = 77 ∨ (99 ≤ a ∧ a ≤ 103) ∨ a = 107 ∨ (116 ≤ a ∧ a ≤ 119) ∨ a = 127 ∨ a = 132
def Fr (σ σ' : zS) : Prop := (∀ c j, ¬ scF c j → σ'.1 c j = σ.1 c j) ∧ (∀ a, ¬ scR a → σ'.2.1 a = σ.2.1 a)
theorem Fr.refl {σ : zS} : Fr σ σ := ⟨fun _ _ _ => rfl, fun _ _ => rfl⟩
theorem Fr.trans {σ σ' τ : zS} (h : Fr σ σ') (k : Fr σ' τ) : Fr σ τ := ⟨fun c j q => (k.1 c j q).trans (h.1 c j q), fun a q => (k.2 a q).trans (h.2 a q)⟩
theorem Fr.uf {σ σ' : zS} {c j : Nat} {x : Int32} (h : Fr σ σ') (q : scF c j) : Fr σ (zuf σ' c j x) := ⟨fun c' j' q' => by
  rw [zS_uf1, if_neg (fun e => q' (by rw [e.1, e.2]; exact q))]
  exact h.1 c' j' q', fun a q' => h.2 a q'⟩
theorem Fr.ur {σ σ' : zS} {a : Nat} {f : Nat → Int32} (h : Fr σ σ') (q : scR a) : Fr σ (zur σ' a f) := ⟨fun c' j' q' => h.1 c' j' q', fun b q' => by
  rw [zS_ur2, if_neg (fun e => q' (by rw [e]; exact q))]
  exact h.2 b q'⟩
theorem Fr.ul {σ σ' : zS} {a : Nat} {f : Nat → Int64} (h : Fr σ σ') : Fr σ (zul σ' a f) := ⟨fun c' j' q' => h.1 c' j' q', fun b q' => h.2 b q'⟩
section AG
variable {σ σ' : zS} {nv np nl nk nh nt : Nat}
theorem RV_ag (hf : ∀ c j, VF c j → σ'.1 c j = σ.1 c j) (hr : ∀ a, VR a → σ'.2.1 a = σ.2.1 a) (h : RV σ nv) : RV σ' nv := by
  unfold RV at h ⊢
  simp (contextual := true) (disch := (first | omega | (unfold VF; omega) | (unfold VR; omega))) only [hf, hr]
  exact h
theorem RV_fr (k : Fr σ σ') (h : RV σ nv) : RV σ' nv := RV_ag (fun c j q => k.1 c j (fun s => by unfold VF at q; unfold scF at s; omega)) (fun a q => k.2 a (fun s => by unfold VR at q; unfold scR at s; omega)) h
theorem RV_uf {c j : Nat} {x : Int32} (q : ¬ VF c j) : RV (zuf σ c j x) nv ↔ RV σ nv :=
  ⟨RV_ag (fun c' j' q' => by rw [zS_uf1, if_neg (fun e => q (by rw [← e.1, ← e.2]; exact q'))]) (fun a _ => rfl), RV_ag (fun c' j' q' => by rw [zS_uf1, if_neg (fun e => q (by rw [← e.1, ← e.2]; exact q'))]) (fun a _ => rfl)⟩
theorem RV_ur {a : Nat} {f : Nat → Int32} (q : ¬ VR a) : RV (zur σ a f) nv ↔ RV σ nv :=
  ⟨RV_ag (fun _ _ _ => rfl) (fun b q' => by rw [zS_ur2, if_neg (fun e => q (by rw [← e]; exact q'))]), RV_ag (fun _ _ _ => rfl) (fun b q' => by rw [zS_ur2, if_neg (fun e => q (by rw [← e]; exact q'))])⟩
theorem RV_ul {a : Nat} {f : Nat → Int64} : RV (zul σ a f) nv ↔ RV σ nv := Iff.rfl
theorem RP_ag (hf : ∀ c j, PF c j → σ'.1 c j = σ.1 c j) (hr : ∀ a, PR a → σ'.2.1 a = σ.2.1 a) (h : RP σ np) : RP σ' np := by
  unfold RP at h ⊢
  simp (contextual := true) (disch := (first | omega | (unfold PF; omega) | (unfold PR; omega))) only [hf, hr]
  exact h
theorem RP_fr (k : Fr σ σ') (h : RP σ np) : RP σ' np := RP_ag (fun c j q => k.1 c j (fun s => by unfold PF at q; unfold scF at s; omega)) (fun a q => k.2 a (fun s => by unfold PR at q; unfold scR at s; omega)) h
theorem RP_uf {c j : Nat} {x : Int32} (q : ¬ PF c j) : RP (zuf σ c j x) np ↔ RP σ np :=
  ⟨RP_ag (fun c' j' q' => by rw [zS_uf1, if_neg (fun e => q (by rw [← e.1, ← e.2]; exact q'))]) (fun a _ => rfl), RP_ag (fun c' j' q' => by rw [zS_uf1, if_neg (fun e => q (by rw [← e.1, ← e.2]; exact q'))]) (fun a _ => rfl)⟩
theorem RP_ur {a : Nat} {f : Nat → Int32} (q : ¬ PR a) : RP (zur σ a f) np ↔ RP σ np :=
  ⟨RP_ag (fun _ _ _ => rfl) (fun b q' => by rw [zS_ur2, if_neg (fun e => q (by rw [← e]; exact q'))]), RP_ag (fun _ _ _ => rfl) (fun b q' => by rw [zS_ur2, if_neg (fun e => q (by rw [← e]; exact q'))])⟩
theorem RP_ul {a : Nat} {f : Nat → Int64} : RP (zul σ a f) np ↔ RP σ np := Iff.rfl
theorem RD_ag (hf : ∀ c j, DF c j → σ'.1 c j = σ.1 c j) (hr : ∀ a, DR a → σ'.2.1 a = σ.2.1 a) (h : RD σ) : RD σ' := by
  unfold RD at h ⊢
  simp (contextual := true) (disch := (first | omega | (unfold DF; omega) | (unfold DR; omega))) only [hf, hr]
  exact h
theorem RD_fr (k : Fr σ σ') (h : RD σ) : RD σ' := RD_ag (fun c j q => k.1 c j (fun s => by unfold DF at q; unfold scF at s; omega)) (fun a q => k.2 a (fun s => by unfold DR at q; unfold scR at s; omega)) h
theorem RD_uf {c j : Nat} {x : Int32} (q : ¬ DF c j) : RD (zuf σ c j x) ↔ RD σ :=
  ⟨RD_ag (fun c' j' q' => by rw [zS_uf1, if_neg (fun e => q (by rw [← e.1, ← e.2]; exact q'))]) (fun a _ => rfl), RD_ag (fun c' j' q' => by rw [zS_uf1, if_neg (fun e => q (by rw [← e.1, ← e.2]; exact q'))]) (fun a _ => rfl)⟩
theorem RD_ur {a : Nat} {f : Nat → Int32} (q : ¬ DR a) : RD (zur σ a f) ↔ RD σ :=
  ⟨RD_ag (fun _ _ _ => rfl) (fun b q' => by rw [zS_ur2, if_neg (fun e => q (by rw [← e]; exact q'))]), RD_ag (fun _ _ _ => rfl) (fun b q' => by rw [zS_ur2, if_neg (fun e => q (by rw [← e]; exact q'))])⟩
theorem RD_ul {a : Nat} {f : Nat → Int64} : RD (zul σ a f) ↔ RD σ := Iff.rfl
theorem RLo_ag (hf : ∀ c j, LF c j → σ'.1 c j = σ.1 c j) (hr : ∀ a, LR a → σ'.2.1 a = σ.2.1 a) (h : RLo σ nv np nl) : RLo σ' nv np nl := by
  unfold RLo at h ⊢
  simp (contextual := true) (disch := (first | omega | (unfold LF; omega) | (unfold LR; omega))) only [hf, hr]
  exact h
theorem RLo_fr (k : Fr σ σ') (h : RLo σ nv np nl) : RLo σ' nv np nl := RLo_ag (fun c j q => k.1 c j (fun s => by unfold LF at q; unfold scF at s; omega)) (fun a q => k.2 a (fun s => by unfold LR at q; unfold scR at s; omega)) h
theorem RLo_uf {c j : Nat} {x : Int32} (q : ¬ LF c j) : RLo (zuf σ c j x) nv np nl ↔ RLo σ nv np nl :=
  ⟨RLo_ag (fun c' j' q' => by rw [zS_uf1, if_neg (fun e => q (by rw [← e.1, ← e.2]; exact q'))]) (fun a _ => rfl), RLo_ag (fun c' j' q' => by rw [zS_uf1, if_neg (fun e => q (by rw [← e.1, ← e.2]; exact q'))]) (fun a _ => rfl)⟩
theorem RLo_ur {a : Nat} {f : Nat → Int32} (q : ¬ LR a) : RLo (zur σ a f) nv np nl ↔ RLo σ nv np nl :=
  ⟨RLo_ag (fun _ _ _ => rfl) (fun b q' => by rw [zS_ur2, if_neg (fun e => q (by rw [← e]; exact q'))]), RLo_ag (fun _ _ _ => rfl) (fun b q' => by rw [zS_ur2, if_neg (fun e => q (by rw [← e]; exact q'))])⟩
theorem RLo_ul {a : Nat} {f : Nat → Int64} : RLo (zul σ a f) nv np nl ↔ RLo σ nv np nl := Iff.rfl
theorem RK_ag (hf : ∀ c j, KF c j → σ'.1 c j = σ.1 c j) (hr : ∀ a, KR a → σ'.2.1 a = σ.2.1 a) (h : RK σ nk) : RK σ' nk := by
  unfold RK at h ⊢
  simp (contextual := true) (disch := (first | omega | (unfold KF; omega) | (unfold KR; omega))) only [hf, hr]
  exact h
theorem RK_fr (k : Fr σ σ') (h : RK σ nk) : RK σ' nk := RK_ag (fun c j q => k.1 c j (fun s => by unfold KF at q; unfold scF at s; omega)) (fun a q => k.2 a (fun s => by unfold KR at q; unfold scR at s; omega)) h
theorem RK_uf {c j : Nat} {x : Int32} (q : ¬ KF c j) : RK (zuf σ c j x) nk ↔ RK σ nk :=
  ⟨RK_ag (fun c' j' q' => by rw [zS_uf1, if_neg (fun e => q (by rw [← e.1, ← e.2]; exact q'))]) (fun a _ => rfl), RK_ag (fun c' j' q' => by rw [zS_uf1, if_neg (fun e => q (by rw [← e.1, ← e.2]; exact q'))]) (fun a _ => rfl)⟩
theorem RK_ur {a : Nat} {f : Nat → Int32} (q : ¬ KR a) : RK (zur σ a f) nk ↔ RK σ nk :=
  ⟨RK_ag (fun _ _ _ => rfl) (fun b q' => by rw [zS_ur2, if_neg (fun e => q (by rw [← e]; exact q'))]), RK_ag (fun _ _ _ => rfl) (fun b q' => by rw [zS_ur2, if_neg (fun e => q (by rw [← e]; exact q'))])⟩
theorem RK_ul {a : Nat} {f : Nat → Int64} : RK (zul σ a f) nk ↔ RK σ nk := Iff.rfl
theorem RH_ag (hf : ∀ c j, HF c j → σ'.1 c j = σ.1 c j) (hr : ∀ a, HR a → σ'.2.1 a = σ.2.1 a) (h : RH σ nh) : RH σ' nh := by
  unfold RH at h ⊢
  simp (contextual := true) (disch := (first | omega | (unfold HF; omega) | (unfold HR; omega))) only [hf, hr]
  exact h
theorem RH_fr (k : Fr σ σ') (h : RH σ nh) : RH σ' nh := RH_ag (fun c j q => k.1 c j (fun s => by unfold HF at q; unfold scF at s; omega)) (fun a q => k.2 a (fun s => by unfold HR at q; unfold scR at s; omega)) h
theorem RH_uf {c j : Nat} {x : Int32} (q : ¬ HF c j) : RH (zuf σ c j x) nh ↔ RH σ nh :=
  ⟨RH_ag (fun c' j' q' => by rw [zS_uf1, if_neg (fun e => q (by rw [← e.1, ← e.2]; exact q'))]) (fun a _ => rfl), RH_ag (fun c' j' q' => by rw [zS_uf1, if_neg (fun e => q (by rw [← e.1, ← e.2]; exact q'))]) (fun a _ => rfl)⟩
theorem RH_ur {a : Nat} {f : Nat → Int32} (q : ¬ HR a) : RH (zur σ a f) nh ↔ RH σ nh :=
  ⟨RH_ag (fun _ _ _ => rfl) (fun b q' => by rw [zS_ur2, if_neg (fun e => q (by rw [← e]; exact q'))]), RH_ag (fun _ _ _ => rfl) (fun b q' => by rw [zS_ur2, if_neg (fun e => q (by rw [← e]; exact q'))])⟩
theorem RH_ul {a : Nat} {f : Nat → Int64} : RH (zul σ a f) nh ↔ RH σ nh := Iff.rfl
theorem RT_ag (hf : ∀ c j, TF c j → σ'.1 c j = σ.1 c j) (hr : ∀ a, TR a → σ'.2.1 a = σ.2.1 a) (h : RT σ nv nt) : RT σ' nv nt := by
  unfold RT at h ⊢
  simp (contextual := true) (disch := (first | omega | (unfold TF; omega) | (unfold TR; omega))) only [hf, hr]
  exact h
theorem RT_fr (k : Fr σ σ') (h : RT σ nv nt) : RT σ' nv nt := RT_ag (fun c j q => k.1 c j (fun s => by unfold TF at q; unfold scF at s; omega)) (fun a q => k.2 a (fun s => by unfold TR at q; unfold scR at s; omega)) h
theorem RT_uf {c j : Nat} {x : Int32} (q : ¬ TF c j) : RT (zuf σ c j x) nv nt ↔ RT σ nv nt :=
  ⟨RT_ag (fun c' j' q' => by rw [zS_uf1, if_neg (fun e => q (by rw [← e.1, ← e.2]; exact q'))]) (fun a _ => rfl), RT_ag (fun c' j' q' => by rw [zS_uf1, if_neg (fun e => q (by rw [← e.1, ← e.2]; exact q'))]) (fun a _ => rfl)⟩
theorem RT_ur {a : Nat} {f : Nat → Int32} (q : ¬ TR a) : RT (zur σ a f) nv nt ↔ RT σ nv nt :=
  ⟨RT_ag (fun _ _ _ => rfl) (fun b q' => by rw [zS_ur2, if_neg (fun e => q (by rw [← e]; exact q'))]), RT_ag (fun _ _ _ => rfl) (fun b q' => by rw [zS_ur2, if_neg (fun e => q (by rw [← e]; exact q'))])⟩
theorem RT_ul {a : Nat} {f : Nat → Int64} : RT (zul σ a f) nv nt ↔ RT σ nv nt := Iff.rfl
theorem RS_ag (hf : ∀ c j, SF c j → σ'.1 c j = σ.1 c j) (hr : ∀ a, SR a → σ'.2.1 a = σ.2.1 a) (h : RS σ) : RS σ' := by
  unfold RS at h ⊢
  simp (contextual := true) (disch := (first | omega | (unfold SF; omega) | (unfold SR; omega))) only [hf, hr]
  exact h
theorem RS_fr (k : Fr σ σ') (h : RS σ) : RS σ' := RS_ag (fun c j q => k.1 c j (fun s => by unfold SF at q; unfold scF at s; omega)) (fun a q => k.2 a (fun s => by unfold SR at q; unfold scR at s; omega)) h
theorem RS_uf {c j : Nat} {x : Int32} (q : ¬ SF c j) : RS (zuf σ c j x) ↔ RS σ :=
  ⟨RS_ag (fun c' j' q' => by rw [zS_uf1, if_neg (fun e => q (by rw [← e.1, ← e.2]; exact q'))]) (fun a _ => rfl), RS_ag (fun c' j' q' => by rw [zS_uf1, if_neg (fun e => q (by rw [← e.1, ← e.2]; exact q'))]) (fun a _ => rfl)⟩
theorem RS_ur {a : Nat} {f : Nat → Int32} (q : ¬ SR a) : RS (zur σ a f) ↔ RS σ :=
  ⟨RS_ag (fun _ _ _ => rfl) (fun b q' => by rw [zS_ur2, if_neg (fun e => q (by rw [← e]; exact q'))]), RS_ag (fun _ _ _ => rfl) (fun b q' => by rw [zS_ur2, if_neg (fun e => q (by rw [← e]; exact q'))])⟩
theorem RS_ul {a : Nat} {f : Nat → Int64} : RS (zul σ a f) ↔ RS σ := Iff.rfl
theorem RO_ag (hf : ∀ c j, OF c j → σ'.1 c j = σ.1 c j) (hr : ∀ a, OR a → σ'.2.1 a = σ.2.1 a) (h : RO σ) : RO σ' := by
  unfold RO at h ⊢
  simp (contextual := true) (disch := (first | omega | (unfold OF; omega) | (unfold OR; omega))) only [hf, hr]
  exact h
theorem RO_fr (k : Fr σ σ') (h : RO σ) : RO σ' := RO_ag (fun c j q => k.1 c j (fun s => by unfold OF at q; unfold scF at s; omega)) (fun a q => k.2 a (fun s => by unfold OR at q; unfold scR at s; omega)) h
theorem RO_uf {c j : Nat} {x : Int32} (q : ¬ OF c j) : RO (zuf σ c j x) ↔ RO σ :=
  ⟨RO_ag (fun c' j' q' => by rw [zS_uf1, if_neg (fun e => q (by rw [← e.1, ← e.2]; exact q'))]) (fun a _ => rfl), RO_ag (fun c' j' q' => by rw [zS_uf1, if_neg (fun e => q (by rw [← e.1, ← e.2]; exact q'))]) (fun a _ => rfl)⟩
theorem RO_ur {a : Nat} {f : Nat → Int32} (q : ¬ OR a) : RO (zur σ a f) ↔ RO σ :=
  ⟨RO_ag (fun _ _ _ => rfl) (fun b q' => by rw [zS_ur2, if_neg (fun e => q (by rw [← e]; exact q'))]), RO_ag (fun _ _ _ => rfl) (fun b q' => by rw [zS_ur2, if_neg (fun e => q (by rw [← e]; exact q'))])⟩
theorem RO_ul {a : Nat} {f : Nat → Int64} : RO (zul σ a f) ↔ RO σ := Iff.rfl
theorem RC_ag (hf : ∀ c j, CF c j → σ'.1 c j = σ.1 c j) (hr : ∀ a, CR a → σ'.2.1 a = σ.2.1 a) (h : RC σ) : RC σ' := by
  unfold RC at h ⊢
  simp (contextual := true) (disch := (first | omega | (unfold CF; omega) | (unfold CR; omega))) only [hf, hr]
  exact h
theorem RC_fr (k : Fr σ σ') (h : RC σ) : RC σ' := RC_ag (fun c j q => k.1 c j (fun s => by unfold CF at q; unfold scF at s; omega)) (fun a q => k.2 a (fun s => by unfold CR at q; unfold scR at s; omega)) h
theorem RC_uf {c j : Nat} {x : Int32} (q : ¬ CF c j) : RC (zuf σ c j x) ↔ RC σ :=
  ⟨RC_ag (fun c' j' q' => by rw [zS_uf1, if_neg (fun e => q (by rw [← e.1, ← e.2]; exact q'))]) (fun a _ => rfl), RC_ag (fun c' j' q' => by rw [zS_uf1, if_neg (fun e => q (by rw [← e.1, ← e.2]; exact q'))]) (fun a _ => rfl)⟩
theorem RC_ur {a : Nat} {f : Nat → Int32} (q : ¬ CR a) : RC (zur σ a f) ↔ RC σ :=
  ⟨RC_ag (fun _ _ _ => rfl) (fun b q' => by rw [zS_ur2, if_neg (fun e => q (by rw [← e]; exact q'))]), RC_ag (fun _ _ _ => rfl) (fun b q' => by rw [zS_ur2, if_neg (fun e => q (by rw [← e]; exact q'))])⟩
theorem RC_ul {a : Nat} {f : Nat → Int64} : RC (zul σ a f) ↔ RC σ := Iff.rfl
theorem RF_ag (hf : ∀ c j, FF c j → σ'.1 c j = σ.1 c j) (hr : ∀ a, zNoR a → σ'.2.1 a = σ.2.1 a) (h : RF σ) : RF σ' := by
  unfold RF at h ⊢
  simp (contextual := true) (disch := (first | omega | (unfold FF; omega) | (unfold zNoR; omega))) only [hf, hr]
  exact h
theorem RF_fr (k : Fr σ σ') (h : RF σ) : RF σ' := RF_ag (fun c j q => k.1 c j (fun s => by unfold FF at q; unfold scF at s; omega)) (fun a q => k.2 a (fun s => by unfold zNoR at q; unfold scR at s; omega)) h
theorem RF_uf {c j : Nat} {x : Int32} (q : ¬ FF c j) : RF (zuf σ c j x) ↔ RF σ :=
  ⟨RF_ag (fun c' j' q' => by rw [zS_uf1, if_neg (fun e => q (by rw [← e.1, ← e.2]; exact q'))]) (fun a _ => rfl), RF_ag (fun c' j' q' => by rw [zS_uf1, if_neg (fun e => q (by rw [← e.1, ← e.2]; exact q'))]) (fun a _ => rfl)⟩
theorem RF_ur {a : Nat} {f : Nat → Int32} (q : ¬ zNoR a) : RF (zur σ a f) ↔ RF σ :=
  ⟨RF_ag (fun _ _ _ => rfl) (fun b q' => by rw [zS_ur2, if_neg (fun e => q (by rw [← e]; exact q'))]), RF_ag (fun _ _ _ => rfl) (fun b q' => by rw [zS_ur2, if_neg (fun e => q (by rw [← e]; exact q'))])⟩
theorem RF_ul {a : Nat} {f : Nat → Int64} : RF (zul σ a f) ↔ RF σ := Iff.rfl
end AG
def RA (σ : zS) (nv np nl nk nh nt : Nat) : Prop := RV σ nv ∧ RP σ np ∧ RD σ ∧ RLo σ nv np nl ∧ RK σ nk ∧ RH σ nh ∧ RT σ nv nt ∧ RS σ ∧ RO σ ∧ RC σ ∧ RF σ
theorem RA.fr {σ σ' : zS} {nv np nl nk nh nt : Nat} (h : RA σ nv np nl nk nh nt) (k : Fr σ σ') : RA σ' nv np nl nk nh nt := by
  obtain ⟨h1, h2, h3, h4, h5, h6, h7, h8, h9, h10, h11⟩ := h
  exact ⟨RV_fr k h1, RP_fr k h2, RD_fr k h3, RLo_fr k h4, RK_fr k h5, RH_fr k h6, RT_fr k h7, RS_fr k h8, RO_fr k h9, RC_fr k h10, RF_fr k h11⟩
