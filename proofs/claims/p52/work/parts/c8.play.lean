/-! the law, blocks 123 to 136: what holds of players and loans -/
def hw (nv : Nat) (x : Int32) : Prop := x = -nI 1 ∨ ∃ v, v < nv ∧ x = nI v
def dsj (r : Nat → Int32) (p : Nat) : Prop := ∀ q q', q < p → q' < p → q ≠ q' → r q = r q' → r q = -nI 1
def bts (r : Nat → Int32) (p T : Nat) : Prop := T < 32 ∧ ∀ v, v < 5 → (T.testBit v = true ↔ ∃ q, q < p ∧ r q = nI v)
def P8 (τ : zS) (nv p T U : Nat) : Prop := τ.1 10 5 = nI nv ∧ (∀ v, v < nv → τ.2.1 79 v = nI v) ∧ τ.1 7 4 = nI p ∧ (∀ q, p ≤ q → q < 10 → τ.2.1 52 q = nI 0 ∧ τ.2.1 53 q = nI 0 ∧ ∀ v, v < 10 → τ.2.1 (55 + q) v = nI 0) ∧ τ.2.1 65 2 = nI 2 ∧ τ.2.1 66 2 = nI 4 ∧ (∀ q, q < p → hw nv (τ.2.1 99 q) ∧ hw nv (τ.2.1 100 q) ∧ τ.2.1 70 q = τ.2.1 100 q) ∧ dsj (τ.2.1 99) p ∧ dsj (τ.2.1 100) p ∧ bts (τ.2.1 99) p T ∧ bts (τ.2.1 100) p U
def L8 (τ : zS) (p n : Nat) : Prop := τ.1 3 5 = nI n ∧ n ≤ p ∧ (∀ l, l < n → ∃ q v, q < p ∧ v < 5 ∧ τ.2.1 39 l = nI q ∧ τ.2.1 99 q = nI v ∧ τ.2.1 40 l = nI v ∧ τ.2.1 41 l = nI 50 ∧ τ.2.1 42 l = nI 60) ∧ (∀ q v, q < p → v < 5 → τ.2.1 99 q = nI v → ∃ l, l < n ∧ τ.2.1 39 l = nI q) ∧ ∀ l l', l < n → l' < n → τ.2.1 39 l = τ.2.1 39 l' → l = l'
theorem hw_mk {nv t : Nat} (h : t < nv + 1) : ∃ x, nI t - nI 1 = x ∧ hw nv x := by
  refine ⟨_, rfl, ?_⟩
  by_cases c : t = 0
  · subst c
    exact Or.inl rfl
  · rw [pk_sub (by omega)]
    exact Or.inr ⟨t - 1, by omega, rfl⟩
theorem dsj_s {r : Nat → Int32} {p : Nat} {x : Int32} (h : dsj r p) (hx : x = -nI 1 ∨ ∀ q, q < p → ¬ r q = x) : dsj (upd r p x) (p + 1) := by
  intro q q' hq hq' hne e
  by_cases c1 : q = p
  · have c2 : q' ≠ p := by omega
    subst c1
    rw [pk_us, pk_un c2] at e
    rw [pk_us]
    rcases hx with z | z
    · exact z
    · exact absurd e.symm (z q' (by omega))
  · by_cases c2 : q' = p
    · subst c2
      rw [pk_us, pk_un c1] at e
      rw [pk_un c1]
      rcases hx with z | z
      · rw [e]; exact z
      · exact absurd e (z q (by omega))
    · rw [pk_un c1, pk_un c2] at e
      rw [pk_un c1]
      exact h q q' (by omega) (by omega) hne e
theorem bts_n {r : Nat → Int32} {p T : Nat} (h : bts r p T) : bts (upd r p (-nI 1)) (p + 1) T := by
  refine ⟨h.1, fun v hv => (h.2 v hv).trans ⟨fun ⟨q, q1, q2⟩ => ⟨q, by omega, by rw [pk_un (by omega)]; exact q2⟩, fun ⟨q, q1, q2⟩ => ?_⟩⟩
  by_cases c : q = p
  · subst c
    rw [pk_us] at q2
    exact absurd q2 (fun z => (n_negeq (show v < 2 ^ 31 by omega) (by omega)).mp z)
  · rw [pk_un c] at q2
    exact ⟨q, by omega, q2⟩
theorem bts_y {r : Nat → Int32} {p T w : Nat} (h : bts r p T) (hw : w < 5) : bts (upd r p (nI w)) (p + 1) (T ||| 2 ^ w) := by
  refine ⟨?_, fun v hv => ?_⟩
  · have h2 : 2 ^ w < 2 ^ 5 := Nat.pow_lt_pow_right (by omega) hw
    exact Nat.or_lt_two_pow (n := 5) h.1 h2
  · rw [bl_tb, Bool.or_eq_true, decide_eq_true_eq, h.2 v hv]
    constructor
    · rintro (⟨q, q1, q2⟩ | rfl)
      · exact ⟨q, by omega, by rw [pk_un (by omega)]; exact q2⟩
      · exact ⟨p, by omega, pk_us⟩
    · rintro ⟨q, q1, q2⟩
      by_cases c : q = p
      · subst c
        rw [pk_us] at q2
        exact Or.inr ((nI_eq (by omega) (by omega)).mp q2)
      · rw [pk_un c] at q2
        exact Or.inl ⟨q, by omega, q2⟩
noncomputable def S8 (τ : zS) (p : Nat) (x y : Int32) : zS := zur (zuf (zuf (zur (zur (zur τ 99 (upd (τ.2.1 99) p x)) 100 (upd (τ.2.1 100) p y)) 51 (upd (τ.2.1 51) p (nI 5))) 7 4 (nI (p + 1))) 11 12 (nI 0)) 70 (upd (τ.2.1 70) p y)
/-- what a new player's row must be -/
def gd (r : Nat → Int32) (p : Nat) (x : Int32) : Prop := x = -nI 1 ∨ ∀ q, q < p → ¬ r q = x
theorem P8_S8 {τ : zS} {nv p T U T' U' : Nat} {x y : Int32} (h : P8 τ nv p T U) (hp : p < 4) (hx : hw nv x) (hy : hw nv y) (gx : gd (τ.2.1 99) p x) (gy : gd (τ.2.1 100) p y) (bx : bts (upd (τ.2.1 99) p x) (p + 1) T') (b_y : bts (upd (τ.2.1 100) p y) (p + 1) U') : P8 (S8 τ p x y) nv (p + 1) T' U' := by
  obtain ⟨h1, h2, h3, h4, h5, h6, h7, h8, h9, -, -⟩ := h
  refine ⟨h1, h2, rfl, fun q h1 h2 => ?_, h5, h6, fun q hq => ?_, dsj_s h8 gx, dsj_s h9 gy, bx, b_y⟩
  · unfold S8
    simp only [zS_ur2, zS_uf2]
    rw [if_neg (by omega), if_neg (by omega), if_neg (by omega), if_neg (by omega), if_neg (by omega), if_neg (by omega), if_neg (by omega), if_neg (by omega), if_neg (by omega), if_neg (by omega), if_neg (by omega), if_neg (by omega)]
    exact h4 q (by omega) h2
  · show hw nv (upd (τ.2.1 99) p x q) ∧ hw nv (upd (τ.2.1 100) p y q) ∧ upd (τ.2.1 70) p y q = upd (τ.2.1 100) p y q
    by_cases c : q = p
    · subst c
      rw [pk_us, pk_us, pk_us]
      exact ⟨hx, hy, rfl⟩
    · rw [pk_un c, pk_un c, pk_un c]
      exact h7 q (by omega)
theorem L8_S8n {τ : zS} {p n : Nat} {y : Int32} (h : L8 τ p n) : L8 (S8 τ p (-nI 1) y) (p + 1) n := by
  obtain ⟨h1, h2, h3, h4, h5⟩ := h
  refine ⟨h1, by omega, fun l hl => ?_, fun q v hq hv e => ?_, h5⟩
  · obtain ⟨q, v, q1, v1, a, b, c, d, e⟩ := h3 l hl
    refine ⟨q, v, by omega, v1, a, ?_, c, d, e⟩
    show upd (τ.2.1 99) p (-nI 1) q = nI v
    rw [pk_un (by omega)]
    exact b
  · have e' : upd (τ.2.1 99) p (-nI 1) q = nI v := e
    by_cases c : q = p
    · subst c
      rw [pk_us] at e'
      exact absurd e' (fun z => (n_negeq (show v < 2 ^ 31 by omega) (by omega)).mp z)
    · rw [pk_un c] at e'
      exact h4 q v (by omega) hv e'
noncomputable def T8 (τ : zS) (p n v : Nat) : zS := zur (zuf (zur (zur (zur (zur (zur (zur τ (55 + p) (upd (τ.2.1 (55 + p)) v (nI 1))) 39 (upd (τ.2.1 39) n (nI p))) 40 (upd (τ.2.1 40) n (nI v))) 41 (upd (τ.2.1 41) n (nI 50))) 42 (upd (τ.2.1 42) n (nI 60))) 43 (upd (τ.2.1 43) n (-nI 9))) 3 5 (nI (n + 1))) 53 (upd (τ.2.1 53) p (nI (2 ^ v)))
theorem P8_T8 {τ : zS} {nv p T U n v : Nat} (h : P8 τ nv (p + 1) T U) (hp : p < 4) : P8 (T8 τ p n v) nv (p + 1) T U := by
  obtain ⟨h1, h2, h3, h4, h5, h6, h7, h8, h9, h10, h11⟩ := h
  have e : ∀ a, (a = 79 ∨ a = 65 ∨ a = 66 ∨ a = 99 ∨ a = 100 ∨ a = 70) → (T8 τ p n v).2.1 a = τ.2.1 a := fun a ha => by
    unfold T8
    simp only [zS_ur2, zS_uf2]
    rw [if_neg (by omega), if_neg (by omega), if_neg (by omega), if_neg (by omega), if_neg (by omega), if_neg (by omega), if_neg (by omega)]
  refine ⟨h1, ?_, h3, fun q hq1 hq2 => ?_, ?_, ?_, ?_, ?_, ?_, ?_, ?_⟩
  · rw [e 79 (by omega)]; exact h2
  · obtain ⟨a, b, c⟩ := h4 q hq1 hq2
    refine ⟨?_, ?_, ?_⟩
    · unfold T8
      simp only [zS_ur2, zS_uf2]
      rw [if_neg (by omega), if_neg (by omega), if_neg (by omega), if_neg (by omega), if_neg (by omega), if_neg (by omega), if_neg (by omega)]
      exact a
    · show upd (τ.2.1 53) p (nI (2 ^ v)) q = nI 0
      rw [pk_un (by omega)]
      exact b
    · unfold T8
      simp only [zS_ur2, zS_uf2]
      rw [if_neg (by omega), if_neg (by omega), if_neg (by omega), if_neg (by omega), if_neg (by omega), if_neg (by omega), if_neg (by omega)]
      exact c
  · rw [e 65 (by omega)]; exact h5
  · rw [e 66 (by omega)]; exact h6
  · rw [e 99 (by omega), e 100 (by omega), e 70 (by omega)]; exact h7
  · rw [e 99 (by omega)]; exact h8
  · rw [e 100 (by omega)]; exact h9
  · rw [e 99 (by omega)]; exact h10
  · rw [e 100 (by omega)]; exact h11
theorem L8_T8 {τ : zS} {p n v : Nat} {y : Int32} (h : L8 τ p n) (hp : p < 4) (hv : v < 5) : L8 (T8 (S8 τ p (nI v) y) p n v) (p + 1) (n + 1) := by
  obtain ⟨h1, h2, h3, h4, h5⟩ := h
  have e99 : (T8 (S8 τ p (nI v) y) p n v).2.1 99 = upd (τ.2.1 99) p (nI v) := by
    unfold T8
    simp only [zS_ur2, zS_uf2]
    rw [if_neg (by omega), if_neg (by omega), if_neg (by omega), if_neg (by omega), if_neg (by omega), if_neg (by omega), if_neg (by omega)]
    rfl
  have es : ∀ a, (a = 39 ∨ a = 40 ∨ a = 41 ∨ a = 42) → (S8 τ p (nI v) y).2.1 a = τ.2.1 a := fun a ha => by
    unfold S8
    simp only [zS_ur2, zS_uf2]
    rw [if_neg (by omega), if_neg (by omega), if_neg (by omega), if_neg (by omega)]
  have e39 : (T8 (S8 τ p (nI v) y) p n v).2.1 39 = upd (τ.2.1 39) n (nI p) := by rw [← es 39 (by omega)]; rfl
  have e40 : (T8 (S8 τ p (nI v) y) p n v).2.1 40 = upd (τ.2.1 40) n (nI v) := by rw [← es 40 (by omega)]; rfl
  have e41 : (T8 (S8 τ p (nI v) y) p n v).2.1 41 = upd (τ.2.1 41) n (nI 50) := by rw [← es 41 (by omega)]; rfl
  have e42 : (T8 (S8 τ p (nI v) y) p n v).2.1 42 = upd (τ.2.1 42) n (nI 60) := by rw [← es 42 (by omega)]; rfl
  unfold L8
  rw [e99, e39, e40, e41, e42]
  refine ⟨rfl, by omega, fun l hl => ?_, fun q w hq hw e => ?_, fun l l' hl hl' e => ?_⟩
  · by_cases c : l = n
    · subst c
      exact ⟨p, v, by omega, hv, pk_us, pk_us, pk_us, pk_us, pk_us⟩
    · obtain ⟨q, w, q1, v1, a, b, c', d, e⟩ := h3 l (by omega)
      rw [pk_un c, pk_un c, pk_un c, pk_un c]
      exact ⟨q, w, by omega, v1, a, by rw [pk_un (by omega)]; exact b, c', d, e⟩
  · by_cases c : q = p
    · subst c
      exact ⟨n, by omega, pk_us⟩
    · rw [pk_un c] at e
      obtain ⟨l, l1, l2⟩ := h4 q w (by omega) hw e
      exact ⟨l, by omega, by rw [pk_un (by omega)]; exact l2⟩
  · by_cases c : l = n
    · by_cases c' : l' = n
      · omega
      · subst c
        rw [pk_us, pk_un c'] at e
        obtain ⟨q, w, q1, v1, a, -⟩ := h3 l' (by omega)
        rw [a] at e
        have := (nI_eq (by omega) (by omega)).mp e
        omega
    · by_cases c' : l' = n
      · subst c'
        rw [pk_us, pk_un c] at e
        obtain ⟨q, w, q1, v1, a, -⟩ := h3 l (by omega)
        rw [a] at e
        have := (nI_eq (by omega) (by omega)).mp e
        omega
      · rw [pk_un c, pk_un c'] at e
        exact h5 l l' (by omega) (by omega) e
