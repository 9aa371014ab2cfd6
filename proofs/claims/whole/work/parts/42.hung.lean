/-! THE CHEAPEST SEATING, as numbers: prices and augmenting paths -/
theorem cnt_one {c d : Nat → Prop} {x : Nat} : ∀ {n : Nat}, x < n → ¬ c x → d x → (∀ j, j < n → j ≠ x → (d j ↔ c j)) → cnt d n = cnt c n + 1
  | 0, h, _, _, _ => absurd h (Nat.not_lt_zero _)
  | n + 1, h, hc, hd, he => by
    by_cases q : x = n
    · subst q
      rw [cnt_t hd, cnt_f hc, cnt_congr (fun i hi => he i (by omega) (by omega))]
    · have ih := cnt_one (c := c) (d := d) (x := x) (n := n) (by omega) hc hd (fun j hj => he j (by omega))
      by_cases p : c n
      · rw [cnt_t ((he n (by omega) (fun e => q e.symm)).mpr p), cnt_t p, ih]
      · rw [cnt_f (fun e => p ((he n (by omega) (fun e => q e.symm)).mp e)), cnt_f p, ih]
theorem cnt_all {c : Nat → Prop} : ∀ {n : Nat}, (∀ j, j < n → c j) → cnt c n = n
  | 0, _ => rfl
  | n + 1, h => by rw [cnt_t (h n (by omega)), cnt_all (fun j hj => h j (by omega))]
theorem cnt_no {c : Nat → Prop} : ∀ {n : Nat}, (∀ j, j < n → ¬ c j) → cnt c n = 0
  | 0, _ => rfl
  | n + 1, h => by rw [cnt_f (h n (by omega)), cnt_no (fun j hj => h j (by omega))]
theorem cnt_lack {c : Nat → Prop} {n : Nat} (h : cnt c n < n) : ∃ j, j < n ∧ ¬ c j := by
  apply Classical.byContradiction
  intro q
  have : cnt c n = n := cnt_all (fun j hj => Classical.byContradiction (fun p => q ⟨j, hj, p⟩))
  omega
def sm (f : Nat → Int) : Nat → Int
  | 0 => 0
  | n + 1 => sm f n + f n
theorem sm_le {f g : Nat → Int} : ∀ {n : Nat}, (∀ i, i < n → f i ≤ g i) → sm f n ≤ sm g n
  | 0, _ => Int.le_refl _
  | n + 1, h => by
    have h1 := sm_le (f := f) (g := g) (n := n) (fun i hi => h i (by omega))
    have h2 := h n (by omega)
    simp only [sm]
    omega
theorem sm_congr {f g : Nat → Int} : ∀ {n : Nat}, (∀ i, i < n → f i = g i) → sm f n = sm g n
  | 0, _ => rfl
  | n + 1, h => by
    simp only [sm]
    rw [sm_congr (fun i hi => h i (by omega)), h n (by omega)]
theorem sm_add {f g : Nat → Int} : ∀ {n : Nat}, sm (fun i => f i + g i) n = sm f n + sm g n
  | 0 => rfl
  | n + 1 => by
    simp only [sm]
    rw [sm_add (f := f) (g := g) (n := n)]
    omega
theorem sm_zero : ∀ {n : Nat}, sm (fun _ => 0) n = 0
  | 0 => rfl
  | n + 1 => by simp only [sm]; rw [sm_zero (n := n)]; rfl
theorem sm_pt {f : Nat → Int} {x : Nat} : ∀ {n : Nat}, x < n → sm (fun i => if i = x then f i else 0) n = f x
  | 0, h => absurd h (Nat.not_lt_zero _)
  | n + 1, h => by
    simp only [sm]
    by_cases q : n = x
    · subst q
      rw [sm_congr (g := fun _ => 0) (fun i hi => if_neg (by omega)), sm_zero, if_pos rfl]
      omega
    · rw [sm_pt (f := f) (x := x) (n := n) (by omega), if_neg q]
      omega
noncomputable def hg_e (τ : Nat → Nat) (w : Nat → Int) (n j : Nat) : Int := @ite _ (∃ i, i < n ∧ τ i = j) (Classical.propDecidable _) (w j) 0
theorem hg_img {τ : Nat → Nat} {w : Nat → Int} {m : Nat} : ∀ {n : Nat}, (∀ i, i < n → τ i < m) → (∀ i j, i < n → j < n → τ i = τ j → i = j) → sm (fun i => w (τ i)) n = sm (hg_e τ w n) m
  | 0, _, _ => by
    rw [sm_congr (g := fun _ => 0) (n := m)]
    · rw [sm_zero]; rfl
    · intro i _
      unfold hg_e
      rw [if_neg]
      rintro ⟨k, hk, _⟩
      omega
  | n + 1, h, hj => by
    simp only [sm]
    rw [hg_img (n := n) (fun i hi => h i (by omega)) (fun i j a b => hj i j (by omega) (by omega)), ← sm_pt (f := w) (h n (by omega)), ← sm_add]
    apply sm_congr
    intro i hi
    unfold hg_e
    by_cases q : i = τ n
    · subst q
      rw [if_pos rfl, if_neg, if_pos ⟨n, by omega, rfl⟩]
      · omega
      · rintro ⟨k, hk, e⟩
        have := hj k n (by omega) (by omega) e
        omega
    · rw [if_neg q]
      by_cases p : ∃ k, k < n ∧ τ k = i
      · rw [if_pos p, if_pos]
        · omega
        · obtain ⟨k, hk, e⟩ := p
          exact ⟨k, by omega, e⟩
      · rw [if_neg p, if_neg]
        · rfl
        · rintro ⟨k, hk, e⟩
          by_cases z : k = n
          · subst z; exact q e.symm
          · exact p ⟨k, by omega, e⟩
def hg_base (m n : Nat) (c : Nat → Nat → Int) (S : Nat → Nat) (w u : Nat → Int) : Prop :=
  (∀ j, 1 ≤ j → j ≤ m → S j ≤ n) ∧ (∀ i j, 1 ≤ i → i ≤ m → 1 ≤ j → j ≤ m → S i = S j → S i ≠ 0 → i = j) ∧ (∀ i, 1 ≤ i → i ≤ n → ∃ j, 1 ≤ j ∧ j ≤ m ∧ S j = i) ∧
  (∀ i j, 1 ≤ i → i ≤ n → 1 ≤ j → j ≤ m → u i + w j ≤ c i j) ∧ (∀ j, 1 ≤ j → j ≤ m → S j ≠ 0 → u (S j) + w j = c (S j) j) ∧ (∀ j, 1 ≤ j → j ≤ m → w j ≤ 0) ∧ (∀ j, 1 ≤ j → j ≤ m → S j = 0 → w j = 0) ∧ cnt (fun j => S (j + 1) ≠ 0) m = n
/-- who is seated so is seated cheapest -/
theorem hg_opt {m n : Nat} {c : Nat → Nat → Int} {S : Nat → Nat} {w u : Nat → Int} (h : hg_base m n c S w u) {σ τ : Nat → Nat} (hσ : ∀ i, i < n → 1 ≤ σ i ∧ σ i ≤ m ∧ S (σ i) = i + 1) (hτ : ∀ i, i < n → 1 ≤ τ i ∧ τ i ≤ m) (hj : ∀ i j, i < n → j < n → τ i = τ j → i = j) :
    sm (fun i => c (i + 1) (σ i)) n ≤ sm (fun i => c (i + 1) (τ i)) n := by
  obtain ⟨b1, b2, b3, b4, b5, b6, b7, b8⟩ := h
  have e1 : sm (fun i => c (i + 1) (σ i)) n = sm (fun i => u (i + 1) + (fun j => w (j + 1)) (σ i - 1)) n := by
    apply sm_congr
    intro i hi
    obtain ⟨s1, s2, s3⟩ := hσ i hi
    have := b5 (σ i) s1 s2 (by rw [s3]; omega)
    rw [s3] at this
    show _ = u (i + 1) + w (σ i - 1 + 1)
    rw [show σ i - 1 + 1 = σ i by omega]
    omega
  have e2 : sm (fun i => u (i + 1) + (fun j => w (j + 1)) (τ i - 1)) n ≤ sm (fun i => c (i + 1) (τ i)) n := by
    apply sm_le
    intro i hi
    obtain ⟨s1, s2⟩ := hτ i hi
    have := b4 (i + 1) (τ i) (by omega) (by omega) s1 s2
    show u (i + 1) + w (τ i - 1 + 1) ≤ _
    rw [show τ i - 1 + 1 = τ i by omega]
    exact this
  rw [e1]
  refine Int.le_trans ?_ e2
  rw [sm_add, sm_add, hg_img (τ := fun i => σ i - 1) (w := fun j => w (j + 1)) (m := m) (n := n) (fun i hi => by have := hσ i hi; omega) (fun i j hi hj' e => by
    have a := hσ i hi
    have b := hσ j hj'
    have : σ i = σ j := by
      have e' : σ i - 1 = σ j - 1 := e
      omega
    have h3 : i + 1 = j + 1 := by rw [← a.2.2, this, b.2.2]
    omega), hg_img (τ := fun i => τ i - 1) (w := fun j => w (j + 1)) (m := m) (n := n) (fun i hi => by have := hτ i hi; omega) (fun i j hi hj' e => hj i j hi hj' (by
      have a := hτ i hi
      have b := hτ j hj'
      have e' : τ i - 1 = τ j - 1 := e
      omega))]
  have e3 : sm (hg_e (fun i => σ i - 1) (fun j => w (j + 1)) n) m ≤ sm (hg_e (fun i => τ i - 1) (fun j => w (j + 1)) n) m := by
    apply sm_le
    intro j hjm
    have hw := b6 (j + 1) (by omega) (by omega)
    have x1 : hg_e (fun i => σ i - 1) (fun j => w (j + 1)) n j = w (j + 1) := by
      unfold hg_e
      split
      · rfl
      · rename_i hne
        by_cases q : S (j + 1) = 0
        · exact (b7 (j + 1) (by omega) (by omega) q).symm
        · exfalso
          have r := b1 (j + 1) (by omega) (by omega)
          obtain ⟨s1, s2, s3⟩ := hσ (S (j + 1) - 1) (by omega)
          have := b2 (σ (S (j + 1) - 1)) (j + 1) s1 s2 (by omega) (by omega) (by rw [s3]; omega) (by rw [s3]; omega)
          exact hne ⟨S (j + 1) - 1, by omega, by show σ (S (j + 1) - 1) - 1 = j; omega⟩
    rw [x1]
    unfold hg_e
    split
    · exact Int.le_refl _
    · exact hw
  omega
def hg_out (m n : Nat) (c : Nat → Nat → Int) (S : Nat → Nat) (w u : Nat → Int) : Prop := hg_base m n c S w u ∧ (∀ i, n < i → i ≤ 10 → u i = 0) ∧ -((n : Int) * 1000000000000000) ≤ w 0 ∧ w 0 ≤ (n : Int) * 1000000000000000
/-- on the way: from player n + 1 at seat 0, seats R are reached, j0 is the next -/
def hg_in (m n s j0 : Nat) (c : Nat → Nat → Int) (S cf ord : Nat → Nat) (w u sl : Nat → Int) (R : Nat → Prop) : Prop :=
  (S 0 = n + 1 ∧ (∀ j, 1 ≤ j → j ≤ m → S j ≤ n) ∧ (∀ i j, 1 ≤ i → i ≤ m → 1 ≤ j → j ≤ m → S i = S j → S i ≠ 0 → i = j) ∧ (∀ i, 1 ≤ i → i ≤ n → ∃ j, 1 ≤ j ∧ j ≤ m ∧ S j = i) ∧ cnt (fun j => S (j + 1) ≠ 0) m = n) ∧
  ((∀ i j, 1 ≤ i → (i ≤ n ∨ (i = n + 1 ∧ 0 < s)) → 1 ≤ j → j ≤ m → u i + w j ≤ c i j) ∧ (∀ j, 1 ≤ j → j ≤ m → S j ≠ 0 → u (S j) + w j = c (S j) j) ∧ (∀ j, 1 ≤ j → j ≤ m → w j ≤ 0) ∧ (∀ j, 1 ≤ j → j ≤ m → S j = 0 → w j = 0)) ∧
  ((∀ j, R j → j ≤ m ∧ S j ≠ 0 ∧ ord j < s) ∧ (j0 ≤ m ∧ ¬ R j0 ∧ ord j0 = s) ∧ (s = 0 → j0 = 0 ∧ ∀ j, ¬ R j) ∧ (0 < s → R 0 ∧ j0 ≠ 0) ∧ cnt R (m + 1) = s) ∧
  (∀ j, 1 ≤ j → (R j ∨ j = j0) → R (cf j) ∧ ord (cf j) < ord j ∧ u (S (cf j)) + w j = c (S (cf j)) j) ∧
  ((0 < s → ∀ j, 1 ≤ j → j ≤ m → ¬ R j → j ≠ j0 → R (cf j) ∧ sl j = c (S (cf j)) j - u (S (cf j)) - w j ∧ ∀ r, R r → sl j ≤ c (S r) j - u (S r) - w j) ∧ (s = 0 → ∀ j, 1 ≤ j → j ≤ m → sl j = 4000000000000000000)) ∧
  ((s = 0 → u (n + 1) = 0) ∧ (0 < s → -1000000000000000 ≤ u (n + 1)) ∧ -((n : Int) * 1000000000000000) ≤ w 0 + u (n + 1) ∧ w 0 + u (n + 1) ≤ (n : Int) * 1000000000000000 ∧ (∀ i, n + 1 < i → i ≤ 10 → u i = 0))
def hg_C (m n : Nat) (c : Nat → Nat → Int) : Prop := ∀ i j, 1 ≤ i → i ≤ n → 1 ≤ j → j ≤ m → -1000000000000000 ≤ c i j ∧ c i j ≤ 1000000000000000
theorem hg_free {m n : Nat} {S : Nat → Nat} (h : cnt (fun j => S (j + 1) ≠ 0) m = n) (hm : n < m) : ∃ j, 1 ≤ j ∧ j ≤ m ∧ S j = 0 := by
  obtain ⟨j, a, b⟩ := cnt_lack (c := fun j => S (j + 1) ≠ 0) (n := m) (by omega)
  exact ⟨j + 1, by omega, by omega, Classical.byContradiction b⟩
/-- bounds of prices -/
theorem hg_bd {m n s j0 : Nat} {c : Nat → Nat → Int} {S cf ord : Nat → Nat} {w u sl : Nat → Int} {R : Nat → Prop} (hm : n < m) (hC : hg_C m (n + 1) c) (h : hg_in m n s j0 c S cf ord w u sl R) :
    (∀ i, 1 ≤ i → i ≤ n + 1 → -1000000000000000 ≤ u i ∧ u i ≤ 1000000000000000) ∧ (∀ j, 1 ≤ j → j ≤ m → -2000000000000000 ≤ w j ∧ w j ≤ 0) ∧ (-((n : Int) * 1000000000000000) - 1000000000000000 ≤ w 0 ∧ w 0 ≤ (n : Int) * 1000000000000000 + 1000000000000000) := by
  obtain ⟨⟨a1, a2, a3, a4, a5⟩, ⟨f1, f2, f3, f4⟩, -, -, -, ⟨u1, u2, u3, u4, u5⟩⟩ := h
  obtain ⟨jf, g1, g2, g3⟩ := hg_free a5 hm
  have g4 := f4 jf g1 g2 g3
  have hu : ∀ i, 1 ≤ i → i ≤ n + 1 → -1000000000000000 ≤ u i ∧ u i ≤ 1000000000000000 := by
    intro i h1 h2
    by_cases q : i = n + 1
    · subst q
      by_cases z : s = 0
      · rw [u1 z]; omega
      · have x := f1 (n + 1) jf h1 (Or.inr ⟨rfl, by omega⟩) g1 g2
        have y := hC (n + 1) jf h1 (Nat.le_refl _) g1 g2
        have z := u2 (by omega)
        omega
    · have x := f1 i jf h1 (Or.inl (by omega)) g1 g2
      have y := hC i jf h1 (by omega) g1 g2
      obtain ⟨j, p1, p2, p3⟩ := a4 i h1 (by omega)
      have x2 := f2 j p1 p2 (by omega)
      rw [p3] at x2
      have x3 := f3 j p1 p2
      have y2 := hC i j h1 (by omega) p1 p2
      omega
  refine ⟨hu, fun j h1 h2 => ?_, ?_⟩
  · have x := f3 j h1 h2
    by_cases q : S j = 0
    · have := f4 j h1 h2 q
      omega
    · have x2 := f2 j h1 h2 q
      have r := a2 j h1 h2
      have y2 := hC (S j) j (by omega) (by omega) h1 h2
      have x3 := hu (S j) (by omega) (by omega)
      omega
  · have := hu (n + 1) (by omega) (Nat.le_refl _)
    omega
/-- one more seat is reached -/
theorem hg_step {m n s j0 j1 : Nat} {c : Nat → Nat → Int} {S cf cf1 ord : Nat → Nat} {w u sl w' u' sl1 sl' : Nat → Int} {R : Nat → Prop} (hm : n < m) (hC : hg_C m (n + 1) c) (h : hg_in m n s j0 c S cf ord w u sl R) (h0 : S j0 ≠ 0)
    (hsl : ∀ j, 1 ≤ j → j ≤ m → ¬ R j → j ≠ j0 → (c (S j0) j - u (S j0) - w j < sl j → sl1 j = c (S j0) j - u (S j0) - w j ∧ cf1 j = j0) ∧ (¬ c (S j0) j - u (S j0) - w j < sl j → sl1 j = sl j ∧ cf1 j = cf j))
    (hcf : ∀ j, (R j ∨ j = j0) → cf1 j = cf j) (g1 : 1 ≤ j1) (g2 : j1 ≤ m) (g3 : ¬ R j1) (g4 : j1 ≠ j0) (g5 : ∀ j, 1 ≤ j → j ≤ m → ¬ R j → j ≠ j0 → sl1 j1 ≤ sl1 j)
    (hu : ∀ r, (R r ∨ r = j0) → u' (S r) = u (S r) + sl1 j1) (hu2 : ∀ i, (∀ r, (R r ∨ r = j0) → S r ≠ i) → u' i = u i)
    (hw : ∀ j, (R j ∨ j = j0) → w' j = w j - sl1 j1) (hw2 : ∀ j, j ≤ m → ¬ (R j ∨ j = j0) → w' j = w j) (hl : ∀ j, 1 ≤ j → j ≤ m → ¬ R j → j ≠ j0 → sl' j = sl1 j - sl1 j1) :
    hg_in m n (s + 1) j1 c S cf1 (fun j => if j = j1 then s + 1 else ord j) w' u' sl' (fun j => R j ∨ j = j0) := by
  have bd := hg_bd hm hC h
  obtain ⟨⟨a1, a2, a3, a4, a5⟩, ⟨f1, f2, f3, f4⟩, ⟨r1, ⟨r2, r3, r4⟩, r5, r6, r7⟩, e1, ⟨l1, l2⟩, ⟨u1, u2, u3, u4, u5⟩⟩ := h
  have hR' : ∀ r, (R r ∨ r = j0) → r ≤ m ∧ S r ≠ 0 ∧ S r ≤ n + 1 ∧ ord r ≤ s := by
    intro r hr
    have hb : r ≤ m ∧ S r ≠ 0 ∧ ord r ≤ s := by
      rcases hr with hr | hr
      · have := r1 r hr; omega
      · subst hr; omega
    refine ⟨hb.1, hb.2.1, ?_, hb.2.2⟩
    by_cases z : r = 0
    · subst z; omega
    · have := a2 r (by omega) hb.1; omega
  have inj : ∀ a b, a ≤ m → b ≤ m → S a = S b → S a ≠ 0 → a = b := by
    intro a b ha hb he hz
    by_cases za : a = 0
    · by_cases zb : b = 0
      · omega
      · subst za
        have := a2 b (by omega) hb
        omega
    · by_cases zb : b = 0
      · subst zb
        have := a2 a (by omega) ha
        omega
      · exact a3 a b (by omega) ha (by omega) hb he hz
  have h00 : R 0 ∨ 0 = j0 := by
    by_cases z : s = 0
    · right; exact (r5 z).1.symm
    · left; exact (r6 (by omega)).1
  have R1 : ∀ j, 1 ≤ j → (R j ∨ j = j0) → 0 < s := by
    intro j hj hr
    by_cases z : s = 0
    · rcases hr with hr | hr
      · exact absurd hr ((r5 z).2 j)
      · have := (r5 z).1; omega
    · omega
  have hX : ∀ j, 1 ≤ j → j ≤ m → ¬ R j → j ≠ j0 → (R (cf1 j) ∨ cf1 j = j0) ∧ sl1 j = c (S (cf1 j)) j - u (S (cf1 j)) - w j ∧ ∀ r, (R r ∨ r = j0) → sl1 j ≤ c (S r) j - u (S r) - w j := by
    intro j h1 h2 h3 h4
    obtain ⟨p1, p2⟩ := hsl j h1 h2 h3 h4
    have h5 := hR' j0 (Or.inr rfl)
    by_cases q : c (S j0) j - u (S j0) - w j < sl j
    · obtain ⟨q1, q2⟩ := p1 q
      rw [q2]
      refine ⟨Or.inr rfl, q1, fun r hr => ?_⟩
      rcases hr with hr | hr
      · have z : 0 < s := by
          by_cases z : s = 0
          · exact absurd hr ((r5 z).2 r)
          · omega
        have := (l1 z j h1 h2 h3 h4).2.2 r hr
        omega
      · subst hr; omega
    · have z : 0 < s := by
        by_cases z : s = 0
        · exfalso
          have x := l2 z j h1 h2
          have y := hC (S j0) j (by omega) h5.2.2.1 h1 h2
          have y2 := bd.1 (S j0) (by omega) h5.2.2.1
          have y3 := bd.2.1 j h1 h2
          omega
        · omega
      obtain ⟨q1, q2⟩ := p2 q
      obtain ⟨x1, x2, x3⟩ := l1 z j h1 h2 h3 h4
      rw [q2, q1]
      refine ⟨Or.inl x1, x2, fun r hr => ?_⟩
      rcases hr with hr | hr
      · exact x3 r hr
      · subst hr; omega
  obtain ⟨x1, x2, x3⟩ := hX j1 g1 g2 g3 g4
  have hd : 0 < s → 0 ≤ sl1 j1 := by
    intro z
    have hb := hR' (cf1 j1) x1
    have := f1 (S (cf1 j1)) j1 (by omega) (by omega) g1 g2
    omega
  refine ⟨⟨a1, a2, a3, a4, a5⟩, ⟨?_, ?_, ?_, ?_⟩, ⟨?_, ⟨g2, ?_, ?_⟩, fun z => by omega, fun _ => ⟨h00, by omega⟩, ?_⟩, ?_, ⟨?_, fun z => by omega⟩, ⟨fun z => by omega, ?_, ?_, ?_, ?_⟩⟩
  · -- feasible
    intro i j h1 h2 h3 h4
    by_cases q : ∃ r, (R r ∨ r = j0) ∧ S r = i
    · obtain ⟨r, hr, hri⟩ := q
      have y := hu r hr
      rw [hri] at y
      rw [y]
      by_cases q2 : R j ∨ j = j0
      · rw [hw j q2]
        have := f1 i j h1 (by have := R1 j h3 q2; omega) h3 h4
        omega
      · rw [hw2 j h4 q2]
        have q3 : ¬ R j := fun e => q2 (Or.inl e)
        have q4 : j ≠ j0 := fun e => q2 (Or.inr e)
        have y1 := g5 j h3 h4 q3 q4
        have y2 := (hX j h3 h4 q3 q4).2.2 r hr
        rw [hri] at y2
        omega
    · have y := hu2 i (fun r hr e => q ⟨r, hr, e⟩)
      rw [y]
      have hin : i ≤ n := by
        rcases h2 with h2 | h2
        · exact h2
        · exact absurd ⟨0, h00, by omega⟩ q
      have y1 := f1 i j h1 (Or.inl hin) h3 h4
      by_cases q2 : R j ∨ j = j0
      · rw [hw j q2]
        have := hd (R1 j h3 q2)
        omega
      · rw [hw2 j h4 q2]
        exact y1
  · intro j h1 h2 h3
    have y := f2 j h1 h2 h3
    by_cases q2 : R j ∨ j = j0
    · rw [hw j q2, hu j q2]
      omega
    · rw [hw2 j h2 q2, hu2 (S j) (fun r hr e => q2 (by
        have := inj r j (hR' r hr).1 h2 e (hR' r hr).2.1
        subst this
        exact hr))]
      exact y
  · intro j h1 h2
    have y := f3 j h1 h2
    by_cases q2 : R j ∨ j = j0
    · rw [hw j q2]
      have := hd (R1 j h1 q2)
      omega
    · rw [hw2 j h2 q2]
      exact y
  · intro j h1 h2 h3
    have q2 : ¬ (R j ∨ j = j0) := fun e => (hR' j e).2.1 h3
    rw [hw2 j h2 q2]
    exact f4 j h1 h2 h3
  · intro j hr
    have := hR' j hr
    have hne : j ≠ j1 := by
      intro e
      subst e
      rcases hr with hr | hr
      · exact g3 hr
      · exact g4 hr
    show j ≤ m ∧ S j ≠ 0 ∧ (if j = j1 then s + 1 else ord j) < s + 1
    rw [if_neg hne]
    omega
  · intro e
    rcases e with e | e
    · exact g3 e
    · exact g4 e
  · show (if j1 = j1 then s + 1 else ord j1) = s + 1
    rw [if_pos rfl]
  · rw [cnt_one (c := R) (d := fun j => R j ∨ j = j0) (x := j0) (n := m + 1) (by omega) r3 (Or.inr rfl) (fun j _ hj => ⟨fun e => by
      rcases e with e | e
      · exact e
      · exact absurd e hj, Or.inl⟩), r7]
  · intro j h1 hr
    by_cases q : j = j1
    · subst q
      show (R (cf1 j) ∨ cf1 j = j0) ∧ (if cf1 j = j then s + 1 else ord (cf1 j)) < (if j = j then s + 1 else ord j) ∧ _
      have hne : cf1 j ≠ j := by
        intro e
        rw [e] at x1
        rcases x1 with x1 | x1
        · exact g3 x1
        · exact g4 x1
      rw [if_neg hne, if_pos rfl]
      refine ⟨x1, by have := hR' _ x1; omega, ?_⟩
      rw [hu _ x1, hw2 j g2 (fun e => by
        rcases e with e | e
        · exact g3 e
        · exact g4 e)]
      omega
    · have hr2 : R j ∨ j = j0 := by
        rcases hr with hr | hr
        · exact hr
        · exact absurd hr q
      obtain ⟨y1, y2, y3⟩ := e1 j h1 hr2
      rw [hcf j hr2]
      have hne : cf j ≠ j1 := fun e => g3 (by rw [← e]; exact y1)
      show (R (cf j) ∨ cf j = j0) ∧ (if cf j = j1 then s + 1 else ord (cf j)) < (if j = j1 then s + 1 else ord j) ∧ _
      rw [if_neg hne, if_neg q]
      refine ⟨Or.inl y1, y2, ?_⟩
      rw [hu _ (Or.inl y1), hw j hr2]
      omega
  · intro _ j h1 h2 h3 h4
    have q3 : ¬ R j := fun e => h3 (Or.inl e)
    have q4 : j ≠ j0 := fun e => h3 (Or.inr e)
    obtain ⟨y1, y2, y3⟩ := hX j h1 h2 q3 q4
    rw [hl j h1 h2 q3 q4, hw2 j h2 h3]
    refine ⟨y1, by rw [hu _ y1]; omega, fun r hr => ?_⟩
    rw [hu r hr]
    have := y3 r hr
    omega
  · intro _
    have y := hu 0 h00
    rw [a1] at y
    rw [y]
    by_cases z : s = 0
    · have z2 := r5 z
      have z3 : cf1 j1 = 0 := by
        rcases x1 with x1 | x1
        · exact absurd x1 (z2.2 _)
        · omega
      rw [z3, a1] at x2
      have z4 := hC (n + 1) j1 (by omega) (Nat.le_refl _) g1 g2
      have z5 := f3 j1 g1 g2
      have z6 := u1 z
      omega
    · have := hd (by omega)
      have := u2 (by omega)
      omega
  · have y := hu 0 h00
    rw [a1] at y
    rw [y, hw 0 h00]
    omega
  · have y := hu 0 h00
    rw [a1] at y
    rw [y, hw 0 h00]
    omega
  · intro i h1 h2
    rw [hu2 i (fun r hr e => by have := hR' r hr; omega)]
    exact u5 i h1 h2
/-- the start of a path -/
theorem hg_start {m n : Nat} {c : Nat → Nat → Int} {S S' cf : Nat → Nat} {w u sl : Nat → Int} (hn : n < 10) (h : hg_out m n c S w u) (e0 : S' 0 = n + 1) (e : ∀ j, 1 ≤ j → j ≤ m → S' j = S j) (hs : ∀ j, 1 ≤ j → j ≤ m → sl j = 4000000000000000000) : hg_in m n 0 0 c S' cf (fun _ => 0) w u sl (fun _ => False) := by
  obtain ⟨⟨b1, b2, b3, b4, b5, b6, b7, b8⟩, o1, o2, o3⟩ := h
  refine ⟨⟨e0, fun j h1 h2 => ?_, fun i j h1 h2 h3 h4 => ?_, fun i h1 h2 => ?_, ?_⟩, ⟨fun i j h1 h2 h3 h4 => ?_, fun j h1 h2 => ?_, b6, fun j h1 h2 => ?_⟩, ⟨fun j hj => hj.elim, ⟨Nat.zero_le _, fun e => e, rfl⟩, fun _ => ⟨rfl, fun _ e => e⟩, fun z => absurd z (Nat.lt_irrefl 0), cnt_no (fun _ _ e => e)⟩, fun j h1 hr => ?_, ⟨fun z => absurd z (Nat.lt_irrefl 0), fun _ => hs⟩, ⟨fun _ => o1 (n + 1) (by omega) (by omega), fun z => absurd z (Nat.lt_irrefl 0), ?_, ?_, fun i h1 h2 => o1 i (by omega) h2⟩⟩
  · rw [e j h1 h2]; exact b1 j h1 h2
  · rw [e i h1 h2, e j h3 h4]; exact b2 i j h1 h2 h3 h4
  · obtain ⟨j, p1, p2, p3⟩ := b3 i h1 h2
    exact ⟨j, p1, p2, by rw [e j p1 p2]; exact p3⟩
  · rw [← b8]
    apply cnt_congr
    intro j hj
    show S' (j + 1) ≠ 0 ↔ _
    rw [e (j + 1) (by omega) (by omega)]
  · exact b4 i j h1 (by omega) h3 h4
  · rw [e j h1 h2]; exact b5 j h1 h2
  · rw [e j h1 h2]; exact b7 j h1 h2
  · rcases hr with hr | hr
    · exact hr.elim
    · omega
  · rw [o1 (n + 1) (by omega) (by omega)]; omega
  · rw [o1 (n + 1) (by omega) (by omega)]; omega
/-- the way back: all one seat on; T: who sits now, j: the seat that is open -/
def hg_bk (m n j0 j : Nat) (c : Nat → Nat → Int) (S T ord : Nat → Nat) (w u : Nat → Int) (R : Nat → Prop) : Prop :=
  (R j ∨ j = j0) ∧ (∀ x, (R x ∨ x = j0) → ord x ≤ ord j → T x = S x) ∧ (∀ i, 1 ≤ i → i ≤ n + 1 → ∃ x, x ≤ m ∧ x ≠ j ∧ T x = i) ∧ (∀ x y, x ≤ m → y ≤ m → x ≠ j → y ≠ j → T x = T y → T x ≠ 0 → x = y) ∧
  (∀ x, 1 ≤ x → x ≤ m → x ≠ j → T x ≠ 0 → u (T x) + w x = c (T x) x) ∧ (∀ x, x ≤ m → T x ≤ n + 1) ∧ (∀ x, 1 ≤ x → x ≤ m → x ≠ j0 → (T x = 0 ↔ S x = 0)) ∧ (j ≠ j0 → T j0 ≠ 0)
theorem hg_bk0 {m n s j0 : Nat} {c : Nat → Nat → Int} {S cf ord : Nat → Nat} {w u sl : Nat → Int} {R : Nat → Prop} (h : hg_in m n s j0 c S cf ord w u sl R) (hz : S j0 = 0) : hg_bk m n j0 j0 c S S ord w u R := by
  obtain ⟨⟨a1, a2, a3, a4, a5⟩, ⟨f1, f2, f3, f4⟩, ⟨r1, ⟨r2, r3, r4⟩, r5, r6, r7⟩, e1, ⟨l1, l2⟩, ⟨u1, u2, u3, u4, u5⟩⟩ := h
  refine ⟨Or.inr rfl, fun _ _ _ => rfl, fun i h1 h2 => ?_, fun x y h1 h2 h3 h4 h5 h6 => ?_, fun x h1 h2 _ h4 => f2 x h1 h2 h4, fun x hx => ?_, fun _ _ _ _ => Iff.rfl, fun e => absurd rfl e⟩
  · by_cases q : i = n + 1
    · exact ⟨0, Nat.zero_le _, fun e => by rw [← e] at hz; omega, by omega⟩
    · obtain ⟨j, p1, p2, p3⟩ := a4 i h1 (by omega)
      exact ⟨j, p2, fun e => by rw [e] at p3; omega, p3⟩
  · by_cases za : x = 0
    · by_cases zb : y = 0
      · omega
      · subst za
        have := a2 y (by omega) h2
        omega
    · by_cases zb : y = 0
      · subst zb
        have := a2 x (by omega) h1
        omega
      · exact a3 x y (by omega) h1 (by omega) h2 h5 h6
  · by_cases q : x = 0
    · subst q; omega
    · have := a2 x (by omega) hx; omega
theorem hg_bks {m n s j0 j : Nat} {c : Nat → Nat → Int} {S T cf ord : Nat → Nat} {w u sl : Nat → Int} {R : Nat → Prop} (h : hg_in m n s j0 c S cf ord w u sl R) (hb : hg_bk m n j0 j c S T ord w u R) (hj : j ≠ 0) :
    hg_bk m n j0 (cf j) c S (fun x => if x = j then T (cf j) else T x) ord w u R ∧ ord (cf j) < ord j ∧ cf j ≤ m ∧ j ≤ m := by
  obtain ⟨⟨a1, a2, a3, a4, a5⟩, ⟨f1, f2, f3, f4⟩, ⟨r1, ⟨r2, r3, r4⟩, r5, r6, r7⟩, e1, ⟨l1, l2⟩, ⟨u1, u2, u3, u4, u5⟩⟩ := h
  obtain ⟨k1, k2, k3, k4, k5, k6, k7, k8⟩ := hb
  have hjm : j ≤ m := by
    rcases k1 with k1 | k1
    · exact (r1 j k1).1
    · omega
  obtain ⟨c1, c2, c3⟩ := e1 j (by omega) k1
  have hc := r1 (cf j) c1
  have hne : cf j ≠ j := fun e => by rw [e] at c2; omega
  have hT : T (cf j) = S (cf j) := k2 (cf j) (Or.inl c1) (by omega)
  have ej : (if j = j then T (cf j) else T j) = T (cf j) := if_pos rfl
  have en : ∀ x, x ≠ j → (if x = j then T (cf j) else T x) = T x := fun x hx => if_neg hx
  refine ⟨⟨Or.inl c1, fun x hx ho => ?_, fun i h1 h2 => ?_, fun x y h1 h2 h3 h4 h5 h6 => ?_, fun x h1 h2 h3 h4 => ?_, fun x hx => ?_, fun x h1 h2 h3 => ?_, fun hne2 => ?_⟩, c2, hc.1, hjm⟩
  · have : x ≠ j := fun e => by rw [e] at ho; omega
    show (if x = j then T (cf j) else T x) = S x
    rw [en x this]
    exact k2 x hx (by omega)
  · obtain ⟨x, p1, p2, p3⟩ := k3 i h1 h2
    by_cases q : x = cf j
    · exact ⟨j, hjm, fun e => hne e.symm, by show (if j = j then T (cf j) else T j) = i; rw [ej, ← q]; exact p3⟩
    · exact ⟨x, p1, q, by show (if x = j then T (cf j) else T x) = i; rw [en x p2]; exact p3⟩
  · have h5' : (if x = j then T (cf j) else T x) = (if y = j then T (cf j) else T y) := h5
    have h6' : (if x = j then T (cf j) else T x) ≠ 0 := h6
    by_cases qx : x = j
    · by_cases qy : y = j
      · omega
      · exfalso
        rw [if_pos qx, if_neg qy] at h5'
        rw [if_pos qx] at h6'
        exact h4 (k4 (cf j) y hc.1 h2 hne qy h5' h6').symm
    · by_cases qy : y = j
      · exfalso
        rw [if_neg qx, if_pos qy] at h5'
        rw [if_neg qx] at h6'
        exact h3 (k4 x (cf j) h1 hc.1 qx hne h5' h6')
      · rw [if_neg qx, if_neg qy] at h5'
        rw [if_neg qx] at h6'
        exact k4 x y h1 h2 qx qy h5' h6'
  · have h4' : (if x = j then T (cf j) else T x) ≠ 0 := h4
    show u (if x = j then T (cf j) else T x) + w x = c (if x = j then T (cf j) else T x) x
    by_cases q : x = j
    · rw [if_pos q, hT, q]
      exact c3
    · rw [if_neg q] at h4' ⊢
      exact k5 x h1 h2 q h4'
  · show (if x = j then T (cf j) else T x) ≤ n + 1
    split
    · exact k6 (cf j) hc.1
    · exact k6 x hx
  · show ((if x = j then T (cf j) else T x) = 0 ↔ S x = 0)
    by_cases q : x = j
    · rw [if_pos q, hT]
      have : R x := by
        rcases k1 with k1 | k1
        · rw [q]; exact k1
        · exact absurd (q.trans k1) h3
      have := (r1 x this).2.1
      have := hc.2.1
      omega
    · rw [if_neg q]
      exact k7 x h1 h2 h3
  · show (if j0 = j then T (cf j) else T j0) ≠ 0
    by_cases q : j0 = j
    · rw [if_pos q, hT]
      exact hc.2.1
    · rw [if_neg q]
      exact k8 (fun e => q e.symm)
/-- the end: one more is seated -/
theorem hg_end {m n s j0 : Nat} {c : Nat → Nat → Int} {S T cf ord : Nat → Nat} {w u sl : Nat → Int} {R : Nat → Prop} (hm : n < m) (hC : hg_C m (n + 1) c) (h : hg_in m n s j0 c S cf ord w u sl R) (hz : S j0 = 0) (hb : hg_bk m n j0 0 c S T ord w u R) : hg_out m (n + 1) c T w u := by
  have bd := hg_bd hm hC h
  obtain ⟨⟨a1, a2, a3, a4, a5⟩, ⟨f1, f2, f3, f4⟩, ⟨r1, ⟨r2, r3, r4⟩, r5, r6, r7⟩, e1, ⟨l1, l2⟩, ⟨u1, u2, u3, u4, u5⟩⟩ := h
  obtain ⟨k1, k2, k3, k4, k5, k6, k7, k8⟩ := hb
  have hj0 : 1 ≤ j0 := by
    by_cases q : j0 = 0
    · subst q; omega
    · omega
  have hs : 0 < s := by
    by_cases q : s = 0
    · have := (r5 q).1; omega
    · omega
  have hT0 := k8 (by omega)
  refine ⟨⟨fun j _ h2 => k6 j h2, fun i j h1 h2 h3 h4 h5 h6 => k4 i j h2 h4 (by omega) (by omega) h5 h6, fun i h1 h2 => ?_, fun i j h1 h2 h3 h4 => f1 i j h1 (by omega) h3 h4, fun j h1 h2 h3 => k5 j h1 h2 (by omega) h3, f3, fun j h1 h2 h3 => ?_, ?_⟩, u5, ?_, ?_⟩
  · obtain ⟨x, p1, p2, p3⟩ := k3 i h1 h2
    exact ⟨x, by omega, p1, p3⟩
  · by_cases q : j = j0
    · subst q; exact absurd h3 hT0
    · exact f4 j h1 h2 ((k7 j h1 h2 q).mp h3)
  · rw [cnt_one (c := fun j => S (j + 1) ≠ 0) (d := fun j => T (j + 1) ≠ 0) (x := j0 - 1) (n := m) (by omega) (fun e => e (by rw [show j0 - 1 + 1 = j0 by omega]; exact hz)) (by
      show T (j0 - 1 + 1) ≠ 0
      rw [show j0 - 1 + 1 = j0 by omega]; exact hT0) (fun j hj hne => by
        have := k7 (j + 1) (by omega) (by omega) (by omega)
        exact not_congr this), a5]
  · have := (bd.1 (n + 1) (by omega) (Nat.le_refl _))
    push_cast
    omega
  · have := (bd.1 (n + 1) (by omega) (Nat.le_refl _))
    push_cast
    omega
