/-! the gaps between held years: the count of closings against the count of openings -/
noncomputable def cif {α : Type} (c : Prop) (a b : α) : α := @ite α c (Classical.propDecidable c) a b
theorem cif_t {α : Type} {c : Prop} {a b : α} (h : c) : cif c a b = a := @if_pos c (Classical.propDecidable c) h α a b
theorem cif_f {α : Type} {c : Prop} {a b : α} (h : ¬ c) : cif c a b = b := @if_neg c (Classical.propDecidable c) h α a b
section GP
variable (H IG : Nat → Prop) (o : Int)
noncomputable def lat : Nat → Option Nat
  | 0 => none
  | y + 1 => cif (H y) (some y) (lat y)
def gcl (y : Nat) : Prop := H y ∧ ∃ l, lat H y = some l ∧ l + 1 < y
noncomputable def gC : Nat → Nat
  | 0 => 0
  | y + 1 => cif (gcl H y) (gC y + 1) (gC y)
noncomputable def cF : Nat → Option Nat
  | 0 => none
  | y + 1 => cif (gcl H y ∧ (gC H y : Int) = o) ((lat H y).map (· + 1)) (cF y)
noncomputable def cT : Nat → Option Nat
  | 0 => none
  | y + 1 => cif (gcl H y ∧ (gC H y : Int) = o) (some (y - 1)) (cT y)
def gst (y : Nat) : Prop := IG y ∧ ¬ IG (y - 1)
noncomputable def gM : Nat → Nat
  | 0 => 0
  | y + 1 => cif (gst IG y) (gM y + 1) (gM y)
noncomputable def mF : Nat → Option Nat
  | 0 => none
  | y + 1 => cif (gst IG y ∧ (gM IG (y + 1) : Int) = o + 1) (some y) (mF y)
noncomputable def mT : Nat → Option Nat
  | 0 => none
  | y + 1 => cif (IG y ∧ (gM IG (y + 1) : Int) = o + 1) (some y) (mT y)
variable {H IG o}
theorem lat_t {y : Nat} (h : H y) : lat H (y + 1) = some y := cif_t h
theorem lat_f {y : Nat} (h : ¬ H y) : lat H (y + 1) = lat H y := cif_f h
theorem gC_t {y : Nat} (h : gcl H y) : gC H (y + 1) = gC H y + 1 := cif_t h
theorem gC_f {y : Nat} (h : ¬ gcl H y) : gC H (y + 1) = gC H y := cif_f h
theorem cF_t {y l : Nat} (h : gcl H y) (h2 : (gC H y : Int) = o) (e : lat H y = some l) : cF H o (y + 1) = some (l + 1) := by
  have : cF H o (y + 1) = (lat H y).map (· + 1) := cif_t ⟨h, h2⟩
  rw [this, e]; rfl
theorem cF_f {y : Nat} (h : ¬ (gcl H y ∧ (gC H y : Int) = o)) : cF H o (y + 1) = cF H o y := cif_f h
theorem cT_t {y : Nat} (h : gcl H y) (h2 : (gC H y : Int) = o) : cT H o (y + 1) = some (y - 1) := cif_t ⟨h, h2⟩
theorem cT_f {y : Nat} (h : ¬ (gcl H y ∧ (gC H y : Int) = o)) : cT H o (y + 1) = cT H o y := cif_f h
theorem gM_t {y : Nat} (h : gst IG y) : gM IG (y + 1) = gM IG y + 1 := cif_t h
theorem gM_f {y : Nat} (h : ¬ gst IG y) : gM IG (y + 1) = gM IG y := cif_f h
theorem mF_t {y : Nat} (h : gst IG y) (h2 : (gM IG (y + 1) : Int) = o + 1) : mF IG o (y + 1) = some y := cif_t ⟨h, h2⟩
theorem mF_f {y : Nat} (h : ¬ (gst IG y ∧ (gM IG (y + 1) : Int) = o + 1)) : mF IG o (y + 1) = mF IG o y := cif_f h
theorem mT_t {y : Nat} (h : IG y) (h2 : (gM IG (y + 1) : Int) = o + 1) : mT IG o (y + 1) = some y := cif_t ⟨h, h2⟩
theorem mT_f {y : Nat} (h : ¬ (IG y ∧ (gM IG (y + 1) : Int) = o + 1)) : mT IG o (y + 1) = mT IG o y := cif_f h
theorem gM_0 {Y : Nat} (h : ∀ y, y < Y → ¬ IG y) : gM IG Y = 0 ∧ mF IG o Y = none ∧ mT IG o Y = none := by
  induction Y with
  | zero => exact ⟨rfl, rfl, rfl⟩
  | succ Y ih =>
    have := ih (fun y hy => h y (by omega))
    have q := h Y (by omega)
    rw [gM_f (fun z => q z.1), mF_f (fun z => q z.1.1), mT_f (fun z => q z.1)]
    exact this
theorem gM_k {Y d : Nat} (h : ∀ y, Y ≤ y → ¬ IG y) : gM IG (Y + d) = gM IG Y ∧ mF IG o (Y + d) = mF IG o Y ∧ mT IG o (Y + d) = mT IG o Y := by
  induction d with
  | zero => exact ⟨rfl, rfl, rfl⟩
  | succ d ih =>
    have q := h (Y + d) (by omega)
    rw [show Y + (d + 1) = Y + d + 1 by omega, gM_f (fun z => q z.1), mF_f (fun z => q z.1.1), mT_f (fun z => q z.1)]
    exact ih
theorem gC_0 {Y : Nat} (h : ∀ y, y < Y → ¬ H y) : lat H Y = none ∧ gC H Y = 0 ∧ cF H o Y = none ∧ cT H o Y = none := by
  induction Y with
  | zero => exact ⟨rfl, rfl, rfl, rfl⟩
  | succ Y ih =>
    have := ih (fun y hy => h y (by omega))
    have q := h Y (by omega)
    rw [lat_f q, gC_f (fun z => q z.1), cF_f (fun z => q z.1.1), cT_f (fun z => q z.1.1)]
    exact this
theorem gC_le : ∀ Y : Nat, gC H Y ≤ Y
  | 0 => Nat.le_refl 0
  | Y + 1 => by
    have := gC_le Y
    by_cases h : gcl H Y
    · rw [gC_t h]; omega
    · rw [gC_f h]; omega
theorem gM_le : ∀ Y : Nat, gM IG Y ≤ Y
  | 0 => Nat.le_refl 0
  | Y + 1 => by
    have := gM_le Y
    by_cases h : gst IG Y
    · rw [gM_t h]; omega
    · rw [gM_f h]; omega
theorem lat_lt {l : Nat} : ∀ {Y : Nat}, lat H Y = some l → l < Y
  | 0, h => by cases h
  | Y + 1, h => by
    by_cases q : H Y
    · rw [lat_t q] at h; cases h; omega
    · rw [lat_f q] at h; have := lat_lt h; omega
def gE (H : Nat → Prop) (Y : Nat) : Prop := ∃ b, Y ≤ b ∧ H b
def gI (H IG : Nat → Prop) (o : Int) (Y : Nat) : Prop :=
  (lat H Y = none → gC H Y = 0 ∧ gM IG Y = 0 ∧ ∀ a, a < Y → ¬ H a) ∧
  (∀ l, lat H Y = some l → l < Y ∧ H l ∧ (∀ a, l < a → a < Y → ¬ H a) ∧ gM IG Y = gC H Y + (cif (l + 1 < Y ∧ gE H Y) 1 0) ∧
    (o < gC H Y → 0 ≤ o → ∃ f t, cF H o Y = some f ∧ mF IG o Y = some f ∧ cT H o Y = some t ∧ mT IG o Y = some t) ∧
    ((gC H Y : Int) = o → l + 1 < Y ∧ gE H Y → mF IG o Y = some (l + 1) ∧ mT IG o Y = some (Y - 1)))
theorem gap_inv (hIG : ∀ y, IG y ↔ ¬ H y ∧ (∃ a, a < y ∧ H a) ∧ ∃ b, y < b ∧ H b) : ∀ Y, gI H IG o Y
  | 0 => ⟨fun _ => ⟨rfl, rfl, fun a h => absurd h (Nat.not_lt_zero a)⟩, fun l h => by cases h⟩
  | Y + 1 => by
    obtain ⟨i0, i1⟩ := gap_inv hIG Y
    by_cases h : H Y
    · have hg : ¬ IG Y := fun z => ((hIG Y).mp z).1 h
      have g1 : gM IG (Y + 1) = gM IG Y := gM_f (fun z => hg z.1)
      have g2 : mF IG o (Y + 1) = mF IG o Y := mF_f (fun z => hg z.1.1)
      have g3 : mT IG o (Y + 1) = mT IG o Y := mT_f (fun z => hg z.1)
      unfold gI
      rw [lat_t h]
      refine ⟨fun z => (by cases z), fun l hl => ?_⟩
      cases hl
      rw [g1, g2, g3, cif_f (by omega)]
      refine ⟨by omega, h, fun a p q => by omega, ?_⟩
      cases e : lat H Y with
      | none =>
        have hc : ¬ gcl H Y := fun ⟨_, l, p, _⟩ => by rw [e] at p; cases p
        obtain ⟨a1, a2, a3⟩ := i0 e
        rw [gC_f hc, a1, a2]
        exact ⟨rfl, fun z z2 => by omega, fun z z2 => by omega⟩
      | some l =>
        obtain ⟨b1, b2, b3, b4, b5, b6⟩ := i1 l e
        by_cases q : l + 1 < Y
        · have hc : gcl H Y := ⟨h, l, e, q⟩
          have hE : l + 1 < Y ∧ gE H Y := ⟨q, Y, Nat.le_refl _, h⟩
          rw [cif_t hE] at b4
          rw [gC_t hc, b4]
          refine ⟨by omega, fun z z2 => ?_, fun z z2 => by omega⟩
          by_cases k : (gC H Y : Int) = o
          · obtain ⟨m1, m2⟩ := b6 k hE
            exact ⟨l + 1, Y - 1, cF_t hc k e, m1, cT_t hc k, m2⟩
          · rw [cF_f (fun z => k z.2), cT_f (fun z => k z.2)]
            exact b5 (by omega) z2
        · have hc : ¬ gcl H Y := fun ⟨_, l', p, p2⟩ => by rw [e] at p; cases p; exact q p2
          rw [cif_f (fun z => q z.1)] at b4
          rw [gC_f hc, b4, cF_f (fun z => hc z.1), cT_f (fun z => hc z.1)]
          exact ⟨rfl, b5, fun z z2 => by omega⟩
    · have hc : ¬ gcl H Y := fun z => h z.1
      unfold gI
      rw [lat_f h, gC_f hc, cF_f (fun z => hc z.1), cT_f (fun z => hc z.1)]
      refine ⟨fun e => ?_, fun l e => ?_⟩
      · obtain ⟨a1, a2, a3⟩ := i0 e
        have hg : ¬ IG Y := fun z => by
          obtain ⟨_, ⟨a, p, q⟩, _⟩ := (hIG Y).mp z
          exact a3 a p q
        refine ⟨a1, (gM_f (fun z => hg z.1)).trans a2, fun a p q => ?_⟩
        by_cases r : a = Y
        · subst r; exact h q
        · exact a3 a (by omega) q
      · obtain ⟨b1, b2, b3, b4, b5, b6⟩ := i1 l e
        have b3' : ∀ a, l < a → a < Y + 1 → ¬ H a := fun a p q r => by
          by_cases s : a = Y
          · subst s; exact h r
          · exact b3 a p (by omega) r
        have hE : gE H (Y + 1) ↔ gE H Y := by
          constructor
          · rintro ⟨b, p, q⟩; exact ⟨b, by omega, q⟩
          · rintro ⟨b, p, q⟩
            refine ⟨b, ?_, q⟩
            by_cases s : b = Y
            · subst s; exact absurd q h
            · omega
        refine ⟨by omega, b2, b3', ?_⟩
        by_cases k : gE H Y
        · obtain ⟨b, p, q⟩ := hE.mpr k
          have hg : IG Y := (hIG Y).mpr ⟨h, ⟨l, b1, b2⟩, b, by omega, q⟩
          rw [cif_t ⟨by omega, hE.mpr k⟩]
          by_cases r : l + 1 < Y
          · have hs : ¬ gst IG Y := fun z => z.2 ((hIG _).mpr ⟨b3 _ (by omega) (by omega), ⟨l, by omega, b2⟩, b, by omega, q⟩)
            rw [cif_t ⟨r, k⟩] at b4
            have gm : gM IG (Y + 1) = gC H Y + 1 := (gM_f hs).trans b4
            rw [gm, mF_f (fun z => hs z.1)]
            refine ⟨rfl, fun z z2 => ?_, fun z z2 => ?_⟩
            · rw [mT_f (fun w => by have := w.2; rw [gm] at this; omega)]
              exact b5 z z2
            · refine ⟨(b6 z ⟨r, k⟩).1, ?_⟩
              rw [mT_t hg (by rw [gm]; omega)]
              exact congrArg some (by omega)
          · have hs : gst IG Y := ⟨hg, fun z => ((hIG _).mp z).1 (by rw [show Y - 1 = l by omega]; exact b2)⟩
            rw [cif_f (fun z => r z.1)] at b4
            have gm : gM IG (Y + 1) = gC H Y + 1 := (gM_t hs).trans (by omega)
            rw [gm]
            refine ⟨rfl, fun z z2 => ?_, fun z z2 => ?_⟩
            · rw [mT_f (fun w => by have := w.2; rw [gm] at this; omega), mF_f (fun w => by have := w.2; rw [gm] at this; omega)]
              exact b5 z z2
            · rw [mT_t hg (by rw [gm]; omega), mF_t hs (by rw [gm]; omega)]
              exact ⟨congrArg some (by omega), congrArg some (by omega)⟩
        · have hg : ¬ IG Y := fun z => by
            obtain ⟨_, _, b, p, q⟩ := (hIG Y).mp z
            exact k ⟨b, by omega, q⟩
          rw [cif_f (fun z => k z.2)] at b4
          rw [cif_f (fun z => k (hE.mp z.2)), gM_f (fun z => hg z.1), mF_f (fun z => hg z.1.1), mT_f (fun z => hg z.1)]
          exact ⟨b4, b5, fun _ z2 => absurd (hE.mp z2.2) k⟩
theorem gap_end (hIG : ∀ y, IG y ↔ ¬ H y ∧ (∃ a, a < y ∧ H a) ∧ ∃ b, y < b ∧ H b) {Y : Nat} (hY : ∀ b, Y ≤ b → ¬ H b) : gM IG Y = gC H Y ∧ (o < gC H Y → 0 ≤ o → ∃ f t, cF H o Y = some f ∧ mF IG o Y = some f ∧ cT H o Y = some t ∧ mT IG o Y = some t) := by
  obtain ⟨i0, i1⟩ := gap_inv (o := o) hIG Y
  cases e : lat H Y with
  | none =>
    obtain ⟨a1, a2, a3⟩ := i0 e
    exact ⟨by omega, fun z z2 => by omega⟩
  | some l =>
    obtain ⟨b1, b2, b3, b4, b5, b6⟩ := i1 l e
    rw [cif_f (fun z => by obtain ⟨_, b, p, q⟩ := z; exact hY b p q)] at b4
    exact ⟨b4, b5⟩
end GP
