/-! THE WORLD of a pure state: the cells of the heap that it stands for -/
def ztr (ad : Nat → Nat) (v : Value) : Value := match v with
  | .ref k => .ref (ad k)
  | v => v
def zfv (ad : Nat → Nat) (σ : zS) (c j : Nat) : Value := match zfk (64 * c + j) with
  | some k => .ref (ad k)
  | none => .int (σ.1 c j)
def zrow (ad : Nat → Nat) (σ : zS) (a q n b : Nat) : vp_A := if q = 2 then (n, .inr (.inl (σ.2.2 a))) else if q = 3 then (n, .inr (.inr (.inr (.inr (fun i => some (ad (b + i))))))) else (n, .inl (σ.2.1 a))
def ze (ad : Nat → Nat) (cy : Nat → ClassId) (σ : zS) (k : Nat) : va_E := if k < 13 then .inr (k, (List.range (zNf k)).map (zfv ad σ k)) else match zar k with
  | some (q, n, b) => .inl (cy q, zrow ad σ k q n b)
  | none => .inr (0, [])
def zw (ad : Nat → Nat) (cy : Nat → ClassId) (σ : zS) : va_W := (List.range 133).map (fun k => (ad k, ze ad cy σ k))
def ztys (cy : Nat → ClassId) : List (ClassId × FieldType) := [(cy 0, .int), (cy 1, .boolean), (cy 2, .long), (cy 3, .array .int)]
theorem ztr_cat (ad : Nat → Nat) (v : Value) : (ztr ad v).category = v.category := by cases v <;> rfl
theorem zw_at {ad : Nat → Nat} {cy : Nat → ClassId} {σ : zS} {k : Nat} (h : k < 133) : (zw ad cy σ)[k]? = some (ad k, ze ad cy σ k) := by
  unfold zw
  rw [List.getElem?_map, List.getElem?_range h]
  rfl
theorem zw_set {ad : Nat → Nat} {cy : Nat → ClassId} {σ σ' : zS} {k : Nat} {e : va_E} (h : k < 133) (he : ze ad cy σ' k = e) (ho : ∀ j, j ≠ k → ze ad cy σ' j = ze ad cy σ j) : (zw ad cy σ).set k (ad k, e) = zw ad cy σ' := by
  apply List.ext_getElem?
  intro j
  rw [List.getElem?_set]
  by_cases hj : k = j
  · subst hj
    rw [if_pos rfl, zw_at h, he]
    have hl : (zw ad cy σ).length = 133 := by simp [zw]
    rw [if_pos (by rw [hl]; exact h)]
  · rw [if_neg hj]
    by_cases hj2 : j < 133
    · rw [zw_at hj2, zw_at hj2, ho j (fun q => hj q.symm)]
    · rw [List.getElem?_eq_none (by simp [zw]; omega), List.getElem?_eq_none (by simp [zw]; omega)]
def zarC (k : Nat) : Bool := match zar k with
    | some (q, n, b) => decide (13 ≤ k) && decide (q < 4) && decide (n < 2 ^ 29) && decide (q = 3 → b + n ≤ 133)
    | none => decide (k < 13)
theorem zar_ok : ∀ k, k < 133 → zarC k = true := by decide +kernel
theorem zarT_len : zarT.length ≤ 133 := by decide +kernel
theorem zar_some {k q n b : Nat} (h : zar k = some (q, n, b)) : k < 133 ∧ 13 ≤ k ∧ q < 4 ∧ n < 2 ^ 29 ∧ (q = 3 → b + n ≤ 133) := by
  by_cases hk : k < 133
  · have := zar_ok k hk
    unfold zarC at this
    rw [h] at this
    simp only [Bool.and_eq_true, decide_eq_true_eq] at this
    exact ⟨hk, this.1.1.1, this.1.1.2, this.1.2, this.2⟩
  · exfalso
    unfold zar at h
    rw [List.getElem?_eq_none (Nat.le_trans zarT_len (Nat.not_lt.mp hk))] at h
    cases h
theorem ze_obj {ad : Nat → Nat} {cy : Nat → ClassId} {σ : zS} {k : Nat} (h : k < 13) : ze ad cy σ k = .inr (k, (List.range (zNf k)).map (zfv ad σ k)) := if_pos h
theorem ze_arr {ad : Nat → Nat} {cy : Nat → ClassId} {σ : zS} {k q n b : Nat} (h : zar k = some (q, n, b)) : ze ad cy σ k = .inl (cy q, zrow ad σ k q n b) := by
  unfold ze
  rw [if_neg (by have := zar_some h; omega), h]
theorem zrow_i {ad : Nat → Nat} {σ : zS} {a q n b : Nat} (h : q < 2) : zrow ad σ a q n b = (n, .inl (σ.2.1 a)) := by
  unfold zrow
  rw [if_neg (by omega), if_neg (by omega)]
theorem zrow_l {ad : Nat → Nat} {σ : zS} {a n b : Nat} : zrow ad σ a 2 n b = (n, .inr (.inl (σ.2.2 a))) := rfl
theorem zrow_q {ad : Nat → Nat} {σ : zS} {a n b : Nat} : zrow ad σ a 3 n b = (n, .inr (.inr (.inr (.inr (fun i => some (ad (b + i))))))) := rfl
/-- a field is written -/
theorem zw_put {ad : Nat → Nat} {cy : Nat → ClassId} {σ : zS} {c j : Nat} {v : Int32} (hc : c < 13) (hj : j < zNf c) (hf : zfk (64 * c + j) = none) :
    (zw ad cy σ).set c (ad c, .inr (c, ((List.range (zNf c)).map (zfv ad σ c)).set j (.int v))) = zw ad cy (zuf σ c j v) := by
  refine zw_set (by omega) ?_ ?_
  · rw [ze_obj hc]
    congr 2
    apply List.ext_getElem?
    intro i
    rw [List.getElem?_set, List.getElem?_map, List.getElem?_map]
    by_cases hi : j = i
    · subst hi
      rw [if_pos rfl, if_pos (by simpa using hj), List.getElem?_range hj]
      simp [zfv, hf, zuf]
    · rw [if_neg hi]
      by_cases h2 : i < zNf c
      · rw [List.getElem?_range h2]
        simp [zfv, zuf, Ne.symm hi]
      · rw [List.getElem?_eq_none (by simpa using Nat.not_lt.mp h2)]
        rfl
  · intro k hk
    by_cases h3 : k < 13
    · rw [ze_obj h3, ze_obj h3]
      congr 2
      apply List.map_congr_left
      intro i _
      unfold zfv
      cases zfk (64 * k + i) with
      | some _ => rfl
      | none => simp [zuf, hk]
    · unfold ze
      rw [if_neg h3, if_neg h3]
      cases zar k with
      | none => rfl
      | some e => rfl
/-- an int row is written -/
theorem zw_row {ad : Nat → Nat} {cy : Nat → ClassId} {σ : zS} {a q n b : Nat} {f : Nat → Int32} (h : zar a = some (q, n, b)) (hq : q < 2) :
    (zw ad cy σ).set a (ad a, .inl (cy q, n, .inl f)) = zw ad cy (zur σ a f) := by
  have h1 := zar_some h
  refine zw_set h1.1 ?_ ?_
  · rw [ze_arr h, zrow_i hq]
    simp [zur]
  · intro k hk
    unfold ze
    by_cases h3 : k < 13
    · rw [if_pos h3, if_pos h3]
      rfl
    · rw [if_neg h3, if_neg h3]
      cases zar k with
      | none => rfl
      | some e =>
        obtain ⟨q', n', b'⟩ := e
        simp only [zrow]
        simp [zur, hk]
theorem zw_rowl {ad : Nat → Nat} {cy : Nat → ClassId} {σ : zS} {a n b : Nat} {f : Nat → Int64} (h : zar a = some (2, n, b)) :
    (zw ad cy σ).set a (ad a, .inl (cy 2, n, .inr (.inl f))) = zw ad cy (zul σ a f) := by
  have h1 := zar_some h
  refine zw_set h1.1 ?_ ?_
  · rw [ze_arr h, zrow_l]
    simp [zul]
  · intro k hk
    unfold ze
    by_cases h3 : k < 13
    · rw [if_pos h3, if_pos h3]
      rfl
    · rw [if_neg h3, if_neg h3]
      cases zar k with
      | none => rfl
      | some e =>
        obtain ⟨q', n', b'⟩ := e
        simp only [zrow]
        simp [zul, hk]
/-! the locals -/
def zlr (ad : Nat → Nat) (ls : Array Slot) (n : Nat) (L : zL) : Prop := ls.size = n ∧ lv_wf ls ∧ L.length = n ∧ ∀ (i : Nat) (v : Value), zld L i = some v → ls[i]? = some (.val (ztr ad v))
def zla (ad : Nat → Nat) (L : zL) : List (Nat × Value) := (List.range L.length).filterMap (fun i => (zld L i).map (fun v => (i, ztr ad v)))
theorem zld_lt {L : zL} {i : Nat} {v : Value} (h : zld L i = some v) : i < L.length := by
  unfold zld at h
  by_cases hi : i < L.length
  · exact hi
  · rw [List.getElem?_eq_none (Nat.not_lt.mp hi)] at h
    cases h
theorem zla_mem {ad : Nat → Nat} {L : zL} {i : Nat} {v : Value} (h : zld L i = some v) : (i, ztr ad v) ∈ zla ad L := List.mem_filterMap.mpr ⟨i, List.mem_range.mpr (zld_lt h), by rw [h]; rfl⟩
theorem zla_of {ad : Nat → Nat} {L : zL} {q : Nat × Value} (h : q ∈ zla ad L) : ∃ v, zld L q.1 = some v ∧ q.2 = ztr ad v := by
  obtain ⟨i, -, hi⟩ := List.mem_filterMap.mp h
  cases hv : zld L i with
  | none => rw [hv] at hi; cases hi
  | some v =>
    rw [hv] at hi
    cases hi
    exact ⟨v, hv, rfl⟩
theorem zlr_has {ad : Nat → Nat} {ls : Array Slot} {n : Nat} {L : zL} (h : zlr ad ls n L) : lv_has ls n (zla ad L) := ⟨h.1, h.2.1, fun q hq => by
  obtain ⟨v, h1, h2⟩ := zla_of hq
  rw [h2]
  exact h.2.2.2 _ _ h1⟩
theorem zld_set {L : zL} {k i : Nat} {o : Option Value} (hk : k < L.length) : zld (L.set k o) i = if k = i then o else zld L i := by
  unfold zld
  rw [List.getElem?_set]
  by_cases h : k = i
  · subst h
    rw [if_pos rfl, if_pos hk, if_pos rfl]
    rfl
  · rw [if_neg h, if_neg h]
theorem zok_lt {L : zL} {k : Nat} (h : zok L k = true) : k < L.length := by
  unfold zok at h
  simp only [Bool.and_eq_true, decide_eq_true_eq] at h
  exact h.1
theorem zok_cat {L : zL} {k i : Nat} {v : Value} (h : zok L k = true) (hi : i + 1 = k) (hv : zld L i = some v) : ¬ v.category = 2 := by
  unfold zok at h
  simp only [Bool.and_eq_true, decide_eq_true_eq, Bool.not_eq_true'] at h
  have e : k - 1 = i := by omega
  rw [e, hv] at h
  intro hc
  cases v <;> simp [zlong?, Value.category] at h hc
theorem zlr_store1 {ad : Nat → Nat} {ls ls' : Array Slot} {n k : Nat} {L : zL} {v0 : Value} (h : zlr ad ls n L) (hk : zok L k = true)
    (h' : lv_has ls' n ((k, ztr ad v0) :: (zla ad L).filter (fun q => !(q.1 == k) && !(q.1 + 1 == k && q.2.category == 2)))) : zlr ad ls' n (L.set k (some v0)) := by
  refine ⟨h'.1, h'.2.1, by rw [List.length_set]; exact h.2.2.1, fun i v hv => ?_⟩
  rw [zld_set (zok_lt hk)] at hv
  by_cases hi : k = i
  · subst hi
    rw [if_pos rfl] at hv
    cases hv
    exact h'.2.2 _ List.mem_cons_self
  · rw [if_neg hi] at hv
    refine h'.2.2 (i, ztr ad v) (List.mem_cons_of_mem _ (List.mem_filter.mpr ⟨zla_mem hv, ?_⟩))
    have h1 : ¬ i = k := fun q => hi q.symm
    by_cases h2 : i + 1 = k
    · have := zok_cat hk h2 hv
      rw [← ztr_cat ad] at this
      simp [h1, h2, this]
    · simp [h1, h2]
theorem zlr_store2 {ad : Nat → Nat} {ls ls' : Array Slot} {n k : Nat} {L : zL} {v0 : Value} (h : zlr ad ls n L) (hk : zok L k = true) (hk1 : k + 1 < L.length)
    (h' : lv_has ls' n ((k, ztr ad v0) :: (zla ad L).filter (fun q => !(q.1 == k) && (!(q.1 == k + 1) && !(q.1 + 1 == k && q.2.category == 2))))) : zlr ad ls' n ((L.set k (some v0)).set (k + 1) none) := by
  refine ⟨h'.1, h'.2.1, by rw [List.length_set, List.length_set]; exact h.2.2.1, fun i v hv => ?_⟩
  rw [zld_set (by rw [List.length_set]; exact hk1)] at hv
  by_cases hi2 : k + 1 = i
  · rw [if_pos hi2] at hv
    cases hv
  rw [if_neg hi2, zld_set (zok_lt hk)] at hv
  by_cases hi : k = i
  · subst hi
    rw [if_pos rfl] at hv
    cases hv
    exact h'.2.2 _ List.mem_cons_self
  · rw [if_neg hi] at hv
    refine h'.2.2 (i, ztr ad v) (List.mem_cons_of_mem _ (List.mem_filter.mpr ⟨zla_mem hv, ?_⟩))
    have h1 : ¬ i = k := fun q => hi q.symm
    have h3 : ¬ i = k + 1 := fun q => hi2 q.symm
    by_cases h2 : i + 1 = k
    · have := zok_cat hk h2 hv
      rw [← ztr_cat ad] at this
      simp [h1, h2, h3, this]
    · simp [h1, h2, h3]
