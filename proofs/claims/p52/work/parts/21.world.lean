/-! THE WORLD of a pure state: the cells of the heap that it stands for -/
def ztr (ad : Nat → Nat) (v : Value) : Value := match v with
  | .ref k => .ref (ad k)
  | v => v
def zfv (ad : Nat → Nat) (σ : zS) (c j : Nat) : Value := match zfk (64 * c + j) with
  | some k => .ref (ad k)
  | none => .int (σ.1 c j)
def zrow (ad : Nat → Nat) (σ : zS) (a q n b : Nat) : vp_A := if q = 2 then (n, .inr (.inl (σ.2.2 a))) else if q = 3 then (n, .inr (.inr (.inr (.inr (fun i => if i < n then some (ad (b + i)) else none))))) else (n, .inl (σ.2.1 a))
def ze (ad : Nat → Nat) (cy : Nat → ClassId) (σ : zS) (k : Nat) : va_E := if k < 12 then .inr (k, (List.range (zNf k)).map (zfv ad σ k)) else match zar k with
  | some (q, n, b) => .inl (cy q, zrow ad σ k q n b)
  | none => .inr (0, [])
/-- places that stand: the objects, the class's rows, c rows of the law's -/
def zlv (c k : Nat) : Prop := k < 12 ∨ (13 ≤ k ∧ k < 93 + c)
def zun (i : Nat) : Nat := if i < 12 then i else i + 1
def zix (k : Nat) : Nat := if k < 12 then k else k - 1
def zw (c : Nat) (ad : Nat → Nat) (cy : Nat → ClassId) (σ : zS) : va_W := (List.range (92 + c)).map (fun i => (ad (zun i), ze ad cy σ (zun i)))
theorem zun_ix {c k : Nat} (h : zlv c k) : zix k < 92 + c ∧ zun (zix k) = k := by
  unfold zlv at h
  unfold zix zun
  by_cases hk : k < 12
  · rw [if_pos hk, if_pos hk]
    exact ⟨by omega, rfl⟩
  · rw [if_neg hk, if_neg (by omega)]
    exact ⟨by omega, by omega⟩
theorem zun_lv {c i : Nat} (h : i < 92 + c) : zlv c (zun i) ∧ zix (zun i) = i := by
  unfold zlv zix zun
  by_cases hk : i < 12
  · rw [if_pos hk, if_pos hk]
    exact ⟨Or.inl hk, rfl⟩
  · rw [if_neg hk, if_neg (by omega)]
    exact ⟨Or.inr ⟨by omega, by omega⟩, by omega⟩
def ztys (cy : Nat → ClassId) : List (ClassId × FieldType) := [(cy 0, .int), (cy 0, .int), (cy 2, .long), (cy 3, .array .int)]
theorem ztr_cat (ad : Nat → Nat) (v : Value) : (ztr ad v).category = v.category := by cases v <;> rfl
theorem zw_len {c : Nat} {ad : Nat → Nat} {cy : Nat → ClassId} {σ : zS} : (zw c ad cy σ).length = 92 + c := by simp [zw]
theorem zw_atu {c : Nat} {ad : Nat → Nat} {cy : Nat → ClassId} {σ : zS} {i : Nat} (h : i < 92 + c) : (zw c ad cy σ)[i]? = some (ad (zun i), ze ad cy σ (zun i)) := by
  unfold zw
  rw [List.getElem?_map, List.getElem?_range h]
  rfl
theorem zw_at {c : Nat} {ad : Nat → Nat} {cy : Nat → ClassId} {σ : zS} {k : Nat} (h : zlv c k) : (zw c ad cy σ)[zix k]? = some (ad k, ze ad cy σ k) := by
  obtain ⟨h1, h2⟩ := zun_ix h
  rw [zw_atu h1, h2]
theorem zw_set {c : Nat} {ad : Nat → Nat} {cy : Nat → ClassId} {σ σ' : zS} {k : Nat} {e : va_E} (h : zlv c k) (he : ze ad cy σ' k = e) (ho : ∀ j, j ≠ k → ze ad cy σ' j = ze ad cy σ j) : (zw c ad cy σ).set (zix k) (ad k, e) = zw c ad cy σ' := by
  obtain ⟨h1, h2⟩ := zun_ix h
  apply List.ext_getElem?
  intro j
  rw [List.getElem?_set]
  by_cases hj : zix k = j
  · subst hj
    rw [if_pos rfl, zw_at h, he]
    rw [if_pos (by rw [zw_len]; exact h1)]
  · rw [if_neg hj]
    by_cases hj2 : j < 92 + c
    · rw [zw_atu hj2, zw_atu hj2, ho (zun j) (fun q => hj (by rw [← q]; exact (zun_lv hj2).2))]
    · rw [List.getElem?_eq_none (by simp [zw]; omega), List.getElem?_eq_none (by simp [zw]; omega)]
theorem zlv_s {c k : Nat} (h : zlv c k) : zlv (c + 1) k := by
  unfold zlv at h ⊢
  omega
theorem zw_new {c : Nat} {ad : Nat → Nat} {cy : Nat → ClassId} {σ : zS} {q : Nat} {e : va_E} (hq : ad (93 + c) = q) (he : ze ad cy σ (93 + c) = e) : zw (c + 1) ad cy σ = zw c ad cy σ ++ [(q, e)] := by
  unfold zw
  rw [show 92 + (c + 1) = (92 + c) + 1 by omega, List.range_succ, List.map_append]
  have h : zun (92 + c) = 93 + c := by
    unfold zun
    rw [if_neg (by omega)]
    omega
  simp only [List.map_cons, List.map_nil, h, hq, he]
def zarC (k : Nat) : Bool := match zar k with
    | some (q, n, b) => decide (13 ≤ k) && decide (q < 4) && decide (n < 2 ^ 20) && decide (q = 3 → b + n ≤ 93) && decide (93 ≤ k → (q = 0 ∨ q = 2) ∧ n ≤ 40)
    | none => decide (k < 13)
theorem zar_ok : ∀ k, k < 113 → zarC k = true := by decide +kernel
theorem zarT_len : zarT.length ≤ 113 := by decide +kernel
theorem zar_some0 {k q n b : Nat} (h : zar k = some (q, n, b)) : k < 113 ∧ 13 ≤ k ∧ q < 4 ∧ n < 2 ^ 20 ∧ (q = 3 → b + n ≤ 93) ∧ (93 ≤ k → (q = 0 ∨ q = 2) ∧ n ≤ 40) := by
  by_cases hk : k < 113
  · have := zar_ok k hk
    unfold zarC at this
    rw [h] at this
    simp only [Bool.and_eq_true, decide_eq_true_eq] at this
    exact ⟨hk, this.1.1.1.1, this.1.1.1.2, this.1.1.2, this.1.2, this.2⟩
  · exfalso
    unfold zar at h
    rw [List.getElem?_eq_none (Nat.le_trans zarT_len (Nat.not_lt.mp hk))] at h
    cases h
theorem zarc_zar {c k : Nat} {x : Nat × Nat × Nat} (h : zarc c k = some x) : k < 93 + c ∧ zar k = some x := by
  unfold zarc at h
  by_cases hk : k < 93 + c
  · rw [if_pos hk] at h
    exact ⟨hk, h⟩
  · rw [if_neg hk] at h
    cases h
theorem zar_some {c k q n b : Nat} (h : zarc c k = some (q, n, b)) : zlv c k ∧ 13 ≤ k ∧ q < 4 ∧ n < 2 ^ 29 ∧ (q = 3 → b + n ≤ 93) := by
  obtain ⟨h1, h2⟩ := zarc_zar h
  obtain ⟨h3, h4, h5, h6, h7, -⟩ := zar_some0 h2
  exact ⟨Or.inr ⟨h4, h1⟩, h4, h5, Nat.lt_of_lt_of_le h6 (by decide), h7⟩
def zarN (k : Nat) : Bool := match zar k with
    | some (1, _, _) => false
    | _ => true
theorem zarN_ok : ∀ k, k < 113 → zarN k = true := by decide +kernel
theorem zarc_n1 {c k n b : Nat} (h : zarc c k = some (1, n, b)) : False := by
  obtain ⟨h1, h2⟩ := zarc_zar h
  have := zarN_ok k (zar_some0 h2).1
  unfold zarN at this
  rw [h2] at this
  cases this
theorem zarc_s {c k : Nat} {x : Nat × Nat × Nat} (h : zarc c k = some x) : zarc (c + 1) k = some x := by
  obtain ⟨h1, h2⟩ := zarc_zar h
  unfold zarc
  rw [if_pos (by omega)]
  exact h2
theorem ze_obj {ad : Nat → Nat} {cy : Nat → ClassId} {σ : zS} {k : Nat} (h : k < 12) : ze ad cy σ k = .inr (k, (List.range (zNf k)).map (zfv ad σ k)) := if_pos h
theorem ze_arr {c : Nat} {ad : Nat → Nat} {cy : Nat → ClassId} {σ : zS} {k q n b : Nat} (h : zarc c k = some (q, n, b)) : ze ad cy σ k = .inl (cy q, zrow ad σ k q n b) := by
  unfold ze
  rw [if_neg (by have := (zar_some h).2.1; omega), (zarc_zar h).2]
theorem zrow_i {ad : Nat → Nat} {σ : zS} {a q n b : Nat} (h : q < 2) : zrow ad σ a q n b = (n, .inl (σ.2.1 a)) := by
  unfold zrow
  rw [if_neg (by omega), if_neg (by omega)]
theorem zrow_l {ad : Nat → Nat} {σ : zS} {a n b : Nat} : zrow ad σ a 2 n b = (n, .inr (.inl (σ.2.2 a))) := rfl
theorem zrow_q {ad : Nat → Nat} {σ : zS} {a n b : Nat} : zrow ad σ a 3 n b = (n, .inr (.inr (.inr (.inr (fun i => if i < n then some (ad (b + i)) else none))))) := rfl
/-- a field is written -/
theorem zw_put {nc : Nat} {ad : Nat → Nat} {cy : Nat → ClassId} {σ : zS} {c j : Nat} {v : Int32} (hc : c < 12) (hj : j < zNf c) (hf : zfk (64 * c + j) = none) :
    (zw nc ad cy σ).set (zix c) (ad c, .inr (c, ((List.range (zNf c)).map (zfv ad σ c)).set j (.int v))) = zw nc ad cy (zuf σ c j v) := by
  refine zw_set (Or.inl hc) ?_ ?_
  · rw [ze_obj hc]
    congr 2
    apply List.ext_getElem?
    intro i
    rw [List.getElem?_set, List.getElem?_map, List.getElem?_map]
    by_cases hi : j = i
    · subst hi
      rw [if_pos rfl, if_pos (by simpa using hj), List.getElem?_range hj]
      simp [zfv, hf, zuf]
    · rw [if_neg hi]
      by_cases h2 : i < zNf c
      · rw [List.getElem?_range h2]
        simp [zfv, zuf, Ne.symm hi]
      · rw [List.getElem?_eq_none (by simpa using Nat.not_lt.mp h2)]
        rfl
  · intro k hk
    by_cases h3 : k < 12
    · rw [ze_obj h3, ze_obj h3]
      congr 2
      apply List.map_congr_left
      intro i _
      unfold zfv
      cases zfk (64 * k + i) with
      | some _ => rfl
      | none => simp [zuf, hk]
    · unfold ze
      rw [if_neg h3, if_neg h3]
      cases zar k with
      | none => rfl
      | some e => rfl
/-- an int row is written -/
theorem zw_row {c : Nat} {ad : Nat → Nat} {cy : Nat → ClassId} {σ : zS} {a q n b : Nat} {f : Nat → Int32} (h : zarc c a = some (q, n, b)) (hq : q < 2) :
    (zw c ad cy σ).set (zix a) (ad a, .inl (cy q, n, .inl f)) = zw c ad cy (zur σ a f) := by
  have h1 := zar_some h
  refine zw_set h1.1 ?_ ?_
  · rw [ze_arr h, zrow_i hq]
    simp [zur]
  · intro k hk
    unfold ze
    by_cases h3 : k < 12
    · rw [if_pos h3, if_pos h3]
      rfl
    · rw [if_neg h3, if_neg h3]
      cases zar k with
      | none => rfl
      | some e =>
        obtain ⟨q', n', b'⟩ := e
        simp only [zrow]
        simp [zur, hk]
theorem zw_rowl {c : Nat} {ad : Nat → Nat} {cy : Nat → ClassId} {σ : zS} {a n b : Nat} {f : Nat → Int64} (h : zarc c a = some (2, n, b)) :
    (zw c ad cy σ).set (zix a) (ad a, .inl (cy 2, n, .inr (.inl f))) = zw c ad cy (zul σ a f) := by
  have h1 := zar_some h
  refine zw_set h1.1 ?_ ?_
  · rw [ze_arr h, zrow_l]
    simp [zul]
  · intro k hk
    unfold ze
    by_cases h3 : k < 12
    · rw [if_pos h3, if_pos h3]
      rfl
    · rw [if_neg h3, if_neg h3]
      cases zar k with
      | none => rfl
      | some e =>
        obtain ⟨q', n', b'⟩ := e
        simp only [zrow]
        simp [zul, hk]
/-! the locals -/
def zlr (ad : Nat → Nat) (ls : Array Slot) (n : Nat) (L : zL) : Prop := ls.size = n ∧ lv_wf ls ∧ L.length = n ∧ ∀ (i : Nat) (v : Value), zld L i = some v → ls[i]? = some (.val (ztr ad v))
def zla (ad : Nat → Nat) (L : zL) : List (Nat × Value) := (List.range L.length).filterMap (fun i => (zld L i).map (fun v => (i, ztr ad v)))
theorem zld_lt {L : zL} {i : Nat} {v : Value} (h : zld L i = some v) : i < L.length := by
  unfold zld at h
  by_cases hi : i < L.length
  · exact hi
  · rw [List.getElem?_eq_none (Nat.not_lt.mp hi)] at h
    cases h
theorem zla_mem {ad : Nat → Nat} {L : zL} {i : Nat} {v : Value} (h : zld L i = some v) : (i, ztr ad v) ∈ zla ad L := List.mem_filterMap.mpr ⟨i, List.mem_range.mpr (zld_lt h), by rw [h]; rfl⟩
theorem zla_of {ad : Nat → Nat} {L : zL} {q : Nat × Value} (h : q ∈ zla ad L) : ∃ v, zld L q.1 = some v ∧ q.2 = ztr ad v := by
  obtain ⟨i, -, hi⟩ := List.mem_filterMap.mp h
  cases hv : zld L i with
  | none => rw [hv] at hi; cases hi
  | some v =>
    rw [hv] at hi
    cases hi
    exact ⟨v, hv, rfl⟩
theorem zlr_has {ad : Nat → Nat} {ls : Array Slot} {n : Nat} {L : zL} (h : zlr ad ls n L) : lv_has ls n (zla ad L) := ⟨h.1, h.2.1, fun q hq => by
  obtain ⟨v, h1, h2⟩ := zla_of hq
  rw [h2]
  exact h.2.2.2 _ _ h1⟩
theorem zld_set {L : zL} {k i : Nat} {o : Option Value} (hk : k < L.length) : zld (L.set k o) i = if k = i then o else zld L i := by
  unfold zld
  rw [List.getElem?_set]
  by_cases h : k = i
  · subst h
    rw [if_pos rfl, if_pos hk, if_pos rfl]
    rfl
  · rw [if_neg h, if_neg h]
theorem zok_lt {L : zL} {k : Nat} (h : zok L k = true) : k < L.length := by
  unfold zok at h
  simp only [Bool.and_eq_true, decide_eq_true_eq] at h
  exact h.1
theorem zok_cat {L : zL} {k i : Nat} {v : Value} (h : zok L k = true) (hi : i + 1 = k) (hv : zld L i = some v) : ¬ v.category = 2 := by
  unfold zok at h
  simp only [Bool.and_eq_true, decide_eq_true_eq, Bool.not_eq_true'] at h
  have e : k - 1 = i := by omega
  rw [e, hv] at h
  intro hc
  cases v <;> simp [zlong?, Value.category] at h hc
theorem zlr_store1 {ad : Nat → Nat} {ls ls' : Array Slot} {n k : Nat} {L : zL} {v0 : Value} (h : zlr ad ls n L) (hk : zok L k = true)
    (h' : lv_has ls' n ((k, ztr ad v0) :: (zla ad L).filter (fun q => !(q.1 == k) && !(q.1 + 1 == k && q.2.category == 2)))) : zlr ad ls' n (L.set k (some v0)) := by
  refine ⟨h'.1, h'.2.1, by rw [List.length_set]; exact h.2.2.1, fun i v hv => ?_⟩
  rw [zld_set (zok_lt hk)] at hv
  by_cases hi : k = i
  · subst hi
    rw [if_pos rfl] at hv
    cases hv
    exact h'.2.2 _ List.mem_cons_self
  · rw [if_neg hi] at hv
    refine h'.2.2 (i, ztr ad v) (List.mem_cons_of_mem _ (List.mem_filter.mpr ⟨zla_mem hv, ?_⟩))
    have h1 : ¬ i = k := fun q => hi q.symm
    by_cases h2 : i + 1 = k
    · have := zok_cat hk h2 hv
      rw [← ztr_cat ad] at this
      simp [h1, h2, this]
    · simp [h1, h2]
theorem zlr_store2 {ad : Nat → Nat} {ls ls' : Array Slot} {n k : Nat} {L : zL} {v0 : Value} (h : zlr ad ls n L) (hk : zok L k = true) (hk1 : k + 1 < L.length)
    (h' : lv_has ls' n ((k, ztr ad v0) :: (zla ad L).filter (fun q => !(q.1 == k) && (!(q.1 == k + 1) && !(q.1 + 1 == k && q.2.category == 2))))) : zlr ad ls' n ((L.set k (some v0)).set (k + 1) none) := by
  refine ⟨h'.1, h'.2.1, by rw [List.length_set, List.length_set]; exact h.2.2.1, fun i v hv => ?_⟩
  rw [zld_set (by rw [List.length_set]; exact hk1)] at hv
  by_cases hi2 : k + 1 = i
  · rw [if_pos hi2] at hv
    cases hv
  rw [if_neg hi2, zld_set (zok_lt hk)] at hv
  by_cases hi : k = i
  · subst hi
    rw [if_pos rfl] at hv
    cases hv
    exact h'.2.2 _ List.mem_cons_self
  · rw [if_neg hi] at hv
    refine h'.2.2 (i, ztr ad v) (List.mem_cons_of_mem _ (List.mem_filter.mpr ⟨zla_mem hv, ?_⟩))
    have h1 : ¬ i = k := fun q => hi q.symm
    have h3 : ¬ i = k + 1 := fun q => hi2 q.symm
    by_cases h2 : i + 1 = k
    · have := zok_cat hk h2 hv
      rw [← ztr_cat ad] at this
      simp [h1, h2, h3, this]
    · simp [h1, h2, h3]
/-! a new row: the place's address is another one now -/
def zad (ad : Nat → Nat) (p q : Nat) : Nat → Nat := fun k => if k = p then q else ad k
theorem zad_p {ad : Nat → Nat} {p q : Nat} : zad ad p q p = q := if_pos rfl
theorem zad_n {ad : Nat → Nat} {p q k : Nat} (h : ¬ k = p) : zad ad p q k = ad k := if_neg h
theorem zfg_e {p : Nat} {o : Option Value} {v : Value} (h : zfg p o = some v) : o = some v ∧ ∀ ad q, ztr (zad ad p q) v = ztr ad v := by
  cases o with
  | none => cases h
  | some w =>
    cases w with
    | ref k =>
      unfold zfg at h
      by_cases hk : k = p
      · simp [hk] at h
      · simp [hk] at h
        subst h
        refine ⟨rfl, fun ad q => ?_⟩
        show Value.ref (zad ad p q k) = Value.ref (ad k)
        rw [zad_n hk]
    | _ =>
      simp [zfg] at h
      subst h
      exact ⟨rfl, fun ad q => rfl⟩
theorem zld_fg {L : zL} {p i : Nat} : zld (L.map (zfg p)) i = zfg p (zld L i) := by
  unfold zld
  rw [List.getElem?_map]
  cases L[i]? with
  | none => rfl
  | some o => rfl
theorem zlr_new {ad : Nat → Nat} {ls : Array Slot} {n p q : Nat} {L : zL} (h : zlr ad ls n L) : zlr (zad ad p q) ls n (L.map (zfg p)) := by
  refine ⟨h.1, h.2.1, by rw [List.length_map]; exact h.2.2.1, fun i v hv => ?_⟩
  rw [zld_fg] at hv
  obtain ⟨h1, h2⟩ := zfg_e hv
  rw [h2]
  exact h.2.2.2 i v h1
theorem zfk_lt : ∀ k, k < 12 → ∀ i, i < zNf k → (match zfk (64 * k + i) with
    | some j => decide (j < 93)
    | none => true) = true := by decide +kernel
theorem ze_new {c : Nat} {ad : Nat → Nat} {cy : Nat → ClassId} {σ σ' : zS} {k q : Nat} (hk : zlv c k) (h1 : σ'.1 = σ.1) (h2 : ∀ a, a < 93 + c → σ'.2.1 a = σ.2.1 a) (h3 : ∀ a, a < 93 + c → σ'.2.2 a = σ.2.2 a) : ze (zad ad (93 + c) q) cy σ' k = ze ad cy σ k := by
  by_cases h : k < 12
  · rw [ze_obj h, ze_obj h]
    congr 2
    apply List.map_congr_left
    intro i hi
    have hi' := zfk_lt k h i (List.mem_range.mp hi)
    unfold zfv
    cases hz : zfk (64 * k + i) with
    | some j =>
      rw [hz] at hi'
      have hj : j < 93 := by simpa using hi'
      show Value.ref (zad ad (93 + c) q j) = Value.ref (ad j)
      rw [zad_n (by omega)]
    | none =>
      show Value.int (σ'.1 k i) = Value.int (σ.1 k i)
      rw [h1]
  · unfold zlv at hk
    have hk2 : k < 93 + c := by omega
    unfold ze
    rw [if_neg h, if_neg h]
    cases hz : zar k with
    | none => rfl
    | some e =>
      obtain ⟨q', n', b'⟩ := e
      have hb := (zar_some0 hz).2.2.2.2.1
      simp only [zrow, h2 k hk2, h3 k hk2]
      by_cases h0 : q' = 2
      · simp [h0]
      · by_cases h4 : q' = 3
        · have hb' := hb h4
          simp only [h4]
          have : (fun i => if i < n' then some (zad ad (93 + c) q (b' + i)) else none) = (fun i => if i < n' then some (ad (b' + i)) else none) := funext fun i => by
            by_cases hi : i < n'
            · rw [if_pos hi, if_pos hi, zad_n (by omega)]
            · rw [if_neg hi, if_neg hi]
          rw [this]
        · simp [h0, h4]
theorem zw_mv {c : Nat} {ad : Nat → Nat} {cy : Nat → ClassId} {σ σ' : zS} {q : Nat} (h1 : σ'.1 = σ.1) (h2 : ∀ a, a < 93 + c → σ'.2.1 a = σ.2.1 a) (h3 : ∀ a, a < 93 + c → σ'.2.2 a = σ.2.2 a) : zw c (zad ad (93 + c) q) cy σ' = zw c ad cy σ := by
  unfold zw
  apply List.map_congr_left
  intro i hi
  obtain ⟨hl, -⟩ := zun_lv (c := c) (List.mem_range.mp hi)
  rw [ze_new hl h1 h2 h3, zad_n (by unfold zlv at hl; omega)]
