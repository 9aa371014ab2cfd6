/-! rows of rows: multianewarray with two lengths, walked by the machine's own words -/
/-- the outer row when i inner ones are made: the cells behind it, one by one -/
def mwO (cA : ClassId) (N h i : Nat) : Cell := arrV cA N (fun j => if j < i then .ref (h + 1 + j) else .null)
def mwI (cI : ClassId) (M : Nat) : Cell := arrV cI M (fun _ => .int 0)
theorem mwO_s {cA : ClassId} {N h i : Nat} : (mwO cA N h i).setSlot i (.ref (h + 1 + i)) = mwO cA N h (i + 1) := by
  unfold mwO
  rw [arrV_store]
  congr 1
  funext j
  unfold updV
  by_cases e : j = i
  · rw [if_pos e, if_pos (by omega), e]
  · rw [if_neg e]
    show (if j < i then Value.ref (h + 1 + j) else Value.null) = _
    by_cases q : j < i
    · rw [if_pos q, if_pos (show j < i + 1 by omega)]
    · rw [if_neg q, if_neg (show ¬ j < i + 1 by omega)]
def mwS (T : State) (cA cI : ClassId) (N M : Nat) : Nat → State
  | 0 => T.pushCell (mwO cA N T.heap.size 0)
  | i + 1 => ((mwS T cA cI N M i).pushCell (mwI cI M)).setCell T.heap.size ((mwO cA N T.heap.size i).setSlot i (.ref (T.heap.size + 1 + i)))
section MS
variable {T : State} {cA cI : ClassId} {N M : Nat}
theorem mwS_f : ∀ i, (mwS T cA cI N M i).heap.size = T.heap.size + 1 + i ∧ (mwS T cA cI N M i).heap[T.heap.size]? = some (mwO cA N T.heap.size i) ∧ (mwS T cA cI N M i).vm = T.vm ∧ (mwS T cA cI N M i).slotsUsed = T.slotsUsed + N + i * M
  | 0 => ⟨by simp [mwS], by simp [mwS], rfl, by simp [mwS, mwO, arrV_size]⟩
  | i + 1 => by
    obtain ⟨a, b, c, d⟩ := mwS_f i
    have hlt : T.heap.size < (mwS T cA cI N M i).heap.size := by omega
    have hb : ((mwS T cA cI N M i).pushCell (mwI cI M)).heap[T.heap.size]? = some (mwO cA N T.heap.size i) := by
      rw [State.heap_pushCell_of_lt (h := hlt)]
      exact b
    refine ⟨?_, ?_, by simp [mwS, c], ?_⟩
    · simp [mwS, State.setCell, a]
      omega
    · rw [← mwO_s]
      exact State.heap_setCell_self hb
    · simp [mwS, d, mwI, arrV_size, Nat.succ_mul]
      omega
theorem mwS_old {a : Nat} (ha : a < T.heap.size) : ∀ i, (mwS T cA cI N M i).heap[a]? = T.heap[a]?
  | 0 => State.heap_pushCell_of_lt _ _ ha
  | i + 1 => by
    have f := (mwS_f (T := T) (cA := cA) (cI := cI) (N := N) (M := M) i).1
    show (((mwS T cA cI N M i).pushCell (mwI cI M)).setCell T.heap.size _).heap[a]? = _
    have hlt : a < (mwS T cA cI N M i).heap.size := by omega
    rw [State.heap_setCell_other (Nat.ne_of_gt ha), State.heap_pushCell_of_lt (h := hlt)]
    exact mwS_old ha i
theorem mwS_in {j : Nat} : ∀ i, j < i → (mwS T cA cI N M i).heap[T.heap.size + 1 + j]? = some (mwI cI M)
  | 0, h => absurd h (Nat.not_lt_zero _)
  | i + 1, h => by
    have f := (mwS_f (T := T) (cA := cA) (cI := cI) (N := N) (M := M) i).1
    show (((mwS T cA cI N M i).pushCell (mwI cI M)).setCell T.heap.size _).heap[T.heap.size + 1 + j]? = _
    rw [State.heap_setCell_other (show T.heap.size ≠ T.heap.size + 1 + j by omega)]
    by_cases q : j = i
    · rw [q, ← f]
      exact State.heap_pushCell_size _ _
    · have hlt : T.heap.size + 1 + j < (mwS T cA cI N M i).heap.size := by omega
      rw [State.heap_pushCell_of_lt (h := hlt)]
      exact mwS_in i (by omega)
theorem mwS_top (g : JFrame) : ∀ i, mwS (T.setTop g) cA cI N M i = (mwS T cA cI N M i).setTop g
  | 0 => rfl
  | i + 1 => by simp only [mwS, mwS_top g i, State.heap_setTop, State.pushCell_setTop, State.setCell_setTop]
end MS
section MWP
variable {E : CtlPost} {e : Env} {d : Bool} {acts : List Action} {s : State}
theorem mw_one {cI cc : ClassId} {kI : Class} {k : Int32} {M : Nat} (hkI : s.vm.classes[cI]? = some kI) (hkindI : kI.kind = .array cc .int) (hk : ¬ k < 0) (hM : k.toNatClampNeg = M)
    (hl : ¬ M > e.platform.arrayLengthLimit) (hh : ¬ M * componentBytes .int > e.platform.maxHeapBytes) (h1 : s.heap.size < e.platform.maxCells) (h2 : s.slotsUsed + M ≤ e.platform.maxSlots)
    {Q : Addr → Pre} (hq : ∀ acts', Q s.heap.size d acts' (s.pushCell (mwI cI M))) : wp (multianewarray.make cI [k]) Q E e d acts s := by
  subst hM
  rw [multianewarray.make]
  simp only [wp_bind', W.ite, hk, if_false, wp_pure', W.theClass, hkI, hkindI, Option.some.injEq, exists_eq_left']
  refine W.newArray_of hkI hkindI hl hh h1 h2 rfl (fun acts' => ?_)
  have e1 : ({ cls := cI, slots := Array.replicate k.toNatClampNeg (defaultValue .int) } : Cell) = mwI cI k.toNatClampNeg := arrV_new cI k.toNatClampNeg (.int 0)
  rw [e1]
  exact hq acts'
theorem mw_two {cA cI cc : ClassId} {kA kI : Class} {n k : Int32} {N M : Nat} (hkA : s.vm.classes[cA]? = some kA) (hkindA : kA.kind = .array cI (.array .int)) (hkI : s.vm.classes[cI]? = some kI) (hkindI : kI.kind = .array cc .int) (hn : ¬ n < 0) (hk : ¬ k < 0) (hN : n.toNatClampNeg = N) (hM : k.toNatClampNeg = M)
    (hl : ¬ M > e.platform.arrayLengthLimit) (hh : ¬ M * componentBytes .int > e.platform.maxHeapBytes) (hl0 : ¬ N > e.platform.arrayLengthLimit) (hh0 : ¬ N * componentBytes (.array .int) > e.platform.maxHeapBytes)
    (h1 : s.heap.size + 1 + N ≤ e.platform.maxCells) (h2 : s.slotsUsed + N + N * M ≤ e.platform.maxSlots)
    {Q : Addr → Pre} (hq : ∀ d' acts', Q s.heap.size d' acts' (mwS s cA cI N M N)) : wp (multianewarray.make cA [n, k]) Q E e d acts s := by
  subst hN
  have hf : ([k].find? (· < 0)) = none := by simp [hk]
  rw [multianewarray.make]
  simp only [wp_bind', W.ite, hn, if_false, wp_pure', W.theClass, hkA, hkindA, Option.some.injEq, exists_eq_left']
  refine W.newArray_of hkA hkindA hl0 hh0 (by omega) (by omega) rfl (fun acts' => ?_)
  have e1 : ({ cls := cA, slots := Array.replicate n.toNatClampNeg .null } : Cell) = mwO cA n.toNatClampNeg s.heap.size 0 := by
    have a := arrV_new cA n.toNatClampNeg .null
    unfold mwO
    simp only [Nat.not_lt_zero, if_false]
    exact a
  rw [e1]
  simp only [hf]
  rw [ite_self, wp_bind', Std.Legacy.Range.forIn_eq_forIn_range']
  have hz : ([:n.toNatClampNeg] : Std.Legacy.Range).size = n.toNatClampNeg := by simp [Std.Legacy.Range.size]
  rw [hz]
  show wp (forIn (List.range' 0 n.toNatClampNeg 1) PUnit.unit _) _ E e d _ _
  generalize hNN : n.toNatClampNeg = N at *
  refine wp_forIn_inv (fun r s' => ∃ i, i + r.length = N ∧ r = List.range' i r.length ∧ s' = mwS s cA cI N M i) _ _ ⟨0, by simp, by simp, rfl⟩ ?_ ?_
  · rintro x r s' d' a' Q' ⟨i, hi, hr, rfl⟩ nx
    have hr2 : x :: r = i :: List.range' (i + 1) r.length := by
      rw [List.length_cons, List.range'_succ] at hr
      exact hr
    obtain ⟨rfl, hr3⟩ := List.cons.inj hr2
    rw [List.length_cons] at hi
    obtain ⟨f1, f2, f3, f4⟩ := mwS_f (T := s) (cA := cA) (cI := cI) (N := N) (M := M) x
    have hmul : x * M + M ≤ N * M := by
      have := Nat.mul_le_mul_right M (show x + 1 ≤ N by omega)
      rw [Nat.succ_mul] at this
      exact this
    simp only [wp_bind']
    refine mw_one (by rw [f3]; exact hkI) hkindI hk hM hl hh (by omega) (by omega) (fun a'' => ?_)
    have hlt : s.heap.size < (mwS s cA cI N M x).heap.size := by omega
    have hb : ((mwS s cA cI N M x).pushCell (mwI cI M)).heap[s.heap.size]? = some (mwO cA N s.heap.size x) := by
      rw [State.heap_pushCell_of_lt (h := hlt)]
      exact f2
    simp only [wp_bind', W.writeLoc, wp_pure']
    refine ⟨mwO cA N s.heap.size x, hb, by simp [mwO, arrV], by rw [show (mwO cA N s.heap.size x).slots.size = N from arrV_size _ _ _]; omega, ?_, nx _ _ _ ⟨x + 1, by omega, hr3, ?_⟩⟩
    · simp [mwO, arrV, State.fitsSlot, State.slotType?, f3, hkA, hkindA, fits]
    · rw [f1]
      rfl
  · rintro s' d' a' ⟨i, hi, -, rfl⟩
    have e2 : i = N := by simpa using hi
    rw [e2]
    simp only [wp_pure']
    exact hq _ _
end MWP
