/-! rows of rows: multianewarray with two lengths as a row of the walk -/
theorem mw_over {args : Array Value} {first s : State} {o : Option Outcome} {idx : List Nat} {t : FieldType} (h : (Cond.arrayOver (.array t)).holds args first o s idx = true) :
    ∃ comp c k, s.vm.findClass (FieldType.array t).toString = some comp ∧ s.vm.classes[c]? = some k ∧ k.kind = .array comp (.array t) ∧ s.vm.findClass ("[" ++ (FieldType.array t).toString) = some c := by
  simp only [Cond.holds, Cond.value, beq_iff_eq] at h
  cases hc : s.vm.findClass (FieldType.array t).toString with
  | none => simp [hc] at h
  | some comp =>
    simp only [hc, Option.bind_some, Option.bind_eq_some_iff, Option.map_eq_some_iff] at h
    obtain ⟨c, hi, k, hk, hb⟩ := h
    obtain ⟨hlt, hp, -⟩ := Array.findIdx?_eq_some_iff_getElem.mp hi
    have hkk : s.vm.classes[c] = k := (Array.getElem?_eq_some_iff.mp hk).2
    rw [hkk] at hp
    cases hkind : k.kind with
    | array component ty =>
      rw [hkind] at hb hp
      simp at hb hp
      exact ⟨comp, c, k, rfl, hk, by rw [hkind, hp, hb.1], hb.2⟩
    | _ => rw [hkind] at hb; simp at hb
theorem mwS_topJ {T : State} {cA cI : ClassId} {N M : Nat} : ∀ i, (mwS T cA cI N M i).topJava? = T.topJava?
  | 0 => rfl
  | i + 1 => mwS_topJ i
theorem mw_sem {E : CtlPost} {e : Env} {d : Bool} {acts : List Action} {s : State} {f : JFrame} {index : Nat} {vm' : Vm} {cA cI cc : ClassId} {kA kI : Class} {n k : Int32} {N M : Nat} {rest : List Value} {Q : Unit → Pre} (hs : s.topJava?.isSome) (hg : (Jvm.resolveClass f.method.cls index).Gives e.toSetting s.vm (.ok cA) vm') (hsz : vm'.classes.size ≤ s.vm.classes.size) (hstack : f.stack = .int k :: .int n :: rest)
    (hkA : vm'.classes[cA]? = some kA) (hkindA : kA.kind = .array cI (.array .int)) (hkI : vm'.classes[cI]? = some kI) (hkindI : kI.kind = .array cc .int) (hn : ¬ n < 0) (hk : ¬ k < 0) (hN : n.toNatClampNeg = N) (hM : k.toNatClampNeg = M)
    (hl : ¬ M > e.platform.arrayLengthLimit) (hh : ¬ M * componentBytes .int > e.platform.maxHeapBytes) (hl0 : ¬ N > e.platform.arrayLengthLimit) (hh0 : ¬ N * componentBytes (.array .int) > e.platform.maxHeapBytes)
    (h1 : s.heap.size + 1 + N ≤ e.platform.maxCells) (h2 : s.slotsUsed + N + N * M ≤ e.platform.maxSlots)
    (hq : ∀ d' acts', Q () d' acts' ((mwS (s.setVm vm') cA cI N M N).setTop { f with stack := .ref s.heap.size :: rest })) : wp (Op.multianewarray.sem index 2) Q E e d acts (s.setTop f) := by
  have hs' : (s.setVm vm').topJava?.isSome := hs
  rw [Op.multianewarray.sem, wp_bind', W.resolveClassAt_links (State.method?_setTop f hs) hg hsz, wp_bind']
  show wp (Jvm.popN [Value.int n, Value.int k].length) _ _ _ _ _ ((s.setVm vm').setTop f)
  rw [Op.popN_top hs' (args := [Value.int n, Value.int k]) (rest := rest) hstack]
  simp only [List.mapM_cons, List.mapM_nil, wp_bind', wp_pure', pure_bind]
  refine mw_two (s := (s.setVm vm').setTop { f with stack := rest }) (kA := kA) (kI := kI) (cc := cc) hkA hkindA hkI hkindI hn hk hN hM hl hh hl0 hh0 h1 h2 (fun d' acts' => ?_)
  simp only [W.mark, W.pushRef, mwS_top]
  refine ⟨_, State.topJava?_setTop' _ (by rw [mwS_topJ]; exact hs'), ?_⟩
  rw [State.setTop_setTop]
  exact hq _ _
section MST
variable {p : Program} {l : Launch} {e : Env} {R : Room} {s : State} {m : MethodId} {args : Array Value} {below : List Frame} {meth : Method} {c : Code} {T : State} {locs : List Loc} {cells slots : Nat}
theorem mw_stand (X : Stand p l e R s m args below meth c T locs cells slots) (hf : s.heap.size ≤ T.heap.size) {cA cI : ClassId} {N M : Nat} : ∀ i, Stand p l e R s m args below meth c (mwS T cA cI N M i) locs (cells + 1 + i) (slots + N + i * M)
  | 0 => by
    have h := X.pushed (mwO cA N T.heap.size 0)
    have hz : (mwO cA N T.heap.size 0).slots.size = N := arrV_size _ _ _
    rw [hz] at h
    rw [Nat.zero_mul]
    exact h
  | i + 1 => by
    have h := (mw_stand X hf (cA := cA) (cI := cI) (N := N) (M := M) i).pushed (mwI cI M)
    have hz : (mwI cI M).slots.size = M := arrV_size _ _ _
    rw [hz] at h
    have f := mwS_f (T := T) (cA := cA) (cI := cI) (N := N) (M := M) i
    have hlt : T.heap.size < (mwS T cA cI N M i).heap.size := by omega
    have hb : ((mwS T cA cI N M i).pushCell (mwI cI M)).heap[T.heap.size]? = some (mwO cA N T.heap.size i) := by
      rw [State.heap_pushCell_of_lt (h := hlt)]
      exact f.2.1
    have h2 := Stand.forget (h.stored hb i (.ref (T.heap.size + 1 + i))) (fun y hy => by
      rw [List.mem_singleton.mp hy]
      exact hf)
    rw [Nat.succ_mul, ← Nat.add_assoc, ← Nat.add_assoc]
    exact h2
def mwC (cA cI : ClassId) (U : State) : Prop := ∃ k : Class, U.vm.classes[cA]? = some k ∧ k.kind = .array cI (.array .int)
theorem mwC.moved {cA cI : ClassId} {u U : State} (hvm : u.vm.Alike U.vm) (h : mwC cA cI u) : mwC cA cI U := by
  obtain ⟨k, h1, h2⟩ := h
  obtain ⟨k', hk', he⟩ := hvm.2.2 _ _ h1
  exact ⟨k', hk', by rw [he]; exact h2⟩
theorem mw_row (X : Stand p l e R s m args below meth c T locs cells slots) (hf : s.heap.size ≤ T.heap.size) (hexec : p.tables.exec = Jvm.exec) {own : String} {index : Nat} (hown : s.vm.findClass own = some m.cls) (hclink : (Cond.classLink own index "[[I").before args s = true) {cA cI : ClassId} (hfA : s.vm.findClass "[[I" = some cA) (hC : mwC cA cI s) (hI : ArrOfT s cI .int)
    {g : JFrame} (hgm : g.method = m) (hdg : decode c.code g.pc = .ok (.multianewarray index 2, 4)) {n k : Int32} {rest : List Value} (hstack : g.stack = .int k :: .int n :: rest) (hn : ¬ n < 0) (hk : ¬ k < 0) {N M : Nat} (hN : n.toNatClampNeg = N) (hM : k.toNatClampNeg = M)
    (hb1 : N * 4 ≤ 536870912) (hb2 : M * 4 ≤ 536870912) (hcells : cells + (1 + N) ≤ R.cells) (hslots : slots + (N + N * M) ≤ R.slots) :
    ∃ (vm₁ : Vm), Stand p l e R s m args below meth c (mwS (T.setVm vm₁) cA cI N M N) locs (cells + 1 + N) (slots + N + N * M) ∧
      ∀ target, Steps p.tables e below ((mwS (T.setVm vm₁) cA cI N M N).setTop { g with pc := g.pc + 4, stack := .ref T.heap.size :: rest }) target → Steps p.tables e below (T.setTop g) target := by
  subst hgm
  have hpl : e.platform.magicAccessors = ({} : Platform).magicAccessors := by rw [X.admits.platform]
  obtain ⟨kA, hkA, hkindA⟩ := hC
  obtain ⟨-, kI, hkI, ccI, hkindI⟩ := hI 0 (fun _ => .int 0)
  obtain ⟨cc, hfcc, hcl⟩ := Cond.classLink_spec hown hclink e.platform hpl
  cases hfA.symm.trans hfcc
  obtain ⟨hg₁, hwarm₁, hready₁⟩ := State.classEntry (e := e) X.warmed hcl
  have hszn : (T.vm.noted g.method.cls index (.cls cA)).classes.size ≤ T.vm.classes.size := Nat.le_of_eq (Vm.size_noted _ _ _ _)
  generalize T.vm.noted g.method.cls index (.cls cA) = vm₁ at hg₁ hwarm₁ hready₁ hszn
  have hal : s.vm.Alike vm₁ := hwarm₁.alike
  obtain ⟨kA₁, hkA₁, heA⟩ := hal.2.2 _ _ hkA
  obtain ⟨kI₁, hkI₁, heI⟩ := hal.2.2 _ _ hkI
  have hkindA₁ : kA₁.kind = .array cI (.array .int) := by rw [heA]; exact hkindA
  have hkindI₁ : kI₁.kind = .array ccI .int := by rw [heI]; exact hkindI
  obtain ⟨hr1, hr2⟩ := X.roomAbove hcells hslots
  have X2 : Stand p l e R s g.method args below meth c (mwS (T.setVm vm₁) cA cI N M N) locs (cells + 1 + N) (slots + N + N * M) := mw_stand (X.noted hwarm₁) hf N
  refine ⟨vm₁, X2, fun target hrest => ?_⟩
  refine Steps.instr (c := c) X.here ?_
  rw [hdg]
  show wpRun (p.tables.exec (.multianewarray index 2)) _ _ _ _
  rw [hexec]
  show wp (Op.multianewarray.sem index 2) _ _ e false [] (T.setTop g)
  refine mw_sem (cA := cA) (cI := cI) (N := N) (M := M) X.here.top hg₁ hszn hstack hkA₁ hkindA₁ hkI₁ hkindI₁ hn hk hN hM ?_ ?_ ?_ ?_ (by omega) (by omega) ?_
  · rw [Launch.admits_arrayLengthLimit X.admits]; omega
  · rw [Launch.admits_maxHeapBytes X.admits]; show ¬ M * 4 > 536870912; omega
  · rw [Launch.admits_arrayLengthLimit X.admits]; omega
  · rw [Launch.admits_maxHeapBytes X.admits]; show ¬ N * 4 > 536870912; omega
  · intro d' acts' acts2
    rw [afterInstr_ok]
    exact hrest
end MST
/-! arrays among a world's words, their classes known before -/
section MVA
variable {p : Program} {l : Launch} {e : Env} {R : Room} {s : State} {m : MethodId} {args : Array Value} {below : List Frame} {meth : Method} {c : Code} {H : Heap} {locs : List Loc} {cells slots : Nat} {Q : State → Prop}
variable {cc : ByteArray} {pc : Nat} {ls : Array Slot} {rest : List Value} {D : va_G} {cl : List vw_C} {A : Nat → Prop} {a : Nat} {tys : List (ClassId × FieldType)} {ws : va_W}
def mwN (ty : FieldType) : Prop := ∀ (U : State) (cA : ClassId), va_RA U cA ty → U.vm.findClass ("[" ++ ty.toString) = some cA
theorem nw_a (hexec : p.tables.exec = Jvm.exec) (hb : c.code = cc) {atype : ArrayType} (harr : (Cond.arrayClass (newarray.typeOf atype)).before args s = true) {ty : FieldType} (hty : newarray.typeOf atype = ty) (hnt : mwN ty) (hK : va_K D cl tys s) {t0 : Nat} {c0 : ClassId} (ht : tys[t0]? = some (c0, ty)) (hP : va_P D cl ws H) (hD : va_D A ws) (hS : va_S A s.heap H locs) (hA : ∀ q, s.heap.size ≤ q → A q)
    {n : Int32} {N' : Nat} {a0 : vp_A} (ha : ∀ cA : ClassId, vp_cell cA a0 = arrV cA N' (fun _ => defaultValue ty)) (hn : ¬ n < 0) (hN : n.toNatClampNeg = N') (hbytes : N' * componentBytes ty ≤ 536870912) (hcells : cells + 1 ≤ R.cells) (hslots : slots + N' ≤ R.slots) (hdg : decode cc pc = .ok (.newarray atype, 2))
    (kk : ∀ (q : Nat) (H1 : Heap), va_P D cl (ws ++ [(q, .inl (c0, a0))]) H1 → va_D A (ws ++ [(q, .inl (c0, a0))]) → va_S A s.heap H1 locs →
      W p l e R s m args below meth c H1 locs (cells + 1) (slots + N') Q (F0 m (pc + 2) ls (.ref q :: rest))) : W p l e R s m args below meth c H locs cells slots Q (F0 m pc ls (.int n :: rest)) := by
  refine va_newa hexec hb harr hty hK hP hD hS hA ha hn hN hbytes hcells hslots hdg fun q cA H1 hK1 hP1 hD1 hS1 => ?_
  have e1 := hnt s c0 (hK.2 t0 _ ht).2
  have hl : (tys ++ [(cA, ty)])[tys.length]? = some (cA, ty) := by simp
  have e2 := hnt s cA (hK1.2 tys.length _ hl).2
  have e3 : c0 = cA := Option.some.inj (e1.symm.trans e2)
  subst e3
  exact kk q H1 hP1 hD1 hS1
theorem nw_m (hexec : p.tables.exec = Jvm.exec) (hb : c.code = cc) {own : String} {index : Nat} (hown : s.vm.findClass own = some m.cls) (hclink : (Cond.classLink own index "[[I").before args s = true) (hK : va_K D cl tys s) {t0 t3 : Nat} {cA cI : ClassId} (ht3 : tys[t3]? = some (cA, .array .int)) (ht0 : tys[t0]? = some (cI, .int)) (hC : mwC cA cI s) (hP : va_P D cl ws H) (hD : va_D A ws) (hS : va_S A s.heap H locs) (hA : ∀ q, s.heap.size ≤ q → A q)
    {n k : Int32} {N M : Nat} (hn : ¬ n < 0) (hk : ¬ k < 0) (hN : n.toNatClampNeg = N) (hM : k.toNatClampNeg = M)
    (hb1 : N * 4 ≤ 536870912) (hb2 : M * 4 ≤ 536870912) (hcells : cells + (1 + N) ≤ R.cells) (hslots : slots + (N + N * M) ≤ R.slots) (hdg : decode cc pc = .ok (.multianewarray index 2, 4))
    (kk : ∀ (q : Nat) (H1 : Heap), va_P D cl (ws ++ ((q, .inl (cA, N, .inr (.inr (.inr (.inr (fun i => some (q + 1 + i))))))) :: (List.range N).map (fun i => (q + 1 + i, .inl (cI, M, .inl (fun _ => 0)))))) H1 →
      va_D A (ws ++ ((q, .inl (cA, N, .inr (.inr (.inr (.inr (fun i => some (q + 1 + i))))))) :: (List.range N).map (fun i => (q + 1 + i, .inl (cI, M, .inl (fun _ => 0)))))) → va_S A s.heap H1 locs →
      W p l e R s m args below meth c H1 locs (cells + 1 + N) (slots + N + N * M) Q (F0 m (pc + 4) ls (.ref q :: rest))) : W p l e R s m args below meth c H locs cells slots Q (F0 m pc ls (.int k :: .int n :: rest)) := by
  intro T hT X
  have hfA : s.vm.findClass "[[I" = some cA := (hK.2 t3 _ ht3).2
  obtain ⟨vm₁, X', st⟩ := mw_row X (by rw [hT]; exact hS.1) hexec hown hclink hfA hC (hK.2 t0 _ ht0).1 (g := F0 m pc ls (.int k :: .int n :: rest)) rfl (by rw [hb]; exact hdg) rfl hn hk hN hM hb1 hb2 hcells hslots
  obtain ⟨f1, f2, -, -⟩ := mwS_f (T := T.setVm vm₁) (cA := cA) (cI := cI) (N := N) (M := M) N
  have hTh : (T.setVm vm₁).heap = H := hT
  rw [hTh] at f1 f2
  have hold : ∀ x : Nat, x < H.size → (mwS (T.setVm vm₁) cA cI N M N).heap[x]? = H[x]? := fun x hx => by
    have := mwS_old (T := T.setVm vm₁) (cA := cA) (cI := cI) (N := N) (M := M) (a := x) (by rw [hTh]; exact hx) N
    rw [hTh] at this
    exact this
  have hin : ∀ j : Nat, j < N → (mwS (T.setVm vm₁) cA cI N M N).heap[H.size + 1 + j]? = some (mwI cI M) := fun j hj => by
    have := mwS_in (T := T.setVm vm₁) (cA := cA) (cI := cI) (N := N) (M := M) (j := j) N hj
    rw [hTh] at this
    exact this
  have hTs : T.heap.size = H.size := by rw [hT]
  have hlt : ∀ (k9 : Nat) (x : Nat × va_E), ws[k9]? = some x → x.1 < H.size := fun k9 x hx => (hP k9 x hx).lt
  have hnew : ∀ (k9 : Nat) (x : Nat × va_E), ((H.size, .inl (cA, N, .inr (.inr (.inr (.inr (fun i => some (H.size + 1 + i))))))) :: (List.range N).map (fun i => ((H.size + 1 + i, .inl (cI, M, .inl (fun _ => 0))) : Nat × va_E)) : va_W)[k9]? = some x → x.1 = H.size + k9 ∧ va_at D cl x (mwS (T.setVm vm₁) cA cI N M N).heap := fun k9 x hx => by
    cases k9 with
    | zero =>
      cases hx
      refine ⟨rfl, ?_⟩
      show (mwS (T.setVm vm₁) cA cI N M N).heap[H.size]? = some (vp_cell _ _)
      rw [f2, vp_cell_q]
      congr 1
      unfold mwO arrV
      congr 1
      apply Array.ext
      · simp
      · intro i h1 h2
        simp at h1 h2
        simp [h1, va_rf]
    | succ j =>
      rw [List.getElem?_cons_succ, List.getElem?_map] at hx
      by_cases hj : j < N
      · rw [List.getElem?_range hj] at hx
        cases hx
        refine ⟨by show H.size + 1 + j = H.size + (j + 1); omega, ?_⟩
        show (mwS (T.setVm vm₁) cA cI N M N).heap[H.size + 1 + j]? = some (vp_cell _ _)
        rw [hin j hj, vp_cell_i]
        rfl
      · rw [List.getElem?_eq_none (by simpa using Nat.not_lt.mp hj)] at hx
        cases hx
  have hDn : va_D A (ws ++ ((H.size, .inl (cA, N, .inr (.inr (.inr (.inr (fun i => some (H.size + 1 + i))))))) :: (List.range N).map (fun i => (H.size + 1 + i, .inl (cI, M, .inl (fun _ => 0)))))) := by
    refine ⟨fun i j x y hi hj hxy => ?_, fun k9 x hx => ?_⟩
    · by_cases h1 : i < ws.length <;> by_cases h2 : j < ws.length
      · rw [List.getElem?_append_left h1] at hi
        rw [List.getElem?_append_left h2] at hj
        exact hD.1 i j x y hi hj hxy
      · rw [List.getElem?_append_left h1] at hi
        rw [List.getElem?_append_right (by omega)] at hj
        have := hlt _ _ hi
        have := (hnew _ _ hj).1
        omega
      · rw [List.getElem?_append_right (by omega)] at hi
        rw [List.getElem?_append_left h2] at hj
        have := hlt _ _ hj
        have := (hnew _ _ hi).1
        omega
      · rw [List.getElem?_append_right (by omega)] at hi hj
        have := (hnew _ _ hi).1
        have := (hnew _ _ hj).1
        omega
    · by_cases h1 : k9 < ws.length
      · rw [List.getElem?_append_left h1] at hx
        exact hD.2 k9 x hx
      · rw [List.getElem?_append_right (by omega)] at hx
        have := (hnew _ _ hx).1
        exact hA _ (by have := hS.1; omega)
  obtain ⟨t, a1, b1⟩ := kk H.size (mwS (T.setVm vm₁) cA cI N M N).heap ((hP.kept (fun k9 x hx => hold x.1 (hlt k9 x hx))).app (fun k9 x hx => (hnew k9 x hx).2)) hDn ⟨by rw [f1]; have := hS.1; omega, fun x h1 h2 => (hold x (Nat.lt_of_lt_of_le h1 hS.1)).trans (hS.2.1 x h1 h2), hS.2.2⟩ (mwS (T.setVm vm₁) cA cI N M N) rfl X'
  rw [hTs] at st
  exact ⟨t, st t a1, b1⟩
end MVA
/-- behind a call on the last word alone -/
theorem nw_j {A0 : Nat → Prop} {D : va_G} {cl : List vw_C} {ws w1 : va_W} {x : Nat × va_E} {H H1 : Heap} (hP : va_P D cl (ws ++ [x]) H) (hD : va_D A0 (ws ++ [x])) (hk : ∀ q : Nat, q < H.size → ¬ va_A [x] H.size q → H1[q]? = H[q]?) (hF : ∀ q, va_A [x] H.size q → A0 q) (hP1 : va_P D cl w1 H1) (hD1 : va_D (va_A [x] H.size) w1) : va_P D cl (ws ++ w1) H1 ∧ va_D A0 (ws ++ w1) := by
  have hap : ∀ (k : Nat) (q : Nat × va_E), ws[k]? = some q → q.1 < H.size ∧ ¬ va_A [x] H.size q.1 := fun k q hq => by
    have hkl : k < ws.length := (List.getElem?_eq_some_iff.mp hq).1
    have hq2 : (ws ++ [x])[k]? = some q := by rw [List.getElem?_append_left hkl]; exact hq
    have hlt := (hP k q hq2).lt
    refine ⟨hlt, fun h => ?_⟩
    rcases h with ⟨k2, e, h⟩ | h
    · have h0 : k2 < 1 := (List.getElem?_eq_some_iff.mp h).1
      rw [show k2 = 0 by omega] at h
      cases h
      have hl : (ws ++ [(q.1, e)])[ws.length]? = some (q.1, e) := by simp
      have := hD.1 k ws.length q _ hq2 hl rfl
      omega
    · exact absurd hlt (Nat.not_lt.mpr h)
  have hPw : va_P D cl ws H := fun k q hq => hP k q (by rw [List.getElem?_append_left (List.getElem?_eq_some_iff.mp hq).1]; exact hq)
  refine ⟨(hPw.kept (fun k q hq => hk q.1 (hap k q hq).1 (hap k q hq).2)).app hP1, fun i j p q hi hj hpq => ?_, fun k q hq => ?_⟩
  · by_cases h1 : i < ws.length <;> by_cases h2 : j < ws.length
    · rw [List.getElem?_append_left h1] at hi
      rw [List.getElem?_append_left h2] at hj
      exact hD.1 i j p q (by rw [List.getElem?_append_left h1]; exact hi) (by rw [List.getElem?_append_left h2]; exact hj) hpq
    · rw [List.getElem?_append_left h1] at hi
      rw [List.getElem?_append_right (by omega)] at hj
      exact absurd (hpq ▸ hD1.2 _ _ hj) (hap _ _ hi).2
    · rw [List.getElem?_append_right (by omega)] at hi
      rw [List.getElem?_append_left h2] at hj
      exact absurd (hpq ▸ hD1.2 _ _ hi) (hap _ _ hj).2
    · rw [List.getElem?_append_right (by omega)] at hi hj
      have := hD1.1 _ _ _ _ hi hj hpq
      omega
  · by_cases h1 : k < ws.length
    · rw [List.getElem?_append_left h1] at hq
      exact hD.2 k q (by rw [List.getElem?_append_left h1]; exact hq)
    · rw [List.getElem?_append_right (by omega)] at hq
      exact hF _ (hD1.2 _ _ hq)
