/-! ONE INSTRUCTION: the pure machine's step is the machine's -/
theorem zo_ii_e {f : Int32 → Int32 → Int32} {L L' : zL} {st st' : List Value} {σ σ' : zS} (h : zo_ii f L st σ = some (L', st', σ')) : ∃ x y r, st = .int y :: .int x :: r ∧ st' = .int (f x y) :: r ∧ L' = L ∧ σ' = σ := by
  unfold zo_ii at h
  split at h
  · cases h
    exact ⟨_, _, _, rfl, rfl, rfl, rfl⟩
  · cases h
theorem zo_i_e {f : Int32 → Int32} {L L' : zL} {st st' : List Value} {σ σ' : zS} (h : zo_i f L st σ = some (L', st', σ')) : ∃ x r, st = .int x :: r ∧ st' = .int (f x) :: r ∧ L' = L ∧ σ' = σ := by
  unfold zo_i at h
  split at h
  · cases h
    exact ⟨_, _, rfl, rfl, rfl, rfl⟩
  · cases h
theorem zo_ll_e {f : Int64 → Int64 → Int64} {L L' : zL} {st st' : List Value} {σ σ' : zS} (h : zo_ll f L st σ = some (L', st', σ')) : ∃ x y r, st = .long y :: .long x :: r ∧ st' = .long (f x y) :: r ∧ L' = L ∧ σ' = σ := by
  unfold zo_ll at h
  split at h
  · cases h
    exact ⟨_, _, _, rfl, rfl, rfl, rfl⟩
  · cases h
theorem zo_li_e {f : Int64 → Int32 → Int64} {L L' : zL} {st st' : List Value} {σ σ' : zS} (h : zo_li f L st σ = some (L', st', σ')) : ∃ x y r, st = .int y :: .long x :: r ∧ st' = .long (f x y) :: r ∧ L' = L ∧ σ' = σ := by
  unfold zo_li at h
  split at h
  · cases h
    exact ⟨_, _, _, rfl, rfl, rfl, rfl⟩
  · cases h
theorem zo_mm_e {f : Int32 → Int32 → Int32} {L L' : zL} {st st' : List Value} {σ σ' : zS} (h : zo_mm f L st σ = some (L', st', σ')) : ∃ x y r, st = .int y :: .int x :: r ∧ r.length ≤ 4 ∧ st' = .int (f x y) :: r ∧ L' = L ∧ σ' = σ := by
  unfold zo_mm at h
  split at h
  · split at h
    · rename_i hr
      cases h
      exact ⟨_, _, _, rfl, hr, rfl, rfl, rfl⟩
    · cases h
  · cases h
theorem zin_e {α : Type} {i : Int32} {n : Nat} {r : Option α} {y : α} (h : zin i n r = some y) : vp_in i n ∧ r = some y := by
  unfold zin at h
  split at h
  · cases h
  · rename_i hi
    exact ⟨hi, h⟩
theorem z_one {i o : Instr} {len : Nat} (h : (decide (o = i) && len == 1) = true) : o = i ∧ len = 1 := by
  simp only [Bool.and_eq_true, decide_eq_true_eq, beq_iff_eq] at h
  exact h
theorem zcat_le (v : Value) : v.category ≤ 2 := by cases v <;> simp [Value.category]
theorem zsum_le (ad : Nat → Nat) : ∀ r : List Value, ((r.map (ztr ad)).map fun v => v.category).sum ≤ 2 * r.length
  | [] => Nat.le_refl _
  | v :: r => by
    have h1 := zsum_le ad r
    have h2 := zcat_le (ztr ad v)
    simp only [List.map_cons, List.sum_cons, List.length_cons]
    omega
theorem z_nm : ∀ c, c < 12 → ∀ a, a < (zCl c).2.2 → ∀ b, b < (zCl c).2.2 → a ≠ b → ((zCl c).2.1 a).2.1 ≠ ((zCl c).2.1 b).2.1 := fun c h => by
  rcases (show c = 0 ∨ c = 1 ∨ c = 2 ∨ c = 3 ∨ c = 4 ∨ c = 5 ∨ c = 6 ∨ c = 7 ∨ c = 8 ∨ c = 9 ∨ c = 10 ∨ c = 11 by omega) with rfl | rfl | rfl | rfl | rfl | rfl | rfl | rfl | rfl | rfl | rfl | rfl
  · exact nmX0
  · exact nmX1
  · exact nmX2
  · exact nmX3
  · exact nmX4
  · exact nmX5
  · exact nmX6
  · exact nmX7
  · exact nmX8
  · exact nmX9
  · exact nmX10
  · exact nmX11
def zty (c k : Nat) : FieldType := (parseFieldDescriptor ((zCl c).2.1 k).2.2.1).getD .int
theorem z_ty0 : ∀ c, c < 12 → ∀ k, k < (zCl c).2.2 → (parseFieldDescriptor ((zCl c).2.1 k).2.2.1).isSome = true := by decide +kernel
theorem z_ty : ∀ c, c < 12 → ∀ k, k < (zCl c).2.2 → parseFieldDescriptor ((zCl c).2.1 k).2.2.1 = some (zty c k) := fun c hc k hk => by
  have h := z_ty0 c hc k hk
  unfold zty
  cases hp : parseFieldDescriptor ((zCl c).2.1 k).2.2.1 with
  | none => rw [hp] at h; cases h
  | some t => rfl
theorem z_int : ∀ c, c < 12 → ∀ k, k < (zCl c).2.2 → zfk (64 * c + k) = none → ((zCl c).2.1 k).2.2.1 = "I" := by decide +kernel
theorem z_I : parseFieldDescriptor "I" = some .int := by decide +kernel
theorem zgw_at {w : Jvm.Cond} (h : w ∈ zgw1 ∨ w ∈ zgw2 ∨ w ∈ zgw3 ∨ w ∈ zgw4 ∨ w ∈ zgw5 ∨ w ∈ zgw6 ∨ w ∈ zgw7 ∨ w ∈ zgw8 ∨ w ∈ zgw9 ∨ w ∈ zgwa ∨ w ∈ zgwb ∨ w ∈ zgwc ∨ w ∈ zgwd) : w ∈ zgw := by
  unfold zgw
  simp only [List.mem_append]
  exact h
theorem z_link {own x q : Nat} (h : (own, x, q) ∈ zfl) : Cond.fieldLink (zR own) x (zT q).1 (zT q).2.1 (zT q).2.2.1 ∈ zgw := zgw_at (Or.inl (List.mem_map.mpr ⟨_, h, rfl⟩))
theorem z_lay {c : Nat} (hc : c < 12) : ∀ w ∈ u_ws (zCl c).1 (zCl c).2.1 (zCl c).2.2, w ∈ zgw := fun w hw => zgw_at (by
  have : w ∈ zgw9 := List.mem_flatMap.mpr ⟨c, List.mem_range.mpr hc, hw⟩
  simp only [this, true_or, or_true])
/-- what stands fast while a method runs -/
def zSt (ad : Nat → Nat) (sc : zX) (A : Nat → Prop) (U : State) (H : Heap) : Prop := va_X (ad 134) sc.1 sc.2.1 U H ∧ ad 134 < H.size ∧ ¬ A (ad 134)
def zCx (pg : Program) (R : Room) (s : State) (m : MethodId) (args : Array Value) (c : Code) (cells slots : Nat) (ad : Nat → Nat) (cy : Nat → ClassId) (D : va_G) (A : Nat → Prop) (sc : zX) (mt : Nat) : Prop :=
  pg.tables.exec = Jvm.exec ∧ c.code = zcode mt ∧ c.maxLocals = zml mt ∧ s.vm.findClass (zR (zown mt)) = some m.cls ∧ (∀ w ∈ zgw, w.before args s = true) ∧ va_K D vwCl (ztys cy) s ∧ zSt ad sc A s s.heap ∧ zdep mt ≤ R.frames ∧ 35 * zdep mt ≤ R.locals ∧ cells ≤ R.cells ∧ slots ≤ R.slots
def zIn (nc : Nat) (ad : Nat → Nat) (cy : Nat → ClassId) (D : va_G) (A : Nat → Prop) (s : State) (σ : zS) (H : Heap) (locs : List Loc) : Prop := va_P D vwCl (zw nc ad cy σ) H ∧ va_D A (zw nc ad cy σ) ∧ va_S A s.heap H locs
section ZST
variable {pg : Program} {l : Launch} {e : Env} {R : Room} {s : State} {m : MethodId} {args : Array Value} {below : List Frame} {meth : Method} {c : Code} {cells slots : Nat} {Qw : State → Prop}
variable {ad : Nat → Nat} {cy : Nat → ClassId} {D : va_G} {A : Nat → Prop} {sc : zX} {mt : Nat}
theorem z_aald {H : Heap} {locs : List Loc} {ws : va_W} {a n t0 q0 pc : Nat} {cA : ClassId} {f : Nat → Option Nat} {ls : Array Slot} {rest : List Value} {tys : List (ClassId × FieldType)} (hx : pg.tables.exec = Jvm.exec) (hb : c.code = zcode mt) (hK : va_K D vwCl tys s) (hP : va_P D vwCl ws H) (ha : ws[q0]? = some (a, .inl (cA, n, .inr (.inr (.inr (.inr f)))))) (ht : tys[t0]? = some (cA, .array .int)) {i : Int32} (hin : vp_in i n) (hdg : decode (zcode mt) pc = .ok (.aaload, 1))
    (kk : W pg l e R s m args below meth c H locs cells slots Qw (F0 m (pc + 1) ls (va_rf (f i.toNatClampNeg) :: rest))) : W pg l e R s m args below meth c H locs cells slots Qw (F0 m pc ls (.int i :: .ref a :: rest)) := by
  have hlt : i.toNatClampNeg < n := Nat.not_le.mp fun q => hin (Or.inr q)
  exact W.aald (v := va_rf (f i.toNatClampNeg)) (ty := .array .int) hx hb (hP q0 _ ha) ((hK.2 t0 _ ht).1 n (fun j => va_rf (f j))) rfl (fun q => by cases q) (by show ¬ (i < 0 ∨ (arrV _ _ _).slots.size ≤ _); rw [arrV_size]; exact hin) (by show (arrV _ _ _).slots[_]? = _; rw [arrV_read _ _ hlt]) rfl rfl hdg kk
theorem zty_at {cy : Nat → ClassId} {q : Nat} : (ztys cy)[0]? = some (cy 0, .int) ∧ (ztys cy)[1]? = some (cy 0, .int) ∧ (ztys cy)[2]? = some (cy 2, .long) ∧ (ztys cy)[3]? = some (cy 3, .array .int) := ⟨rfl, rfl, rfl, rfl⟩
set_option maxHeartbeats 4000000 in
set_option maxRecDepth 100000 in
theorem z_step {i o : Instr} {len pc : Nat} {L L' : zL} {st st' : List Value} {σ σ' : zS} {ls : Array Slot} {H : Heap} {locs : List Loc} (C : zCx pg R s m args c cells slots ad cy D A sc mt) (hd : decode (zcode mt) pc = .ok (o, len)) (hm : zcm mt (zown mt) pc i o len = true) (hs : zst sc i L st σ = some (L', st', σ')) (hl : zlr ad ls (zml mt) L) (hI : zIn sc.2.2 ad cy D A s σ H locs)
    (kk : ∀ (ls' : Array Slot) (H' : Heap) (locs' : List Loc), zlr ad ls' (zml mt) L' → zIn sc.2.2 ad cy D A s σ' H' locs' → W pg l e R s m args below meth c H' locs' cells slots Qw (F0 m (pc + len) ls' (st'.map (ztr ad)))) : W pg l e R s m args below meth c H locs cells slots Qw (F0 m pc ls (st.map (ztr ad))) := by
  obtain ⟨hx, hb, hml, hown, hts, hK, ⟨hX, hbl, hbA⟩, hfr, hlo, hcs, hss⟩ := C
  obtain ⟨hP, hD, hS⟩ := id hI
  have hmls : c.maxLocals = ls.size := hml.trans hl.1.symm
  cases i with
  | iload k =>
    change zo_iload k L st σ = _ at hs
    unfold zo_iload at hs
    split at hs
    · rename_i x hv
      cases hs
      have hg : ls[k]? = some (.val (.int x)) := hl.2.2.2 _ _ hv
      simp only [zcm] at hm
      split at hm
      · simp only [Bool.and_eq_true, beq_iff_eq] at hm
        obtain ⟨rfl, rfl⟩ := hm
        exact lv_iload hx hb hd hg (kk ls H locs hl hI)
      · simp only [Bool.and_eq_true, beq_iff_eq] at hm
        obtain ⟨h1, rfl⟩ := hm
        exact lv_iload_n hx hb hd h1 hg (kk ls H locs hl hI)
      · cases hm
    · cases hs
  | aload k =>
    change zo_aload k L st σ = _ at hs
    unfold zo_aload at hs
    split at hs
    · rename_i x hv
      cases hs
      have hg : ls[k]? = some (.val (.ref (ad x))) := hl.2.2.2 _ _ hv
      simp only [zcm] at hm
      split at hm
      · simp only [Bool.and_eq_true, beq_iff_eq] at hm
        obtain ⟨rfl, rfl⟩ := hm
        exact lv_aload hx hb hd hg (kk ls H locs hl hI)
      · simp only [Bool.and_eq_true, beq_iff_eq] at hm
        obtain ⟨h1, rfl⟩ := hm
        exact lv_aload_n hx hb hd h1 hg (kk ls H locs hl hI)
      · cases hm
    · cases hs
  | lload k =>
    change zo_lload k L st σ = _ at hs
    unfold zo_lload at hs
    split at hs
    · rename_i x hv
      cases hs
      have hg : ls[k]? = some (.val (.long x)) := hl.2.2.2 _ _ hv
      simp only [zcm] at hm
      split at hm
      · simp only [Bool.and_eq_true, beq_iff_eq] at hm
        obtain ⟨rfl, rfl⟩ := hm
        exact lv_lload hx hb hd hg (kk ls H locs hl hI)
      · simp only [Bool.and_eq_true, beq_iff_eq] at hm
        obtain ⟨h1, rfl⟩ := hm
        exact lv_lload_n hx hb hd h1 hg (kk ls H locs hl hI)
      · cases hm
    · cases hs
  | istore k =>
    change zo_istore k L st σ = _ at hs
    unfold zo_istore at hs
    split at hs
    · split at hs
      · rename_i x r hk
        cases hs
        have hn : k < zml mt := by rw [← hl.2.2.1]; exact zok_lt hk
        simp only [zcm] at hm
        split at hm
        · simp only [Bool.and_eq_true, beq_iff_eq] at hm
          obtain ⟨rfl, rfl⟩ := hm
          exact lv_istore hx hb hd (zlr_has hl) hn rfl (fun ls' h' => kk ls' H locs (zlr_store1 (v0 := .int x) hl hk h') hI)
        · simp only [Bool.and_eq_true, beq_iff_eq] at hm
          obtain ⟨h1, rfl⟩ := hm
          exact lv_istore_n hx hb hd h1 (zlr_has hl) hn rfl (fun ls' h' => kk ls' H locs (zlr_store1 (v0 := .int x) hl hk h') hI)
        · cases hm
      · cases hs
    · cases hs
  | astore k =>
    change zo_astore k L st σ = _ at hs
    unfold zo_astore at hs
    split at hs
    · split at hs
      · rename_i x r hk
        cases hs
        have hn : k < zml mt := by rw [← hl.2.2.1]; exact zok_lt hk
        simp only [zcm] at hm
        split at hm
        · simp only [Bool.and_eq_true, beq_iff_eq] at hm
          obtain ⟨rfl, rfl⟩ := hm
          exact lv_astore hx hb hd (zlr_has hl) hn rfl (fun ls' h' => kk ls' H locs (zlr_store1 (v0 := .ref x) hl hk h') hI)
        · simp only [Bool.and_eq_true, beq_iff_eq] at hm
          obtain ⟨h1, rfl⟩ := hm
          exact lv_astore_n hx hb hd h1 (zlr_has hl) hn rfl (fun ls' h' => kk ls' H locs (zlr_store1 (v0 := .ref x) hl hk h') hI)
        · cases hm
      · cases hs
    · cases hs
  | lstore k =>
    change zo_lstore k L st σ = _ at hs
    unfold zo_lstore at hs
    split at hs
    · split at hs
      · rename_i x r hk
        cases hs
        have hn : k + 1 < zml mt := by rw [← hl.2.2.1]; exact hk.2
        simp only [zcm] at hm
        split at hm
        · simp only [Bool.and_eq_true, beq_iff_eq] at hm
          obtain ⟨rfl, rfl⟩ := hm
          exact lv_lstore hx hb hd (zlr_has hl) hn rfl (fun ls' h' => kk ls' H locs (zlr_store2 (v0 := .long x) hl hk.1 hk.2 h') hI)
        · simp only [Bool.and_eq_true, beq_iff_eq] at hm
          obtain ⟨h1, rfl⟩ := hm
          exact lv_lstore_n hx hb hd h1 (zlr_has hl) hn rfl (fun ls' h' => kk ls' H locs (zlr_store2 (v0 := .long x) hl hk.1 hk.2 h') hI)
        · cases hm
      · cases hs
    · cases hs
  | iinc k n =>
    change zo_iinc k n L st σ = _ at hs
    unfold zo_iinc at hs
    split at hs
    · split at hs
      · rename_i x hv hk
        cases hs
        have hn : k < zml mt := by rw [← hl.2.2.1]; exact zok_lt hk
        simp only [zcm, Bool.and_eq_true, decide_eq_true_eq, beq_iff_eq] at hm
        obtain ⟨rfl, rfl⟩ := hm
        obtain ⟨j, hj⟩ := List.getElem?_of_mem (zla_mem (ad := ad) hv)
        exact lv_iinc hx hb hd (zlr_has hl) hj rfl hn rfl (fun ls' h' => kk ls' H locs (zlr_store1 (v0 := .int (x + Int32.ofInt n)) hl hk h') hI)
      · cases hs
    · cases hs
  | sipush v =>
    change some (L, .int (Int32.ofInt v) :: st, σ) = _ at hs
    cases hs
    simp only [zcm] at hm
    split at hm
    · simp only [Bool.and_eq_true, decide_eq_true_eq, beq_iff_eq] at hm
      obtain ⟨rfl, rfl⟩ := hm
      exact lv_iconst hx hb hd rfl (kk ls H locs hl hI)
    · simp only [Bool.and_eq_true, decide_eq_true_eq, beq_iff_eq] at hm
      obtain ⟨h1, rfl⟩ := hm
      exact lv_bipush hx hb hd h1 (kk ls H locs hl hI)
    · simp only [Bool.and_eq_true, decide_eq_true_eq, beq_iff_eq] at hm
      obtain ⟨h1, rfl⟩ := hm
      exact lv_sipush hx hb hd h1 (kk ls H locs hl hI)
    · simp only [Bool.and_eq_true, decide_eq_true_eq, beq_iff_eq] at hm
      obtain ⟨h1, rfl⟩ := hm
      rename_i xk
      have hw : Cond.constant (zR (zown mt)) xk (Int32.ofInt v) ∈ zgw := zgw_at (by
        have : Cond.constant (zR (zown mt)) xk (Int32.ofInt v) ∈ zgwa := List.mem_append_left _ (List.mem_map.mpr ⟨_, h1, rfl⟩)
        simp only [this, true_or, or_true])
      exact lv_ldc hx hb hown (hts _ hw) hd (kk ls H locs hl hI)
    · simp only [Bool.and_eq_true, decide_eq_true_eq, beq_iff_eq] at hm
      obtain ⟨h1, rfl⟩ := hm
      rename_i xk
      have hw : Cond.constant (zR (zown mt)) xk (Int32.ofInt v) ∈ zgw := zgw_at (by
        have : Cond.constant (zR (zown mt)) xk (Int32.ofInt v) ∈ zgwa := List.mem_append_left _ (List.mem_map.mpr ⟨_, h1, rfl⟩)
        simp only [this, true_or, or_true])
      exact lv_ldcw hx hb hown (hts _ hw) hd (kk ls H locs hl hI)
    · cases hm
  | lconst n =>
    change some (L, .long (Int64.ofNat n) :: st, σ) = _ at hs
    cases hs
    obtain ⟨rfl, rfl⟩ := z_one hm
    exact lv_lconst hx hb hd rfl (kk ls H locs hl hI)
  | ldc2_w n =>
    change some (L, .long (zLc n) :: st, σ) = _ at hs
    cases hs
    simp only [zcm] at hm
    split at hm
    · simp only [Bool.and_eq_true, decide_eq_true_eq, beq_iff_eq] at hm
      obtain ⟨h1, rfl⟩ := hm
      rename_i xk
      have hw : Cond.constantLong (zR (zown mt)) xk (zLc n) ∈ zgw := zgw_at (by
        have : Cond.constantLong (zR (zown mt)) xk (zLc n) ∈ zgwa := List.mem_append_right _ (List.mem_map.mpr ⟨_, h1, rfl⟩)
        simp only [this, true_or, or_true])
      exact lv_ldc2 hx hb hown (hts _ hw) hd (kk ls H locs hl hI)
    · cases hm
  | iadd =>
    obtain ⟨rfl, rfl⟩ := z_one hm
    obtain ⟨x, y, r, rfl, rfl, rfl, rfl⟩ := zo_ii_e hs
    exact lv_iadd hx hb hd (kk ls H locs hl hI)
  | isub =>
    obtain ⟨rfl, rfl⟩ := z_one hm
    obtain ⟨x, y, r, rfl, rfl, rfl, rfl⟩ := zo_ii_e hs
    exact lv_isub hx hb hd (kk ls H locs hl hI)
  | imul =>
    obtain ⟨rfl, rfl⟩ := z_one hm
    obtain ⟨x, y, r, rfl, rfl, rfl, rfl⟩ := zo_ii_e hs
    exact lv_imul hx hb hd (kk ls H locs hl hI)
  | iand =>
    obtain ⟨rfl, rfl⟩ := z_one hm
    obtain ⟨x, y, r, rfl, rfl, rfl, rfl⟩ := zo_ii_e hs
    exact lv_iand hx hb hd (kk ls H locs hl hI)
  | ior =>
    obtain ⟨rfl, rfl⟩ := z_one hm
    obtain ⟨x, y, r, rfl, rfl, rfl, rfl⟩ := zo_ii_e hs
    exact lv_ior hx hb hd (kk ls H locs hl hI)
  | ixor =>
    obtain ⟨rfl, rfl⟩ := z_one hm
    obtain ⟨x, y, r, rfl, rfl, rfl, rfl⟩ := zo_ii_e hs
    exact lv_ixor hx hb hd (kk ls H locs hl hI)
  | ishl =>
    obtain ⟨rfl, rfl⟩ := z_one hm
    obtain ⟨x, y, r, rfl, rfl, rfl, rfl⟩ := zo_ii_e hs
    exact lv_ishl hx hb hd (kk ls H locs hl hI)
  | ishr =>
    obtain ⟨rfl, rfl⟩ := z_one hm
    obtain ⟨x, y, r, rfl, rfl, rfl, rfl⟩ := zo_ii_e hs
    exact lv_ishr hx hb hd (kk ls H locs hl hI)
  | iushr =>
    obtain ⟨rfl, rfl⟩ := z_one hm
    obtain ⟨x, y, r, rfl, rfl, rfl, rfl⟩ := zo_ii_e hs
    exact lv_iushr hx hb hd rfl (kk ls H locs hl hI)
  | ineg =>
    obtain ⟨rfl, rfl⟩ := z_one hm
    obtain ⟨x, r, rfl, rfl, rfl, rfl⟩ := zo_i_e hs
    exact lv_ineg hx hb hd (kk ls H locs hl hI)
  | i2b =>
    obtain ⟨rfl, rfl⟩ := z_one hm
    obtain ⟨x, r, rfl, rfl, rfl, rfl⟩ := zo_i_e hs
    exact lv_i2b hx hb hd rfl (kk ls H locs hl hI)
  | i2s =>
    obtain ⟨rfl, rfl⟩ := z_one hm
    obtain ⟨x, r, rfl, rfl, rfl, rfl⟩ := zo_i_e hs
    exact lv_i2s hx hb hd rfl (kk ls H locs hl hI)
  | i2l =>
    obtain ⟨rfl, rfl⟩ := z_one hm
    change zo_i2l L st σ = _ at hs
    unfold zo_i2l at hs
    split at hs
    · cases hs
      exact lv_i2l hx hb hd rfl (kk ls H locs hl hI)
    · cases hs
  | ladd =>
    obtain ⟨rfl, rfl⟩ := z_one hm
    obtain ⟨x, y, r, rfl, rfl, rfl, rfl⟩ := zo_ll_e hs
    exact lv_ladd hx hb hd (kk ls H locs hl hI)
  | lsub =>
    obtain ⟨rfl, rfl⟩ := z_one hm
    obtain ⟨x, y, r, rfl, rfl, rfl, rfl⟩ := zo_ll_e hs
    exact lv_lsub hx hb hd (kk ls H locs hl hI)
  | lmul =>
    obtain ⟨rfl, rfl⟩ := z_one hm
    obtain ⟨x, y, r, rfl, rfl, rfl, rfl⟩ := zo_ll_e hs
    exact lv_lmul hx hb hd (kk ls H locs hl hI)
  | lcmp =>
    obtain ⟨rfl, rfl⟩ := z_one hm
    change zo_lcmp L st σ = _ at hs
    unfold zo_lcmp at hs
    split at hs
    · cases hs
      exact W.lcmp hx hb hd (kk ls H locs hl hI)
    · cases hs
  | idiv =>
    obtain ⟨rfl, rfl⟩ := z_one hm
    change zo_idiv L st σ = _ at hs
    unfold zo_idiv at hs
    split at hs
    · split at hs
      · cases hs
      · rename_i h0
        cases hs
        exact lv_idiv hx hb hd h0 (kk ls H locs hl hI)
    · cases hs
  | irem =>
    obtain ⟨rfl, rfl⟩ := z_one hm
    change zo_irem L st σ = _ at hs
    unfold zo_irem at hs
    split at hs
    · split at hs
      · cases hs
      · rename_i h0
        cases hs
        exact lv_irem hx hb hd h0 (kk ls H locs hl hI)
    · cases hs
  | land =>
    obtain ⟨rfl, rfl⟩ := z_one hm
    obtain ⟨x, y, r, rfl, rfl, rfl, rfl⟩ := zo_ll_e hs
    exact lv_land hx hb hd (kk ls H locs hl hI)
  | lor =>
    obtain ⟨rfl, rfl⟩ := z_one hm
    obtain ⟨x, y, r, rfl, rfl, rfl, rfl⟩ := zo_ll_e hs
    exact lv_lor hx hb hd (kk ls H locs hl hI)
  | lshl =>
    obtain ⟨rfl, rfl⟩ := z_one hm
    obtain ⟨x, y, r, rfl, rfl, rfl, rfl⟩ := zo_li_e hs
    exact lv_lshl hx hb hd rfl (kk ls H locs hl hI)
  | lshr =>
    obtain ⟨rfl, rfl⟩ := z_one hm
    obtain ⟨x, y, r, rfl, rfl, rfl, rfl⟩ := zo_li_e hs
    exact lv_lshr hx hb hd rfl (kk ls H locs hl hI)
  | dup =>
    obtain ⟨rfl, rfl⟩ := z_one hm
    change zo_dup L st σ = _ at hs
    unfold zo_dup at hs
    split at hs
    · split at hs
      · rename_i v r hv
        cases hs
        exact lv_dup hx hb hd (by rw [ztr_cat]; exact hv) (kk ls H locs hl hI)
      · cases hs
    · cases hs
  | dup_x1 =>
    obtain ⟨rfl, rfl⟩ := z_one hm
    change zo_dupx1 L st σ = _ at hs
    unfold zo_dupx1 at hs
    split at hs
    · split at hs
      · rename_i hv
        cases hs
        exact lv_dup_x1 hx hb hd (by rw [ztr_cat]; exact hv.1) (by rw [ztr_cat]; exact hv.2) (kk ls H locs hl hI)
      · cases hs
    · cases hs
  | dup2 =>
    obtain ⟨rfl, rfl⟩ := z_one hm
    change zo_dup2 L st σ = _ at hs
    unfold zo_dup2 at hs
    split at hs
    · split at hs
      · rename_i hv
        cases hs
        exact lv_dup2_11 hx hb hd (by rw [ztr_cat]; exact hv.1) (by rw [ztr_cat]; exact hv.2) (kk ls H locs hl hI)
      · cases hs
    · cases hs
  | pop =>
    obtain ⟨rfl, rfl⟩ := z_one hm
    change zo_pop L st σ = _ at hs
    unfold zo_pop at hs
    split at hs
    · split at hs
      · rename_i hv
        cases hs
        exact lv_pop hx hb hd (by rw [ztr_cat]; exact hv) (kk ls H locs hl hI)
      · cases hs
    · cases hs
  | getfield q =>
    simp only [zcm] at hm
    split at hm
    · simp only [Bool.and_eq_true, decide_eq_true_eq, beq_iff_eq] at hm
      obtain ⟨h1, rfl⟩ := hm
      obtain ⟨hq1, hq2⟩ := zfl_ok _ h1
      dsimp only at hq1 hq2
      have hq : 64 * (q / 64) + q % 64 = q := by omega
      change zo_get q L st σ = _ at hs
      unfold zo_get at hs
      split at hs
      · split at hs
        · rename_i a r ha
          subst ha
          have hv : ((List.range (zNf (q / 64))).map (zfv ad σ (q / 64)))[q % 64]? = some (zfv ad σ (q / 64) (q % 64)) := by
            rw [List.getElem?_map, List.getElem?_range (by rw [zNf_Cl _ hq1]; exact hq2)]
            rfl
          refine va_get (ref := (zT q).1) (C := (zCl (q / 64)).1) (T := (zCl (q / 64)).2.1) (N := (zCl (q / 64)).2.2) hx hb hts (z_lay hq1) hown hK hP (zix (q / 64)) (by rw [zw_at (Or.inl hq1), ze_obj hq1]) (zCl_at _ hq1) (q % 64) hq2 (hts _ (z_link h1)) (fun _ h => h) hv hd ?_
          cases hk : zfk q with
          | some k =>
            rw [hk] at hs
            cases hs
            have hz : zfv ad σ (q / 64) (q % 64) = .ref (ad k) := by
              unfold zfv
              rw [hq, hk]
            rw [hz]
            exact kk ls H locs hl hI
          | none =>
            rw [hk] at hs
            cases hs
            have hz : zfv ad σ (q / 64) (q % 64) = .int (σ.1 (q / 64) (q % 64)) := by
              unfold zfv
              rw [hq, hk]
            rw [hz]
            exact kk ls H locs hl hI
        · cases hs
      · cases hs
    · cases hm
  | putfield q =>
    simp only [zcm] at hm
    split at hm
    · simp only [Bool.and_eq_true, decide_eq_true_eq, beq_iff_eq, Bool.not_eq_true'] at hm
      obtain ⟨⟨h1, h2⟩, rfl⟩ := hm
      obtain ⟨hq1, hq2⟩ := zfl_ok _ h1
      dsimp only at hq1 hq2
      have hq : 64 * (q / 64) + q % 64 = q := by omega
      have hN := zNf_Cl _ hq1
      change zo_put q L st σ = _ at hs
      unfold zo_put at hs
      split at hs
      · split at hs
        · rename_i v a r ha
          subst ha
          cases hk : zfk q with
          | some k => rw [hk] at hs; cases hs
          | none =>
            rw [hk] at hs
            cases hs
            refine va_put (ref := (zT q).1) (C := (zCl (q / 64)).1) (T := (zCl (q / 64)).2.1) (N := (zCl (q / 64)).2.2) (ty := .int) (v := .int v) hx hb hts (z_lay hq1) (zty (q / 64)) (z_ty _ hq1) (z_nm _ hq1) hown hK hP hD hS (zix (q / 64)) (by rw [zw_at (Or.inl hq1), ze_obj hq1]) (zCl_at _ hq1) (q % 64) hq2 (hts _ (z_link h1)) (fun _ h => h) h2 (by rw [z_int _ hq1 _ hq2 (by rw [hq]; exact hk)]; exact z_I) rfl rfl (by rw [List.length_map, List.length_range, hN]; exact hq2) hd (fun H1 locs1 hP1 hD1 hS1 => ?_)
            rw [zw_put hq1 (by rw [hN]; exact hq2) (by rw [hq]; exact hk)] at hP1 hD1
            exact kk ls H1 locs1 hl ⟨hP1, hD1, hS1⟩
        · cases hs
      · cases hs
    · cases hm
  | iaload =>
    obtain ⟨rfl, rfl⟩ := z_one hm
    change zo_iald sc L st σ = _ at hs
    unfold zo_iald at hs
    split at hs
    · split at hs
      · rename_i i a r ha
        subst ha
        obtain ⟨hin, h2⟩ := zin_e hs
        cases h2
        exact va_sld hx hb hX hbl hbA hS hin hd (kk ls H locs hl hI)
      · rename_i i a r ha
        split at hs
        · rename_i k n b hz
          split at hs
          · rename_i hk
            subst hk
            obtain ⟨hin, h2⟩ := zin_e hs
            cases h2
            exact va_iald hx hb hK hP (zix a) 0 (by rw [zw_at (zar_some hz).1, ze_arr hz, zrow_i (by omega)]) rfl hin hd (kk ls H locs hl hI)
          · cases hs
        · cases hs
    · cases hs
  | baload =>
    obtain ⟨rfl, rfl⟩ := z_one hm
    change zo_bald sc L st σ = _ at hs
    unfold zo_bald at hs
    split at hs
    · rename_i i a r
      split at hs
      · rename_i k n b hz
        split at hs
        · rename_i hk
          subst hk
          obtain ⟨hin, h2⟩ := zin_e hs
          cases h2
          exact (zarc_n1 hz).elim
        · cases hs
      · cases hs
    · cases hs
  | laload =>
    obtain ⟨rfl, rfl⟩ := z_one hm
    change zo_lald sc L st σ = _ at hs
    unfold zo_lald at hs
    split at hs
    · rename_i i a r
      split at hs
      · rename_i k n b hz
        split at hs
        · rename_i hk
          subst hk
          obtain ⟨hin, h2⟩ := zin_e hs
          cases h2
          exact va_lald hx hb hK hP (zix a) 2 (by rw [zw_at (zar_some hz).1, ze_arr hz, zrow_l]) rfl hin hd (kk ls H locs hl hI)
        · cases hs
      · cases hs
    · cases hs
  | aaload =>
    obtain ⟨rfl, rfl⟩ := z_one hm
    change zo_aald sc L st σ = _ at hs
    unfold zo_aald at hs
    split at hs
    · rename_i i a r
      split at hs
      · rename_i k n b hz
        split at hs
        · rename_i hk
          subst hk
          obtain ⟨hin, h2⟩ := zin_e hs
          cases h2
          exact z_aald (t0 := 3) (q0 := zix a) (f := fun j => if j < n then some (ad (b + j)) else none) hx hb hK hP (by rw [zw_at (zar_some hz).1, ze_arr hz, zrow_q]) rfl hin hd (by rw [if_pos (Nat.not_le.mp fun q => hin (Or.inr q))]; exact kk ls H locs hl hI)
        · cases hs
      · cases hs
    · cases hs
  | iastore =>
    obtain ⟨rfl, rfl⟩ := z_one hm
    change zo_iast sc L st σ = _ at hs
    unfold zo_iast at hs
    split at hs
    · rename_i x i a r
      split at hs
      · rename_i k n b hz
        split at hs
        · rename_i hk
          subst hk
          obtain ⟨hin, h2⟩ := zin_e hs
          cases h2
          refine va_iast hx hb hK hP hD hS (zix a) 0 (by rw [zw_at (zar_some hz).1, ze_arr hz, zrow_i (by omega)]) rfl hin hd (fun H1 locs1 hP1 hD1 hS1 => ?_)
          rw [zw_row hz (by omega)] at hP1 hD1
          exact kk ls H1 locs1 hl ⟨hP1, hD1, hS1⟩
        · cases hs
      · cases hs
    · cases hs
  | bastore =>
    obtain ⟨rfl, rfl⟩ := z_one hm
    change zo_bast sc L st σ = _ at hs
    unfold zo_bast at hs
    split at hs
    · rename_i x i a r
      split at hs
      · rename_i k n b hz
        split at hs
        · rename_i hk
          subst hk
          obtain ⟨hin, h2⟩ := zin_e hs
          cases h2
          exact (zarc_n1 hz).elim
        · cases hs
      · cases hs
    · cases hs
  | lastore =>
    obtain ⟨rfl, rfl⟩ := z_one hm
    change zo_last sc L st σ = _ at hs
    unfold zo_last at hs
    split at hs
    · rename_i x i a r
      split at hs
      · rename_i k n b hz
        split at hs
        · rename_i hk
          subst hk
          obtain ⟨hin, h2⟩ := zin_e hs
          cases h2
          refine va_last hx hb hK hP hD hS (zix a) 2 (by rw [zw_at (zar_some hz).1, ze_arr hz, zrow_l]) rfl hin hd (fun H1 locs1 hP1 hD1 hS1 => ?_)
          rw [zw_rowl hz] at hP1 hD1
          exact kk ls H1 locs1 hl ⟨hP1, hD1, hS1⟩
        · cases hs
      · cases hs
    · cases hs
  | arraylength =>
    obtain ⟨rfl, rfl⟩ := z_one hm
    change zo_alen sc L st σ = _ at hs
    unfold zo_alen at hs
    split at hs
    · split at hs
      · rename_i a r ha
        subst ha
        cases hs
        exact va_slen hx hb hX hbl hbA hS hd (kk ls H locs hl hI)
      · rename_i a r ha
        split at hs
        · rename_i k n b hz
          cases hs
          have hq := zar_some hz
          have e0 : (zw sc.2.2 ad cy σ)[zix a]? = some (ad a, .inl (cy k, zrow ad σ a k n b)) := by rw [zw_at hq.1, ze_arr hz]
          have e1 : (zrow ad σ a k n b).1 = n := by
            unfold zrow
            split
            · rfl
            · split <;> rfl
          rcases (show k = 0 ∨ k = 1 ∨ k = 2 ∨ k = 3 by omega) with rfl | rfl | rfl | rfl
          · exact va_alen hx hb hK hP (zix a) 0 e0 rfl (by rw [e1]) hd (kk ls H locs hl hI)
          · exact (zarc_n1 hz).elim
          · exact va_alen hx hb hK hP (zix a) 2 e0 rfl (by rw [e1]) hd (kk ls H locs hl hI)
          · exact va_alen hx hb hK hP (zix a) 3 e0 rfl (by rw [e1]) hd (kk ls H locs hl hI)
        · cases hs
    · cases hs
  | invokestatic k =>
    simp only [zcm] at hm
    split at hm
    · rename_i x
      by_cases h9 : k = 999
      · subst h9
        simp only [if_true, Bool.and_eq_true, decide_eq_true_eq, beq_iff_eq] at hm
        obtain ⟨⟨h1, h2⟩, rfl⟩ := hm
        change zo_copy sc L st σ = _ at hs
        unfold zo_copy at hs
        split at hs
        · rename_i n dp d sp s0 r
          split at hs
          · rename_i k0 n0 b0 k1 n1 b1 hz0 hz1
            split at hs
            · rename_i hk
              obtain ⟨rfl, rfl, h3, h4, h5, h6, h7, h8⟩ := hk
              cases hs
              have hw : ∀ w, w ∈ zgwb → w.before args s = true := fun w hw => hts _ (zgw_at (by simp only [hw, true_or, or_true]))
              refine va_copyi (a := ad d) hx hb hmls hown (hw _ (List.mem_append_left _ (List.mem_map.mpr ⟨_, h1, rfl⟩))) (hw _ (List.mem_append_right _ (by simp))) (hw _ (List.mem_append_right _ (by simp))) (hw _ (List.mem_append_right _ (by simp))) hK hP hD hS (zix s0) (zix d) 0 0 (ty := .int) (by rw [zw_at (zar_some hz0).1, ze_arr hz0, zrow_i (by omega)]) (by rw [zw_at (zar_some hz1).1, ze_arr hz1, zrow_i (by omega)]) rfl rfl rfl h4 h5 h6 h7 h8 (fun _ _ => rfl) (by omega) ?_ hd (fun H1 locs1 hP1 hD1 hS1 => ?_)
              · have := zsum_le ad st'
                have e5 : nativeFrameWords "java/lang/System" "arraycopy" 5 = 7 := by decide +kernel
                rw [e5]
                omega
              · rw [zw_row hz1 (by omega)] at hP1 hD1
                exact kk ls H1 locs1 hl ⟨hP1, hD1, hS1⟩
            · cases hs
          · cases hs
        · cases hs
      · by_cases h8 : k = 998
        · subst h8
          simp only [if_neg h9, if_true, Bool.and_eq_true, decide_eq_true_eq, beq_iff_eq] at hm
          obtain ⟨⟨h1, h2⟩, rfl⟩ := hm
          obtain ⟨x1, y1, r, rfl, hr, rfl, rfl, rfl⟩ := zo_mm_e hs
          have hw : ∀ w, w ∈ zgwc → w.before args s = true := fun w hw => hts _ (zgw_at (by simp only [hw, true_or, or_true]))
          refine va_mmax hx hb hmls hown (hw _ (List.mem_append_left _ (List.mem_map.mpr ⟨_, h1, rfl⟩))) (hw _ (by simp [zgwc])) (hw _ (by simp [zgwc])) (hw _ (by simp [zgwc])) (by omega) ?_ hcs hss hd (kk ls H locs hl hI)
          have := zsum_le ad r
          omega
        · by_cases h7 : k = 997
          · subst h7
            simp only [if_neg h9, if_neg h8, if_true, Bool.and_eq_true, decide_eq_true_eq, beq_iff_eq] at hm
            obtain ⟨⟨h1, h2⟩, rfl⟩ := hm
            obtain ⟨x1, y1, r, rfl, hr, rfl, rfl, rfl⟩ := zo_mm_e hs
            have hw : ∀ w, w ∈ zgwc → w.before args s = true := fun w hw => hts _ (zgw_at (by simp only [hw, true_or, or_true]))
            refine va_mmin hx hb hmls hown (hw _ (List.mem_append_right _ (List.mem_append_left _ (List.mem_map.mpr ⟨_, h1, rfl⟩)))) (hw _ (by simp [zgwc])) (hw _ (by simp [zgwc])) (hw _ (by simp [zgwc])) (by omega) ?_ hcs hss hd (kk ls H locs hl hI)
            have := zsum_le ad r
            omega
          · exfalso
            simp only [zst, if_neg h9, if_neg h8, if_neg h7] at hs
            cases hs
    · cases hm
  | _ => exact absurd hs (by simp [zst])
theorem nt0 : mwN .int := fun _ _ h => h
theorem nt2 : mwN .long := fun _ _ h => h
set_option maxHeartbeats 4000000 in
set_option maxRecDepth 100000 in
theorem z_new {i o : Instr} {len pc : Nat} {L : zL} {st : List Value} {σ σ' : zS} {ls : Array Slot} {H : Heap} {locs : List Loc} (C : zCx pg R s m args c cells slots ad cy D A sc mt) (hA : ∀ q, s.heap.size ≤ q → A q) (hc1 : cells + 40 ≤ R.cells + sc.2.2) (hc2 : slots + 1600 ≤ R.slots + 40 * sc.2.2) (hd : decode (zcode mt) pc = .ok (o, len)) (hm : zcm mt (zown mt) pc i o len = true) (hs : znew sc mt i st σ = some σ') (hl : zlr ad ls (zml mt) L) (hI : zIn sc.2.2 ad cy D A s σ H locs)
    (kk : ∀ (q k : Nat) (H' : Heap), k ≤ 40 → zCx pg R s m args c (cells + 1) (slots + k) (zad ad (93 + sc.2.2) q) cy D A (zup sc) mt → zlr (zad ad (93 + sc.2.2) q) ls (zml mt) (L.map (zfg (93 + sc.2.2))) → zIn (zup sc).2.2 (zad ad (93 + sc.2.2) q) cy D A s σ' H' locs → W pg l e R s m args below meth c H' locs (cells + 1) (slots + k) Qw (F0 m (pc + len) ls ([Value.ref (93 + sc.2.2)].map (ztr (zad ad (93 + sc.2.2) q))))) : W pg l e R s m args below meth c H locs cells slots Qw (F0 m pc ls (st.map (ztr ad))) := by
  have C' := C
  obtain ⟨hx, hb, hml, hown, hts, hK, ⟨hX, hbl, hbA⟩, hfr, hlo, hcs, hss⟩ := C
  obtain ⟨hP, hD, hS⟩ := id hI
  cases i with
  | newarray ty =>
    simp only [zcm, Bool.and_eq_true, decide_eq_true_eq, beq_iff_eq] at hm
    obtain ⟨⟨rfl, h13⟩, rfl⟩ := hm
    simp only [znew] at hs
    split at hs
    · rename_i n
      split at hs
      · rename_i k m0 b0 hz
        obtain ⟨z1, z2, z3, z4, z5, z6⟩ := zar_some0 hz
        obtain ⟨z7, z8⟩ := z6 (by omega)
        have e134 : zad ad (93 + sc.2.2) = fun q x => if x = 93 + sc.2.2 then q else ad x := rfl
        have hw : ∀ w, w ∈ zgwd → w.before args s = true := fun w hw => hts _ (zgw_at (by simp only [hw, or_true]))
        have hnn : ¬ Int32.ofNat m0 < 0 := by
          rw [Int32.lt_iff_toInt_lt, Int32.toInt_ofNat_of_lt (by omega)]
          show ¬ ((m0 : Int) < 0)
          omega
        have hcl : (Int32.ofNat m0).toNatClampNeg = m0 := by
          rw [Int32.toNatClampNeg, Int32.toInt_ofNat_of_lt (by omega)]
          rfl
        have hCx : ∀ q, zCx pg R s m args c (cells + 1) (slots + m0) (zad ad (93 + sc.2.2) q) cy D A (zup sc) mt := fun q => ⟨hx, hb, hml, hown, hts, hK, by
          unfold zSt
          rw [zad_n (by omega)]
          exact ⟨hX, hbl, hbA⟩, hfr, hlo, by omega, by omega⟩
        split at hs
        · rename_i hk
          obtain ⟨-, rfl, rfl, rfl⟩ := hk
          cases hs
          refine nw_a (atype := .int) (ty := .int) (t0 := 0) (a0 := (m0, .inl (fun _ => 0))) hx hb (hw _ (show Cond.arrayClass .int ∈ zgwd from List.mem_cons_self)) rfl nt0 hK rfl hP hD hS hA (fun cA => rfl) hnn hcl (by show m0 * 4 ≤ 536870912; omega) (by omega) (by omega) hd (fun q H1 hP1 hD1 hS1 => ?_)
          have e1 : zw (zup sc).2.2 (zad ad (93 + sc.2.2) q) cy (zur σ (93 + sc.2.2) (fun _ => 0)) = zw sc.2.2 ad cy σ ++ [(q, .inl (cy 0, m0, .inl (fun _ => 0)))] := by
            show zw (sc.2.2 + 1) _ _ _ = _
            rw [zw_new (q := q) (e := .inl (cy 0, m0, .inl (fun _ => 0))) zad_p (by
              rw [ze_arr (c := sc.2.2 + 1) (q := 0) (n := m0) (b := b0) (by unfold zarc; rw [if_pos (by omega)]; exact hz), zrow_i (by omega)]
              simp [zur])]
            rw [zw_mv (σ := σ) (σ' := zur σ (93 + sc.2.2) (fun _ => 0)) rfl (fun a ha => if_neg (Nat.ne_of_lt ha)) (fun a ha => rfl)]
          refine kk q m0 H1 z8 (hCx q) (zlr_new hl) ⟨by rw [e1]; exact hP1, by rw [e1]; exact hD1, hS1⟩ |> fun z => ?_
          have e2 : ([Value.ref (93 + sc.2.2)].map (ztr (zad ad (93 + sc.2.2) q))) = [.ref q] := by
            simp [ztr, zad_p]
          rw [e2] at z
          exact z
        · split at hs
          · rename_i hk
            obtain ⟨-, rfl, rfl, rfl⟩ := hk
            cases hs
            refine nw_a (atype := .long) (ty := .long) (t0 := 2) (a0 := (m0, .inr (.inl (fun _ => 0)))) hx hb (hw _ (show Cond.arrayClass .long ∈ zgwd from List.mem_cons_of_mem _ List.mem_cons_self)) rfl nt2 hK rfl hP hD hS hA (fun cA => rfl) hnn hcl (by show m0 * 8 ≤ 536870912; omega) (by omega) (by omega) hd (fun q H1 hP1 hD1 hS1 => ?_)
            have e1 : zw (zup sc).2.2 (zad ad (93 + sc.2.2) q) cy (zul σ (93 + sc.2.2) (fun _ => 0)) = zw sc.2.2 ad cy σ ++ [(q, .inl (cy 2, m0, .inr (.inl (fun _ => 0))))] := by
              show zw (sc.2.2 + 1) _ _ _ = _
              rw [zw_new (q := q) (e := .inl (cy 2, m0, .inr (.inl (fun _ => 0)))) zad_p (by
                rw [ze_arr (c := sc.2.2 + 1) (q := 2) (n := m0) (b := b0) (by unfold zarc; rw [if_pos (by omega)]; exact hz), zrow_l]
                simp [zul])]
              rw [zw_mv (σ := σ) (σ' := zul σ (93 + sc.2.2) (fun _ => 0)) rfl (fun a ha => rfl) (fun a ha => if_neg (Nat.ne_of_lt ha))]
            refine kk q m0 H1 z8 (hCx q) (zlr_new hl) ⟨by rw [e1]; exact hP1, by rw [e1]; exact hD1, hS1⟩ |> fun z => ?_
            have e2 : ([Value.ref (93 + sc.2.2)].map (ztr (zad ad (93 + sc.2.2) q))) = [.ref q] := by
              simp [ztr, zad_p]
            rw [e2] at z
            exact z
          · cases hs
      · cases hs
    · cases hs
  | _ => exact absurd hs (by simp [znew])
end ZST
