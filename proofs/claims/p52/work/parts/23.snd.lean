/-! SOUNDNESS: what the pure machine answers, the machine answers -/
theorem zlk_look {mt : Nat} {pc : Int} {d' d x : Int} (hd : pc + d' = ((zpc0 mt d.toNat : Nat) : Int)) : ∀ (ps' ps : List (Int × Int)), ps'.map (fun e => (e.1, pc + e.2)) = ps.map (fun e => (e.1, ((zpc0 mt e.2.toNat : Nat) : Int))) → pc + Op.lookupswitch.offset ps' d' x = ((zpc0 mt (zlk ps d x).toNat : Nat) : Int)
  | [], [], _ => hd
  | [], _ :: _, h => by simp at h
  | _ :: _, [], h => by simp at h
  | (a, o) :: r', (k, t) :: r, h => by
    simp only [List.map_cons, List.cons.injEq, Prod.mk.injEq] at h
    obtain ⟨⟨rfl, h2⟩, h3⟩ := h
    rw [Op.lookupswitch.offset_cons]
    unfold zlk
    by_cases hx : a = x
    · rw [if_pos hx, if_pos hx.symm]
      exact h2
    · rw [if_neg hx, if_neg (fun q => hx q.symm)]
      exact zlk_look hd r' r h3
theorem zlk_spec {d x : Int} : ∀ ps : List (Int × Int), (∃ (j : Nat) (e : Int × Int), ps[j]? = some e ∧ e.1 = x ∧ zlk ps d x = e.2) ∨ ((∀ (j : Nat) (e : Int × Int), ps[j]? = some e → e.1 ≠ x) ∧ zlk ps d x = d)
  | [] => Or.inr ⟨fun j e h => by simp at h, rfl⟩
  | (k, o) :: r => by
    unfold zlk
    by_cases hx : x = k
    · rw [if_pos hx]
      exact Or.inl ⟨0, (k, o), rfl, hx.symm, rfl⟩
    · rw [if_neg hx]
      rcases zlk_spec (d := d) (x := x) r with ⟨j, e, h1, h2, h3⟩ | ⟨h1, h2⟩
      · exact Or.inl ⟨j + 1, e, by simpa using h1, h2, h3⟩
      · refine Or.inr ⟨fun j e h => ?_, h2⟩
        cases j with
        | zero =>
          simp at h
          subst h
          exact fun q => hx q.symm
        | succ j => exact h1 j e (by simpa using h)
section ZSN
variable {pg : Program} {l : Launch} {e : Env} {R : Room} {s : State} {m : MethodId} {args : Array Value} {below : List Frame} {meth : Method} {c : Code} {cells slots : Nat} {Qw : State → Prop}
variable {ad : Nat → Nat} {cy : Nat → ClassId} {D : va_G} {A : Nat → Prop} {sc : zX} {mt : Nat}
set_option maxHeartbeats 4000000 in
set_option maxRecDepth 100000 in
theorem z_jump {i o : Instr} {len pc : Nat} {L : zL} {st st' : List Value} {σ : zS} {ls : Array Slot} {H : Heap} {locs : List Loc} {t : Option Nat} (C : zCx pg R s m args c cells slots ad cy D A sc mt) (hd : decode (zcode mt) pc = .ok (o, len)) (hm : zcm mt (zown mt) pc i o len = true) (hj : zjmp mt i st σ = some (.inl (st', t)))
    (kt : ∀ b : Nat, t = some b → W pg l e R s m args below meth c H locs cells slots Qw (F0 m (zpc0 mt b) ls (st'.map (ztr ad)))) (kn : t = none → W pg l e R s m args below meth c H locs cells slots Qw (F0 m (pc + len) ls (st'.map (ztr ad)))) : W pg l e R s m args below meth c H locs cells slots Qw (F0 m pc ls (st.map (ztr ad))) := by
  obtain ⟨hx, hb, -⟩ := C
  cases i with
  | goto t0 =>
    change some (Sum.inl (st, some t0.toNat)) = _ at hj
    cases hj
    simp only [zcm] at hm
    split at hm
    · simp only [Bool.and_eq_true, decide_eq_true_eq, beq_iff_eq] at hm
      obtain ⟨h1, rfl⟩ := hm
      exact lv_goto hx hb hd h1 (kt _ rfl)
    · cases hm
  | ifCond cc t0 =>
    simp only [zjmp] at hj
    split at hj
    · rename_i x r
      cases hj
      simp only [zcm] at hm
      split at hm
      · simp only [Bool.and_eq_true, decide_eq_true_eq, beq_iff_eq] at hm
        obtain ⟨⟨rfl, h1⟩, rfl⟩ := hm
        rename_i c' off
        cases c' with
        | eq => exact lv_if_eq hx hb hd h1 (fun h => kt _ (if_pos (by simp [zc1, h]))) (fun h => kn (if_neg (by simp [zc1, h])))
        | ne => exact lv_if_ne hx hb hd h1 (fun h => kt _ (if_pos (by simp [zc1, h]))) (fun h => kn (if_neg (by simp [zc1, h])))
        | lt => exact lv_if_lt hx hb hd h1 (fun h => kt _ (if_pos (by simp [zc1, h]))) (fun h => kn (if_neg (by simp [zc1, h])))
        | ge => exact lv_if_ge hx hb hd h1 (fun h => kt _ (if_pos (by simp [zc1, h]))) (fun h => kn (if_neg (by simp [zc1, h])))
        | gt => exact lv_if_gt hx hb hd h1 (fun h => kt _ (if_pos (by simp [zc1, h]))) (fun h => kn (if_neg (by simp [zc1, h])))
        | le => exact lv_if_le hx hb hd h1 (fun h => kt _ (if_pos (by simp [zc1, h]))) (fun h => kn (if_neg (by simp [zc1, h])))
      · cases hm
    · cases hj
  | if_icmp cc t0 =>
    simp only [zjmp] at hj
    split at hj
    · rename_i y x r
      cases hj
      simp only [zcm] at hm
      split at hm
      · simp only [Bool.and_eq_true, decide_eq_true_eq, beq_iff_eq] at hm
        obtain ⟨⟨rfl, h1⟩, rfl⟩ := hm
        rename_i c' off
        cases c' with
        | eq => exact lv_icmp_eq hx hb hd h1 (fun h => kt _ (if_pos (by simp [zc2, h]))) (fun h => kn (if_neg (by simp [zc2, h])))
        | ne => exact lv_icmp_ne hx hb hd h1 (fun h => kt _ (if_pos (by simp [zc2, h]))) (fun h => kn (if_neg (by simp [zc2, h])))
        | lt => exact lv_icmp_lt hx hb hd h1 (fun h => kt _ (if_pos (by simp [zc2, h]))) (fun h => kn (if_neg (by simp [zc2, h])))
        | ge => exact lv_icmp_ge hx hb hd h1 (fun h => kt _ (if_pos (by simp [zc2, h]))) (fun h => kn (if_neg (by simp [zc2, h])))
        | gt => exact lv_icmp_gt hx hb hd h1 (fun h => kt _ (if_pos (by simp [zc2, h]))) (fun h => kn (if_neg (by simp [zc2, h])))
        | le => exact lv_icmp_le hx hb hd h1 (fun h => kt _ (if_pos (by simp [zc2, h]))) (fun h => kn (if_neg (by simp [zc2, h])))
      · cases hm
    · cases hj
  | lookupswitch d ps =>
    simp only [zjmp] at hj
    split at hj
    · rename_i x r
      cases hj
      simp only [zcm] at hm
      split at hm
      · simp only [Bool.and_eq_true, decide_eq_true_eq] at hm
        obtain ⟨⟨h1, h2⟩, h3⟩ := hm
        exact lv_lookup hx hb hd h2 rfl (zlk_look h1 _ _ h3) (kt _ rfl)
      · rename_i d' lo hi offs
        simp only [Bool.and_eq_true, decide_eq_true_eq] at hm
        obtain ⟨⟨⟨h1, h2⟩, h3⟩, h4⟩ := hm
        have h5 : ∀ j, j < offs.size → ∃ e off, ps.toList[j]? = some e ∧ offs[j]? = some off ∧ e.1 = lo + (j : Int) ∧ (pc : Int) + off = ((zpc0 mt e.2.toNat : Nat) : Int) := fun j hj => by
          have := List.all_eq_true.mp h4 j (List.mem_range.mpr hj)
          split at this
          · rename_i e off e1 e2
            simp only [Bool.and_eq_true, decide_eq_true_eq] at this
            exact ⟨e, off, e1, e2, this.1, this.2⟩
          · cases this
        have hsz : ps.toList.length = offs.size := by rw [Array.length_toList]; exact h3
        rcases zlk_spec (d := d) (x := x.toInt) ps.toList with ⟨j, e, e1, e2, e3⟩ | ⟨e1, e2⟩
        · have hj : j < offs.size := by
            have := (List.getElem?_eq_some_iff.mp e1).1
            omega
          obtain ⟨e', off, f1, f2, f3, f4⟩ := h5 j hj
          rw [e1] at f1
          cases f1
          refine lv_tableIn (off := off) hx hb hd (by omega) (by omega) ?_ f4 (kt _ (by rw [e3]))
          rw [show (x.toInt - lo).toNat = j by omega]
          exact f2
        · refine lv_tableOut hx hb hd ?_ h1 (kt _ (by rw [e2]))
          by_cases ha : x.toInt < lo
          · exact Or.inl ha
          · by_cases hb' : hi < x.toInt
            · exact Or.inr hb'
            · exfalso
              obtain ⟨e', off, f1, -, f3, -⟩ := h5 (x.toInt - lo).toNat (by omega)
              exact e1 _ _ f1 (by omega)
      · cases hm
    · cases hj
  | ireturn =>
    simp only [zjmp] at hj
    split at hj
    · split at hj
      · simp at hj
      · simp at hj
    · simp at hj
  | lreturn =>
    simp only [zjmp] at hj
    split at hj
    · split at hj
      · simp at hj
      · simp at hj
    · simp at hj
  | return_ =>
    simp only [zjmp] at hj
    split at hj
    · split at hj
      · simp at hj
      · simp at hj
    · simp at hj
  | _ => exact absurd hj (by simp [zjmp])
end ZSN
/-- the return instruction that r comes by -/
def zEx (mt : Nat) (r : Option Value) (pc : Nat) : Prop := match r with
  | some (.int v) => decode (zcode mt) pc = .ok (.ireturn, 1) ∧ (zret mt = some .int ∨ zret mt = some .boolean ∧ (v = 0 ∨ v = 1))
  | some (.long _) => decode (zcode mt) pc = .ok (.lreturn, 1) ∧ zret mt = some .long
  | none => decode (zcode mt) pc = .ok (.return_, 1) ∧ zret mt = none
  | _ => False
theorem z_ret {mt pc len : Nat} {i o : Instr} {st : List Value} {σ σ' : zS} {r : Option Value} (hd : decode (zcode mt) pc = .ok (o, len)) (hm : zcm mt (zown mt) pc i o len = true) (hj : zjmp mt i st σ = some (.inr (r, σ'))) : σ' = σ ∧ st = r.toList ∧ zEx mt r pc := by
  cases i with
  | ireturn =>
    simp only [zjmp] at hj
    split at hj
    · split at hj
      · rename_i h
        cases hj
        obtain ⟨rfl, rfl⟩ := z_one hm
        exact ⟨rfl, rfl, hd, h⟩
      · cases hj
    · cases hj
  | lreturn =>
    simp only [zjmp] at hj
    split at hj
    · split at hj
      · rename_i h
        cases hj
        obtain ⟨rfl, rfl⟩ := z_one hm
        exact ⟨rfl, rfl, hd, h⟩
      · cases hj
    · cases hj
  | return_ =>
    simp only [zjmp] at hj
    split at hj
    · split at hj
      · rename_i h
        cases hj
        obtain ⟨rfl, rfl⟩ := z_one hm
        exact ⟨rfl, rfl, hd, h⟩
      · cases hj
    · cases hj
  | goto t => cases hj
  | ifCond c t =>
    simp only [zjmp] at hj
    split at hj <;> cases hj
  | if_icmp c t =>
    simp only [zjmp] at hj
    split at hj <;> cases hj
  | lookupswitch d ps =>
    simp only [zjmp] at hj
    split at hj <;> cases hj
  | _ => exact absurd hj (by simp [zjmp])
/-! a method's contract -/
def zA (nc : Nat) (ad : Nat → Nat) : Nat → Prop := fun q => ∃ k, zlv nc k ∧ q = ad k
def zB (ad : Nat → Nat) (cy : Nat → ClassId) (D : va_G) (sc : zX) (σ : zS) (U : State) : Prop := va_P D vwCl (zw sc.2.2 ad cy σ) U.heap ∧ va_K D vwCl (ztys cy) U ∧ va_D (zA sc.2.2 ad) (zw sc.2.2 ad cy σ) ∧ zSt ad sc (zA sc.2.2 ad) U U.heap
def zPc (ad : Nat → Nat) (cy : Nat → ClassId) (D : va_G) (sc : zX) (as : List Value) (σ : zS) : Array Value → State → Prop := va_Pc (as.map (ztr ad)) (zB ad cy D sc σ)
def zwd (k : Nat) : List Jvm.Cond := .code (zname k) (zcode k) (zml k) (zret k) :: zgw
def zrm (k : Nat) : Room := { frames := zdep k, cells := 0, slots := 0, locals := 35 * zdep k }
def zPo (nc : Nat) (ad : Nat → Nat) (cy : Nat → ClassId) (D : va_G) (u : zS) (t : State) : Prop := va_P D vwCl (zw nc ad cy u) t.heap
def zQc (nc : Nat) (ad : Nat → Nat) (cy : Nat → ClassId) (D : va_G) (r : Option Value) (σ' : zS) : Array Value → State → Outcome → State → Prop := match r with
  | some (.int v) => va_Qi (fun (r : Int32) (u : zS) => r = v ∧ u = σ') (zPo nc ad cy D) (zA nc ad)
  | some (.long v) => va_Ql (fun (r : Int64) (u : zS) => r = v ∧ u = σ') (zPo nc ad cy D) (zA nc ad)
  | none => va_Qv (fun (u : zS) => u = σ') (zPo nc ad cy D) (zA nc ad)
  | _ => fun _ _ _ _ => False
theorem zw_ad {nc : Nat} {ad : Nat → Nat} {cy : Nat → ClassId} {σ : zS} {k : Nat} {q : Nat × va_E} (h : (zw nc ad cy σ)[k]? = some q) : k < 92 + nc ∧ q.1 = ad (zun k) := by
  by_cases hk : k < 92 + nc
  · rw [zw_atu hk] at h
    cases h
    exact ⟨hk, rfl⟩
  · rw [List.getElem?_eq_none (by rw [zw_len]; omega)] at h
    cases h
theorem zD_sub {nc : Nat} {ad : Nat → Nat} {cy : Nat → ClassId} {σ : zS} {A : Nat → Prop} (h : va_D A (zw nc ad cy σ)) : ∀ q, zA nc ad q → A q := fun q ⟨k, hk, e⟩ => by
  rw [e]
  exact h.2 (zix k) _ (zw_at hk)
theorem zD_to {nc : Nat} {ad : Nat → Nat} {cy : Nat → ClassId} {σ σ' : zS} {A B : Nat → Prop} (h : va_D A (zw nc ad cy σ)) (hB : ∀ q, zA nc ad q → B q) : va_D B (zw nc ad cy σ') := by
  refine ⟨fun i j p q hp hq hpq => ?_, fun k q hq => ?_⟩
  · obtain ⟨h1, h2⟩ := zw_ad hp
    obtain ⟨h3, h4⟩ := zw_ad hq
    exact h.1 i j _ _ (zw_atu h1) (zw_atu h3) (by show ad (zun i) = ad (zun j); rw [← h2, ← h4, hpq])
  · obtain ⟨h1, h2⟩ := zw_ad hq
    rw [h2]
    exact hB _ ⟨zun k, (zun_lv h1).1, rfl⟩
theorem zSt_to {ad : Nat → Nat} {sc : zX} {A B : Nat → Prop} {s U : State} {H : Heap} {locs : List Loc} (h : zSt ad sc A s s.heap) (hS : va_S A s.heap H locs) (hvm : s.vm.Alike U.vm) (hB : ∀ q, B q → A q) (hU : U.heap = H) : zSt ad sc B U U.heap := by
  obtain ⟨hX, hbl, hbA⟩ := h
  rw [hU]
  have hq : ∀ a : Nat, a < s.heap.size → ¬ A a → H[a]? = s.heap[a]? := fun a h1 h2 => hS.2.1 a h1 h2
  exact ⟨(hX.kept (hq _ hbl hbA)).moved hvm, Nat.lt_of_lt_of_le hbl hS.1, fun z => hbA (hB _ z)⟩
theorem zB_blind {ad : Nat → Nat} {cy : Nat → ClassId} {D : va_G} {sc : zX} {as : List Value} {σ : zS} : FrameBlind (zPc ad cy D sc as σ) := fun a U g mk q => by
  obtain ⟨q1, qP, qK, qD, qX, qb, qA⟩ := q
  have hv : U.vm.Alike (U.calling g mk a).vm := Vm.Alike.refl U.vm
  exact ⟨q1, qP, va_K.moved (u := U) (U := U.calling g mk a) hv qK, qD, va_X.moved (u := U) (U := U.calling g mk a) hv qX, qb, qA⟩
theorem zsl_sl (ad : Nat → Nat) : ∀ (as : List Value) (i : Nat) (v : Value), (zsl as)[i]? = some (some v) → (lg_sl (as.map (ztr ad)))[i]? = some (.val (ztr ad v))
  | [], i, v, h => by simp [zsl] at h
  | a :: as, i, v, h => by
    have ih := zsl_sl ad as
    unfold zsl lg_sl at *
    simp only [List.map_cons, List.flatMap_cons, ztr_cat] at h ⊢
    by_cases hc : a.category = 2
    · simp only [hc, if_true] at h ⊢
      match i, h with
      | 0, h =>
        simp at h
        subst h
        rfl
      | 1, h => simp at h
      | i + 2, h =>
        simp only [List.cons_append, List.nil_append, List.getElem?_cons_succ] at h ⊢
        exact ih i v h
    · simp only [hc, if_false] at h ⊢
      match i, h with
      | 0, h =>
        simp at h
        subst h
        rfl
      | i + 1, h =>
        simp only [List.cons_append, List.nil_append, List.getElem?_cons_succ] at h ⊢
        exact ih i v h
theorem zsl_len (ad : Nat → Nat) : ∀ as : List Value, (lg_sl (as.map (ztr ad))).length = (zsl as).length
  | [] => rfl
  | a :: as => by
    have ih := zsl_len ad as
    unfold zsl lg_sl at *
    simp only [List.map_cons, List.flatMap_cons, ztr_cat, List.length_append, ih]
    by_cases hc : a.category = 2
    · simp [hc]
    · simp [hc]
theorem zlr_entry {ad : Nat → Nat} {mt : Nat} {as : List Value} (h : (zsl as).length ≤ zml mt) : zlr ad (lg_sl (as.map (ztr ad)) ++ List.replicate (zml mt - (lg_sl (as.map (ztr ad))).length) Slot.unset).toArray (zml mt) (zini mt as) := by
  have hh := lv_entry (as.map (ztr ad)) (n := zml mt) (by rw [zsl_len]; exact h)
  refine ⟨hh.1, hh.2.1, ?_, fun i v hv => ?_⟩
  · unfold zini
    rw [List.length_append, List.length_replicate]
    omega
  · have hi : (zini mt as)[i]? = some (some v) := by
      unfold zld at hv
      cases ho : (zini mt as)[i]? with
      | none => rw [ho] at hv; cases hv
      | some o =>
        rw [ho] at hv
        cases o with
        | none => cases hv
        | some w => cases hv; rfl
    unfold zini at hi
    by_cases hl : i < (zsl as).length
    · rw [List.getElem?_append_left hl] at hi
      have := zsl_sl ad as i v hi
      rw [List.getElem?_toArray, List.getElem?_append_left (by rw [zsl_len]; exact hl)]
      exact this
    · rw [List.getElem?_append_right (Nat.not_lt.mp hl)] at hi
      have := List.eq_of_mem_replicate (List.mem_of_getElem? hi)
      cases this
theorem z_notlaw : ∀ k ∈ zvm ++ zsm, k ≠ zLAW := by decide +kernel
/-- all that z_W says, at one fuel -/
def zWs (sc : zX) (l : Launch) (f : Nat) : Prop := ∀ (mt : Nat), mt ≠ zLAW → ∀ (is : List Instr) (ps : List Nat) (nb : Nat) (L : zL) (st : List Value) (σ : zS) (r : Option Value) (σ' : zS), zrun sc f mt is nb L st σ = some (r, σ') → zchkB mt is ps nb = true →
  ∀ (pg : Program) (e : Env) (R : Room) (s : State) (m : MethodId) (args : Array Value) (below : List Frame) (meth : Method) (c : Code) (cells slots : Nat) (Qw : State → Prop) (ad : Nat → Nat) (cy : Nat → ClassId) (D : va_G) (A : Nat → Prop) (ls : Array Slot) (H : Heap) (locs : List Loc),
    zCx pg R s m args c cells slots ad cy D A sc mt → zlr ad ls (zml mt) L → zIn sc.2.2 ad cy D A s σ H locs →
    (∀ (H' : Heap) (locs' : List Loc) (ls' : Array Slot) (pc' : Nat), zIn sc.2.2 ad cy D A s σ' H' locs' → zEx mt r pc' → W pg l e R s m args below meth c H' locs' cells slots Qw (F0 m pc' ls' (r.toList.map (ztr ad)))) →
    W pg l e R s m args below meth c H locs cells slots Qw (F0 m (ps.headD 0) ls (st.map (ztr ad)))
set_option maxHeartbeats 4000000 in
set_option maxRecDepth 100000 in
theorem z_met {sc : zX} {l : Launch} {f : Nat} (hW : zWs sc l f) {k : Nat} (hkm : k ∈ zvm ++ zsm) {as : List Value} {σ σ' : zS} {r : Option Value} (hl : (zsl as).length ≤ zml k) (hr : zrun sc f k (zblk k 0) 1 (zini k as) [] σ = some (r, σ')) (ad : Nat → Nat) (cy : Nat → ClassId) (D : va_G) :
    Met l (zname k) (zwd k) (zrm k) (zPc ad cy D sc as σ) (zQc sc.2.2 ad cy D r σ') 0 0 (zA sc.2.2 ad) := by
  have hk := zmOK_all k hkm
  unfold zmOK at hk
  simp only [Bool.and_eq_true, decide_eq_true_eq] at hk
  obtain ⟨⟨⟨⟨⟨k1, k2⟩, k3⟩, k4⟩, k5⟩, k6⟩ := hk
  refine Met.ofW (cc := zcode k) (maxL := zml k) (ret := zret k) k1 rfl ?_
  intro p e s m args below meth c s₁ B hml hv
  obtain ⟨rfl, hP, hK, hD, hSt⟩ := hv
  have hts := atoms_spec (ws := zwd k) B.pre
  have hown : s.vm.findClass (zR (zown k)) = some m.cls := by
    rw [← k5]
    exact findClass_of_methodNamed B.named
  have hlocks := B.notSynchronized
  have hrt := B.returns
  rw [lg_entry_eq]
  have hpc : (zpcs k 0).headD 0 = 0 := zk0 k hkm
  have key := hW k (z_notlaw k hkm) (zblk k 0) (zpcs k 0) 1 (zini k as) [] σ r σ' hr (zchk_one (zk_all k) 0) p e (zrm k) s m (as.map (ztr ad)).toArray below meth c 0 0 (MQ below (zQc sc.2.2 ad cy D r σ') (as.map (ztr ad)).toArray s 0 0 (zA sc.2.2 ad)) ad cy D (zA sc.2.2 ad) _ s.heap []
    ⟨B.exec, B.bytes, hml, hown, fun w hw => hts w (List.mem_cons_of_mem _ hw), hK, hSt, Nat.le_refl _, Nat.le_refl _, Nat.le_refl _, Nat.le_refl _⟩ (zlr_entry hl) ⟨hP, hD, va_S.rf⟩ ?_
  · rw [hpc] at key
    exact key
  · intro H' locs' ls' pc' hI' hE
    obtain ⟨hP', hD', hS'⟩ := hI'
    match r, hE with
    | some (.int v), hE =>
      obtain ⟨hd, hE⟩ := hE
      rcases hE with hE | ⟨hE, hv⟩
      · exact W.iret B.exec B.bytes (by rw [hrt, hE]) (fun t ht hw => ⟨⟨v, σ', rfl, ⟨rfl, rfl⟩, by unfold zPo; rw [ht]; exact hP'⟩, hS'.F ht⟩) hS'.2.2 hd hlocks
      · exact W.zret B.exec B.bytes (by rw [hrt, hE]) (by rcases hv with rfl | rfl <;> first | exact narrow_b0 | exact narrow_b1) (fun t ht hw => ⟨⟨v, σ', rfl, ⟨rfl, rfl⟩, by unfold zPo; rw [ht]; exact hP'⟩, hS'.F ht⟩) hS'.2.2 hd hlocks
    | some (.long v), hE =>
      obtain ⟨hd, hE⟩ := hE
      exact W.lret B.exec B.bytes (by rw [hrt, hE]) (fun t ht hw => ⟨⟨v, σ', rfl, ⟨rfl, rfl⟩, by unfold zPo; rw [ht]; exact hP'⟩, hS'.F ht⟩) hS'.2.2 hd hlocks
    | none, hE =>
      obtain ⟨hd, hE⟩ := hE
      exact W.vret B.exec B.bytes (by rw [hrt, hE]) (fun t ht hw => ⟨⟨σ', rfl, rfl, by unfold zPo; rw [ht]; exact hP'⟩, hS'.F ht⟩) hS'.2.2 hd hlocks
    | some (.ref _), hE => exact hE.elim
    | some .null, hE => exact hE.elim
    | some (.float _), hE => exact hE.elim
    | some (.double _), hE => exact hE.elim
    | some (.retAddr _), hE => exact hE.elim
theorem z_init {k : Nat} (h : k ∈ zvm ++ zsm) : Cond.initialized (zname k).cls ∈ zgw ∧ Cond.code (zname k) (zcode k) (zml k) (zret k) ∈ zgw := by
  have h1 := zmOK_all k h
  unfold zmOK at h1
  simp only [Bool.and_eq_true, decide_eq_true_eq] at h1
  refine ⟨zgw_at ?_, zgw_at ?_⟩
  · have : Cond.initialized (zname k).cls ∈ zgw8 := by
      rw [h1.1.2]
      exact List.mem_map.mpr ⟨zown k, List.mem_range.mpr (zown_lt k h), rfl⟩
    simp only [this, true_or, or_true]
  · have : Cond.code (zname k) (zcode k) (zml k) (zret k) ∈ zgw7 := by
      rw [zgw7_eq]
      exact List.mem_map.mpr ⟨k, h, rfl⟩
    simp only [this, true_or, or_true]
theorem z_good {k : Nat} (h : k ∈ zvm ++ zsm) : GoodIn zgw (zwd k) := by
  intro w hw
  rcases List.mem_cons.mp hw with rfl | hw
  · have := (z_init h).2
    exact ⟨this, (zgw_in _ this).2⟩
  · exact ⟨hw, (zgw_in _ hw).2⟩
