/-! every run of the pure machine is a run of the machine -/
theorem zrun_res0 : ∀ (f : Nat) (sc : zX) (mt : Nat) (is : List Instr) (nb : Nat) (L : zL) (st : List Value) (σ : zS) (r : Option Value) (σ' : zS), zrun sc f mt is nb L st σ = some (r, σ') → (∃ v, r = some (.int v)) ∨ (∃ v, r = some (.long v)) ∨ r = none := by
  intro f
  induction f with
  | zero => intro sc mt is nb L st σ r σ' h; simp [zrun] at h
  | succ f ih =>
    intro sc mt is nb L st σ r σ' h
    cases is with
    | nil => rw [zrun] at h; exact ih _ _ _ _ _ _ _ _ _ h
    | cons i is =>
      rw [zrun] at h
      cases hc : zcal i st with
      | some q =>
        obtain ⟨k, as, rest⟩ := q
        simp only [hc] at h
        split at h
        · cases hr : zrun sc f k (zblk k 0) 1 (zini k as) [] σ with
          | none => simp [hr] at h
          | some y =>
            obtain ⟨r1, σ1⟩ := y
            simp only [hr] at h
            exact ih _ _ _ _ _ _ _ _ _ h
        · cases h
      | none =>
        simp only [hc] at h
        cases hj : zjmp mt i st σ with
        | some q =>
          simp only [hj] at h
          match q, h, hj with
          | .inl (st', some t), h, hj => exact ih _ _ _ _ _ _ _ _ _ h
          | .inl (st', none), h, hj => exact ih _ _ _ _ _ _ _ _ _ h
          | .inr x', h, hj =>
            cases h
            cases i with
            | ireturn =>
              simp only [zjmp] at hj
              split at hj
              · split at hj
                · cases hj
                  exact Or.inl ⟨_, rfl⟩
                · cases hj
              · cases hj
            | lreturn =>
              simp only [zjmp] at hj
              split at hj
              · split at hj
                · cases hj
                  exact Or.inr (Or.inl ⟨_, rfl⟩)
                · cases hj
              · cases hj
            | return_ =>
              simp only [zjmp] at hj
              split at hj
              · split at hj
                · cases hj
                  exact Or.inr (Or.inr rfl)
                · cases hj
              · cases hj
            | goto t => cases hj
            | ifCond c t =>
              simp only [zjmp] at hj
              split at hj <;> cases hj
            | if_icmp c t =>
              simp only [zjmp] at hj
              split at hj <;> cases hj
            | lookupswitch d ps =>
              simp only [zjmp] at hj
              split at hj <;> cases hj
            | _ => exact absurd hj (by simp [zjmp])
        | none =>
          simp only [hj] at h
          cases hs : zst sc i L st σ with
          | none =>
            simp only [hs] at h
            cases hn : znew sc mt i st σ with
            | none => simp [hn] at h
            | some σ1 =>
              simp only [hn] at h
              exact ih _ _ _ _ _ _ _ _ _ h
          | some q =>
            obtain ⟨L', st', σ1⟩ := q
            simp only [hs] at h
            exact ih _ _ _ _ _ _ _ _ _ h
theorem zrun_res (sc : zX) (f mt : Nat) (is : List Instr) (nb : Nat) (L : zL) (st : List Value) (σ : zS) (r : Option Value) (σ' : zS) (h : zrun sc f mt is nb L st σ = some (r, σ')) : (∃ v, r = some (.int v)) ∨ (∃ v, r = some (.long v)) ∨ r = none := zrun_res0 f sc mt is nb L st σ r σ' h
section ZCA
variable {pg : Program} {l : Launch} {e : Env} {R : Room} {s : State} {m : MethodId} {args : Array Value} {below : List Frame} {meth : Method} {c : Code} {cells slots : Nat} {Qw : State → Prop}
variable {ad : Nat → Nat} {cy : Nat → ClassId} {D : va_G} {A : Nat → Prop} {sc : zX} {mt : Nat}
theorem zst_split {st : List Value} {n a : Nat} (h : st[n]? = some (.ref a)) : st.map (ztr ad) = (((st.take n).reverse).map (ztr ad)).reverse ++ .ref (ad a) :: (st.drop (n + 1)).map (ztr ad) := by
  have h1 : st = st.take n ++ .ref a :: st.drop (n + 1) := by
    have hn := (List.getElem?_eq_some_iff.mp h)
    obtain ⟨hn1, hn2⟩ := hn
    rw [← hn2]
    exact (List.take_append_drop n st).symm.trans (by rw [List.drop_eq_getElem_cons hn1])
  conv => lhs; rw [h1]
  rw [List.map_append, List.map_cons, List.map_reverse, List.reverse_reverse]
  rfl
theorem zst_split0 {st : List Value} {n : Nat} : st.map (ztr ad) = (((st.take n).reverse).map (ztr ad)).reverse ++ (st.drop n).map (ztr ad) := by
  rw [List.map_reverse, List.reverse_reverse, ← List.map_append, List.take_append_drop]
set_option maxHeartbeats 4000000 in
set_option maxRecDepth 100000 in
theorem z_call {f : Nat} (hW : zWs sc l f) {i o : Instr} {len pc k : Nat} {L : zL} {st as rest : List Value} {σ σ1 : zS} {r1 : Option Value} {ls : Array Slot} {H : Heap} {locs : List Loc} (C : zCx pg R s m args c cells slots ad cy D A sc mt) (hd : decode (zcode mt) pc = .ok (o, len)) (hm : zcm mt (zown mt) pc i o len = true) (hc : zcal i st = some (k, as, rest)) (hlen : (zsl as).length ≤ zml k) (hr1 : zrun sc f k (zblk k 0) 1 (zini k as) [] σ = some (r1, σ1)) (hl : zlr ad ls (zml mt) L) (hI : zIn sc.2.2 ad cy D A s σ H locs)
    (kk : ∀ (H' : Heap) (locs' : List Loc), zIn sc.2.2 ad cy D A s σ1 H' locs' → W pg l e R s m args below meth c H' locs' cells slots Qw (F0 m (pc + len) ls ((r1.toList ++ rest).map (ztr ad)))) : W pg l e R s m args below meth c H locs cells slots Qw (F0 m pc ls (st.map (ztr ad))) := by
  obtain ⟨hx, hb, hml, hown, hts, hK, hSt, hfr, hlo, hcs, hss⟩ := C
  obtain ⟨hP, hD, hS⟩ := id hI
  have hpre : ∀ U : State, U.heap = H → s.WarmedH U.vm → zB ad cy D sc σ U := fun U hU hWm => ⟨by rw [hU]; exact hP, va_K.moved hWm.alike hK, zD_to hD (fun q h => h), zSt_to hSt hS hWm.alike (zD_sub hD) hU⟩
  have hback : ∀ (t : State) (H1 : Heap) (locs1 : List Loc), t.heap = H1 → zPo sc.2.2 ad cy D σ1 t → va_S A s.heap H1 locs1 → zIn sc.2.2 ad cy D A s σ1 H1 locs1 := fun t H1 locs1 ht hB hS1 => ⟨by unfold zPo at hB; rw [ht] at hB; exact hB, zD_to hD (zD_sub hD), hS1⟩
  have hA1 : ∀ q, q < H.size → zA sc.2.2 ad q → A q := fun q _ h => zD_sub hD q h
  have hf1 : ∀ q, zA sc.2.2 ad q → A q := zD_sub hD
  cases i with
  | invokevirtual k0 =>
    simp only [zcal] at hc
    split at hc
    · rename_i hcond
      obtain ⟨hrec, hk13, hr4⟩ := hcond
      cases hc
      simp only [zcm] at hm
      split at hm
      · simp only [Bool.and_eq_true, decide_eq_true_eq, beq_iff_eq] at hm
        obtain ⟨⟨h1, h2⟩, rfl⟩ := hm
        rename_i x
        have hkv := (zmv_ok _ h1).1
        dsimp only at hkv
        have hkm : k ∈ zvm ++ zsm := List.mem_append_left _ hkv
        have hM := z_met hW hkm hlen hr1 ad cy D
        have hmk := zmOK_all k hkm
        unfold zmOK at hmk
        simp only [Bool.and_eq_true, decide_eq_true_eq] at hmk
        obtain ⟨⟨⟨⟨⟨k1, k2⟩, k3⟩, k4⟩, k5⟩, k6⟩ := hmk
        have hcw : CallW R s args (zR (zown mt)) (zname k).cls x (zname k) (zcode k) (zml k) (zret k) (zwd k) (zrm k) 0 0 (znp k) :=
          ⟨⟨rfl, rfl, by show zdep k + 1 ≤ R.frames; omega, by show 8 + (zml k + 11) + 35 * zdep k ≤ R.locals; omega, pay_in hts (z_good hkm), List.mem_cons_self, hts _ (z_init hkm).2, hts _ (z_init hkm).1, ⟨k2, k3⟩, fun sig h => by
            rw [h] at k4
            exact (Option.some.inj k4).symm, hts _ (zgw_at (by
              have : Cond.methodLink (zR (zown mt)) x (zname k) ∈ zgw2 := List.mem_map.mpr ⟨_, h1, rfl⟩
              simp only [this, true_or, or_true]))⟩, hts _ (zgw_at (by
              have : Cond.instanceMethod (zname k) ∈ zgw4 := List.mem_map.mpr ⟨_, hkv, rfl⟩
              simp only [this, true_or, or_true])), hts _ (zgw_at (by
              have : Cond.selects (zname k).cls (zname k) (zname k) ∈ zgw5 := List.mem_map.mpr ⟨_, hkv, rfl⟩
              simp only [this, true_or, or_true]))⟩
        have hcl : (zCl (zown k)).1 = (zname k).cls := by rw [zCl_R _ hk13, k5]
        have hrv : ∃ cell : Cell, H[ad (zown k)]? = some cell ∧ cell.vm.isStatics = false ∧ s.vm.findClass (zname k).cls = some cell.cls := by
          rw [← hcl]
          exact va_recv hK hP (zCl_at _ hk13) (by rw [zw_at (k := zown k) (Or.inl hk13), ze_obj hk13])
        have hp : PreV s H (zname k).cls (ad (zown k)) (zPc ad cy D sc (.ref (zown k) :: (st.take (znp k)).reverse) σ) (((st.take (znp k)).reverse).map (ztr ad)) := ⟨zB_blind, hrv, fun U hU hWm => ⟨rfl, hpre U hU hWm⟩⟩
        have hnl : (((st.take (znp k)).reverse).map (ztr ad)).length = znp k := by
          have := (List.getElem?_eq_some_iff.mp hrec).1
          simp
          omega
        have hst8 : 2 * (F0 m pc ls (st.map (ztr ad))).monitorRoom + (((st.drop (znp k + 1)).map (ztr ad)).map fun v => v.category).sum ≤ 8 := by
          have := zsum_le ad (st.drop (znp k + 1))
          exact lv_room (by omega)
        have hrun := va_runV (rest := (st.drop (znp k + 1)).map (ztr ad)) (cells := cells) (slots := slots) (locs := locs) (below := below) (meth := meth) (e := e) (l := l) (p := pg) (g := F0 m pc ls (st.map (ztr ad))) ⟨hx, hb, hml, hown, hts⟩ hM hcw hp rfl hnl hl.1 (zst_split hrec) hst8 hd ⟨hcs, hss⟩
        rcases zrun_res sc _ _ _ _ _ _ _ _ _ hr1 with ⟨v, rfl⟩ | ⟨v, rfl⟩ | rfl
        · exact va_calli (a := (Value.ref (ad (zown k)) :: ((st.take (znp k)).reverse).map (ztr ad)).toArray) hrun hS hA1 hf1 (fun r u t H1 locs1 ht hvm hw hB _ _ hS1 => by
            obtain ⟨rfl, rfl⟩ := hw
            exact kk H1 locs1 (hback t H1 locs1 ht hB hS1))
        · exact va_calll (a := (Value.ref (ad (zown k)) :: ((st.take (znp k)).reverse).map (ztr ad)).toArray) hrun hS hA1 hf1 (fun r u t H1 locs1 ht hvm hw hB _ _ hS1 => by
            obtain ⟨rfl, rfl⟩ := hw
            exact kk H1 locs1 (hback t H1 locs1 ht hB hS1))
        · exact va_callv (a := (Value.ref (ad (zown k)) :: ((st.take (znp k)).reverse).map (ztr ad)).toArray) hrun hS hA1 hf1 (fun u t H1 locs1 ht hvm hw hB _ _ hS1 => by
            subst hw
            exact kk H1 locs1 (hback t H1 locs1 ht hB hS1))
      · cases hm
    · cases hc
  | invokestatic k0 =>
    simp only [zcal] at hc
    split at hc
    · cases hc
    · rename_i h997
      split at hc
      · rename_i hcond
        obtain ⟨hnle, hr4⟩ := hcond
        cases hc
        simp only [zcm] at hm
        split at hm
        · rename_i x
          simp only [if_neg (show ¬ k = 999 by omega), if_neg (show ¬ k = 998 by omega), if_neg (show ¬ k = 997 by omega), Bool.and_eq_true, decide_eq_true_eq, beq_iff_eq] at hm
          obtain ⟨⟨h1, h2⟩, rfl⟩ := hm
          have hkv := (zms_ok _ h1).1
          dsimp only at hkv
          have hkm : k ∈ zvm ++ zsm := List.mem_append_right _ hkv
          have hM := z_met hW hkm hlen hr1 ad cy D
          have hmk := zmOK_all k hkm
          unfold zmOK at hmk
          simp only [Bool.and_eq_true, decide_eq_true_eq] at hmk
          obtain ⟨⟨⟨⟨⟨k1, k2⟩, k3⟩, k4⟩, k5⟩, k6⟩ := hmk
          have hcw : CallB R s args (zR (zown mt)) x (zname k) (zcode k) (zml k) (zret k) (zwd k) (zrm k) 0 0 (znp k) ∧ (Cond.static (zname k)).before args s = true :=
            ⟨⟨rfl, rfl, by show zdep k + 1 ≤ R.frames; omega, by show 8 + (zml k + 11) + 35 * zdep k ≤ R.locals; omega, pay_in hts (z_good hkm), List.mem_cons_self, hts _ (z_init hkm).2, hts _ (z_init hkm).1, ⟨k2, k3⟩, fun sig h => by
              rw [h] at k4
              exact (Option.some.inj k4).symm, hts _ (zgw_at (by
                have : Cond.methodLink (zR (zown mt)) x (zname k) ∈ zgw3 := List.mem_map.mpr ⟨_, h1, rfl⟩
                simp only [this, true_or, or_true]))⟩, hts _ (zgw_at (by
                have : Cond.static (zname k) ∈ zgw6 := List.mem_map.mpr ⟨_, hkv, rfl⟩
                simp only [this, true_or, or_true]))⟩
          have hp : PreS s H (zPc ad cy D sc ((st.take (znp k)).reverse) σ) (((st.take (znp k)).reverse).map (ztr ad)) := ⟨zB_blind, fun U hU hWm => ⟨rfl, hpre U hU hWm⟩⟩
          have hnl : (((st.take (znp k)).reverse).map (ztr ad)).length = znp k := by
            simp
            omega
          have hst8 : 2 * (F0 m pc ls (st.map (ztr ad))).monitorRoom + (((st.drop (znp k)).map (ztr ad)).map fun v => v.category).sum ≤ 8 := by
            have := zsum_le ad (st.drop (znp k))
            exact lv_room (by omega)
          have hrun := va_runS (rest := (st.drop (znp k)).map (ztr ad)) (cells := cells) (slots := slots) (locs := locs) (below := below) (meth := meth) (e := e) (l := l) (p := pg) (g := F0 m pc ls (st.map (ztr ad))) ⟨hx, hb, hml, hown, hts⟩ hM hcw hp rfl hnl hl.1 zst_split0 hst8 hd ⟨hcs, hss⟩
          rcases zrun_res sc _ _ _ _ _ _ _ _ _ hr1 with ⟨v, rfl⟩ | ⟨v, rfl⟩ | rfl
          · exact va_calli (a := (((st.take (znp k)).reverse).map (ztr ad)).toArray) hrun hS hA1 hf1 (fun r u t H1 locs1 ht hvm hw hB _ _ hS1 => by
              obtain ⟨rfl, rfl⟩ := hw
              exact kk H1 locs1 (hback t H1 locs1 ht hB hS1))
          · exact va_calll (a := (((st.take (znp k)).reverse).map (ztr ad)).toArray) hrun hS hA1 hf1 (fun r u t H1 locs1 ht hvm hw hB _ _ hS1 => by
              obtain ⟨rfl, rfl⟩ := hw
              exact kk H1 locs1 (hback t H1 locs1 ht hB hS1))
          · exact va_callv (a := (((st.take (znp k)).reverse).map (ztr ad)).toArray) hrun hS hA1 hf1 (fun u t H1 locs1 ht hvm hw hB _ _ hS1 => by
              subst hw
              exact kk H1 locs1 (hback t H1 locs1 ht hB hS1))
        · cases hm
      · cases hc
  | _ => exact absurd hc (by simp [zcal])
end ZCA
theorem znew_law {sc : zX} {mt : Nat} {i : Instr} {st : List Value} {σ σ' : zS} (h : znew sc mt i st σ = some σ') : mt = zLAW := by
  cases i with
  | newarray ty =>
    simp only [znew] at h
    split at h
    · split at h
      · split at h
        · rename_i hk
          exact hk.1
        · split at h
          · rename_i hk
            exact hk.1
          · cases h
      · cases h
    · cases h
  | _ => exact absurd h (by simp [znew])
set_option maxHeartbeats 4000000 in
theorem z_W (sc : zX) (l : Launch) : ∀ f : Nat, zWs sc l f := by
  intro f
  induction f with
  | zero =>
    intro mt hmt is ps nb L st σ r σ' h
    simp [zrun] at h
  | succ f ih =>
    intro mt hmt is ps nb L st σ r σ' hr hc pg e R s m args below meth c cells slots Qw ad cy D A ls H locs C hl hI hex
    cases is with
    | nil =>
      rw [zrun] at hr
      simp only [zchkB, decide_eq_true_eq] at hc
      subst hc
      exact ih mt hmt (zblk mt nb) (zpcs mt nb) (nb + 1) L st σ r σ' hr (zchk_one (zk_all mt) nb) pg e R s m args below meth c cells slots Qw ad cy D A ls H locs C hl hI hex
    | cons i is =>
      cases ps with
      | nil => simp [zchkB] at hc
      | cons pc ps =>
        simp only [zchkB, Bool.and_eq_true] at hc
        obtain ⟨hc1, hc2⟩ := hc
        cases hdec : decode (zcode mt) pc with
        | error q => rw [hdec] at hc1; cases hc1
        | ok q =>
          obtain ⟨o, len⟩ := q
          rw [hdec] at hc1
          simp only [Bool.and_eq_true, decide_eq_true_eq] at hc1
          obtain ⟨hnx, hm⟩ := hc1
          show W pg l e R s m args below meth c H locs cells slots Qw (F0 m pc ls (st.map (ztr ad)))
          rw [zrun] at hr
          cases hcal : zcal i st with
          | none =>
            simp only [hcal] at hr
            cases hj : zjmp mt i st σ with
            | none =>
              simp only [hj] at hr
              cases hs : zst sc i L st σ with
              | none =>
                simp only [hs] at hr
                cases hn : znew sc mt i st σ with
                | none => simp [hn] at hr
                | some σ1 => exact absurd (znew_law hn) hmt
              | some q =>
                obtain ⟨L', st', σ1⟩ := q
                simp only [hs] at hr
                refine z_step C hdec hm hs hl hI (fun ls' H' locs' hl' hI' => ?_)
                rw [← hnx]
                exact ih mt hmt is ps nb L' st' σ1 r σ' hr hc2 pg e R s m args below meth c cells slots Qw ad cy D A ls' H' locs' C hl' hI' hex
            | some q =>
              simp only [hj] at hr
              match q, hr, hj with
              | .inl (st', some t), hr, hj =>
                refine z_jump (L := L) C hdec hm hj (fun b hb => ?_) (fun hb => by cases hb)
                cases hb
                exact ih mt hmt (zblk mt t) (zpcs mt t) (t + 1) L st' σ r σ' hr (zchk_one (zk_all mt) t) pg e R s m args below meth c cells slots Qw ad cy D A ls H locs C hl hI hex
              | .inl (st', none), hr, hj =>
                refine z_jump (L := L) C hdec hm hj (fun b hb => by cases hb) (fun _ => ?_)
                show W pg l e R s m args below meth c H locs cells slots Qw (F0 m (pc + len) ls (st'.map (ztr ad)))
                rw [← hnx]
                exact ih mt hmt is ps nb L st' σ r σ' hr hc2 pg e R s m args below meth c cells slots Qw ad cy D A ls H locs C hl hI hex
              | .inr (r2, σ2), hr, hj =>
                cases hr
                obtain ⟨rfl, rfl, hE⟩ := z_ret hdec hm hj
                exact hex H locs ls pc hI hE
          | some q =>
            obtain ⟨k, as, rest⟩ := q
            simp only [hcal] at hr
            split at hr
            · rename_i hlen
              cases hr1 : zrun sc f k (zblk k 0) 1 (zini k as) [] σ with
              | none => simp [hr1] at hr
              | some q =>
                obtain ⟨r1, σ1⟩ := q
                simp only [hr1] at hr
                refine z_call ih C hdec hm hcal hlen hr1 hl hI (fun H' locs' hI' => ?_)
                rw [← hnx]
                exact ih mt hmt is ps nb L (r1.toList ++ rest) σ1 r σ' hr hc2 pg e R s m args below meth c cells slots Qw ad cy D A ls H' locs' C hl hI' hex
            · cases hr
/-- the law: its new rows too -/
def zLs (l : Launch) (f : Nat) : Prop := ∀ (sc : zX) (is : List Instr) (ps : List Nat) (nb : Nat) (L : zL) (st : List Value) (σ : zS) (r : Option Value) (σ' : zS), zrun sc f zLAW is nb L st σ = some (r, σ') → zchkB zLAW is ps nb = true →
  ∀ (pg : Program) (e : Env) (R : Room) (s : State) (m : MethodId) (args : Array Value) (below : List Frame) (meth : Method) (c : Code) (cells slots : Nat) (Qw : State → Prop) (ad : Nat → Nat) (cy : Nat → ClassId) (D : va_G) (A : Nat → Prop) (ls : Array Slot) (H : Heap) (locs : List Loc), (∀ q, s.heap.size ≤ q → A q) → cells + 40 ≤ R.cells + sc.2.2 → slots + 1600 ≤ R.slots + 40 * sc.2.2 →
    zCx pg R s m args c cells slots ad cy D A sc zLAW → zlr ad ls (zml zLAW) L → zIn sc.2.2 ad cy D A s σ H locs →
    (∀ (nc : Nat) (ad' : Nat → Nat) (cells' slots' : Nat) (H' : Heap) (locs' : List Loc) (ls' : Array Slot) (pc' : Nat), cells' ≤ R.cells → slots' ≤ R.slots → zIn nc ad' cy D A s σ' H' locs' → zEx zLAW r pc' → W pg l e R s m args below meth c H' locs' cells' slots' Qw (F0 m pc' ls' (r.toList.map (ztr ad')))) →
    W pg l e R s m args below meth c H locs cells slots Qw (F0 m (ps.headD 0) ls (st.map (ztr ad)))
set_option maxHeartbeats 4000000 in
theorem z_L (l : Launch) : ∀ f : Nat, zLs l f := by
  intro f
  induction f with
  | zero =>
    intro sc is ps nb L st σ r σ' h
    simp [zrun] at h
  | succ f ih =>
    intro sc is ps nb L st σ r σ' hr hc pg e R s m args below meth c cells slots Qw ad cy D A ls H locs hA hc1 hc2 C hl hI hex
    cases is with
    | nil =>
      rw [zrun] at hr
      simp only [zchkB, decide_eq_true_eq] at hc
      subst hc
      exact ih sc (zblk zLAW nb) (zpcs zLAW nb) (nb + 1) L st σ r σ' hr (zchk_one (zk_all zLAW) nb) pg e R s m args below meth c cells slots Qw ad cy D A ls H locs hA hc1 hc2 C hl hI hex
    | cons i is =>
      cases ps with
      | nil => simp [zchkB] at hc
      | cons pc ps =>
        simp only [zchkB, Bool.and_eq_true] at hc
        obtain ⟨hc1', hc2'⟩ := hc
        cases hdec : decode (zcode zLAW) pc with
        | error q => rw [hdec] at hc1'; cases hc1'
        | ok q =>
          obtain ⟨o, len⟩ := q
          rw [hdec] at hc1'
          simp only [Bool.and_eq_true, decide_eq_true_eq] at hc1'
          obtain ⟨hnx, hm⟩ := hc1'
          show W pg l e R s m args below meth c H locs cells slots Qw (F0 m pc ls (st.map (ztr ad)))
          rw [zrun] at hr
          cases hcal : zcal i st with
          | none =>
            simp only [hcal] at hr
            cases hj : zjmp zLAW i st σ with
            | none =>
              simp only [hj] at hr
              cases hs : zst sc i L st σ with
              | none =>
                simp only [hs] at hr
                cases hn : znew sc zLAW i st σ with
                | none => simp [hn] at hr
                | some σ1 =>
                  simp only [hn] at hr
                  refine z_new C hA hc1 hc2 hdec hm hn hl hI (fun q k H' hk C' hl' hI' => ?_)
                  rw [← hnx]
                  exact ih (zup sc) is ps nb (L.map (zfg (93 + sc.2.2))) [.ref (93 + sc.2.2)] σ1 r σ' hr hc2' pg e R s m args below meth c (cells + 1) (slots + k) Qw (zad ad (93 + sc.2.2) q) cy D A ls H' locs hA (by show cells + 1 + 40 ≤ R.cells + (sc.2.2 + 1); omega) (by show slots + k + 1600 ≤ R.slots + 40 * (sc.2.2 + 1); omega) C' hl' hI' hex
              | some q =>
                obtain ⟨L', st', σ1⟩ := q
                simp only [hs] at hr
                refine z_step C hdec hm hs hl hI (fun ls' H' locs' hl' hI' => ?_)
                rw [← hnx]
                exact ih sc is ps nb L' st' σ1 r σ' hr hc2' pg e R s m args below meth c cells slots Qw ad cy D A ls' H' locs' hA hc1 hc2 C hl' hI' hex
            | some q =>
              simp only [hj] at hr
              match q, hr, hj with
              | .inl (st', some t), hr, hj =>
                refine z_jump (L := L) C hdec hm hj (fun b hb => ?_) (fun hb => by cases hb)
                cases hb
                exact ih sc (zblk zLAW t) (zpcs zLAW t) (t + 1) L st' σ r σ' hr (zchk_one (zk_all zLAW) t) pg e R s m args below meth c cells slots Qw ad cy D A ls H locs hA hc1 hc2 C hl hI hex
              | .inl (st', none), hr, hj =>
                refine z_jump (L := L) C hdec hm hj (fun b hb => by cases hb) (fun _ => ?_)
                show W pg l e R s m args below meth c H locs cells slots Qw (F0 m (pc + len) ls (st'.map (ztr ad)))
                rw [← hnx]
                exact ih sc is ps nb L st' σ r σ' hr hc2' pg e R s m args below meth c cells slots Qw ad cy D A ls H locs hA hc1 hc2 C hl hI hex
              | .inr (r2, σ2), hr, hj =>
                cases hr
                obtain ⟨rfl, rfl, hE⟩ := z_ret hdec hm hj
                obtain ⟨-, -, -, -, -, -, -, -, -, hcs, hss⟩ := C
                exact hex sc.2.2 ad cells slots H locs ls pc hcs hss hI hE
          | some q =>
            obtain ⟨k, as, rest⟩ := q
            simp only [hcal] at hr
            split at hr
            · rename_i hlen
              cases hr1 : zrun sc f k (zblk k 0) 1 (zini k as) [] σ with
              | none => simp [hr1] at hr
              | some q =>
                obtain ⟨r1, σ1⟩ := q
                simp only [hr1] at hr
                refine z_call (z_W sc l f) C hdec hm hcal hlen hr1 hl hI (fun H' locs' hI' => ?_)
                rw [← hnx]
                exact ih sc is ps nb L (r1.toList ++ rest) σ1 r σ' hr hc2' pg e R s m args below meth c cells slots Qw ad cy D A ls H' locs' hA hc1 hc2 C hl hI' hex
            · cases hr
/-- as PW has it -/
theorem z_PL {sc : zX} {nb : Nat} {is : List Instr} {ps : List Nat} {L : zL} {st : List Value} {σ : zS} {Q : Option Value → zS → Prop} (h : PW sc zLAW is nb L st σ Q) (hc : zchkB zLAW is ps nb = true) {pg : Program} {l : Launch} {e : Env} {R : Room} {s : State} {m : MethodId} {args : Array Value} {below : List Frame} {meth : Method} {c : Code} {cells slots : Nat} {Qw : State → Prop} {ad : Nat → Nat} {cy : Nat → ClassId} {D : va_G} {A : Nat → Prop} {ls : Array Slot} {H : Heap} {locs : List Loc}
    (hA : ∀ q, s.heap.size ≤ q → A q) (hc1 : cells + 40 ≤ R.cells + sc.2.2) (hc2 : slots + 1600 ≤ R.slots + 40 * sc.2.2) (C : zCx pg R s m args c cells slots ad cy D A sc zLAW) (hl : zlr ad ls (zml zLAW) L) (hI : zIn sc.2.2 ad cy D A s σ H locs)
    (hex : ∀ (r : Option Value) (σ' : zS) (nc : Nat) (ad' : Nat → Nat) (cells' slots' : Nat) (H' : Heap) (locs' : List Loc) (ls' : Array Slot) (pc' : Nat), cells' ≤ R.cells → slots' ≤ R.slots → Q r σ' → zIn nc ad' cy D A s σ' H' locs' → zEx zLAW r pc' → W pg l e R s m args below meth c H' locs' cells' slots' Qw (F0 m pc' ls' (r.toList.map (ztr ad')))) :
    W pg l e R s m args below meth c H locs cells slots Qw (F0 m (ps.headD 0) ls (st.map (ztr ad))) := by
  obtain ⟨f, r, σ', h1, h2⟩ := h
  exact z_L l f sc is ps nb L st σ r σ' h1 hc pg e R s m args below meth c cells slots Qw ad cy D A ls H locs hA hc1 hc2 C hl hI (fun nc ad' cells' slots' H' locs' ls' pc' k1 k2 hI' hE => hex r σ' nc ad' cells' slots' H' locs' ls' pc' k1 k2 h2 hI' hE)
