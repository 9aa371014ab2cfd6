/-! THE CLAIM OUT OF ONE WALK OF THE LAW'S BODY. Your part is whole_start (and what it stands on); all else here is the same for every law, but numbers. -/
def R_law : String := "LentFiddlesLaw"
def lw_P (b : Addr) (xs : List Int32) (args : Array Value) (s : State) : Prop := args = #[.ref b] ∧ s.IntsAt b xs ∧ xs.length ≤ 4096 ∧ (Jvm.Cond.and given_1 narrow_1).before args s = true
def lw_Q (_ : Array Value) (s : State) (o : Outcome) (t : State) : Prop := o = .returned (some (.int 1)) ∧ Framed s o t [] 600000 7302250
def lw_Z (below : List Frame) (a : Array Value) (s : State) : State → Prop := fun t => ∃ o, t.status = .running ∧ Ended t below o ∧ lw_Q a s o t
/-- the law's own end, with 1 on the stack, nothing written that was there before, its room as the claim has it -/
theorem lw_ret {p : Program} {l : Launch} {e : Env} {s : State} {m : MethodId} {below : List Frame} {meth : Method} {c : Code} {b : Nat} (hx : p.tables.exec = Jvm.exec) (hb : c.code = code) (hr : meth.sig.returnType = ret) (hlocks : meth.locks = false) {pc : Nat} {H : Heap} {ls : Array Slot} (hdg : decode code pc = .ok (.ireturn, 1)) : W p l e room_1 s m #[Value.ref b] below meth c H [] 600000 7302250 (lw_Z below #[Value.ref b] s) (F0 m pc ls [.int 1]) := by
  intro T hT X
  obtain ⟨fs, hret, hrun, hended, hW, hframe⟩ := X.leave (v := some (.int 1)) (hlocks := hlocks) (fun h => by rw [hr] at h; cases h)
  have hmeth' : T.vm.method? m = some meth := X.method'
  refine ⟨T.setFrames fs, ?_, .returned (some (.int 1)), hrun, hended, rfl, ⟨_, rfl⟩, hW, hframe⟩
  jvm_step X.here [X.here.top, hx, hb, hdg, hmeth', hr, ret, narrow_b1]
  (try refine ⟨rfl, ?_⟩); (try refine ⟨rfl, ?_⟩)
  first | (intro acts; rw [hret _ acts rfl rfl rfl]) | rw [hret _ _ rfl rfl rfl]
  exact Steps.refl _
/-- what holds at the law's entry: the machine, the code, the tables' words (any of lw_tbl by 'hts w (by decide +kernel)'), the script of L ints xs at the cell b, what the Statement gives of the start (any of its parts by flat_of_before) -/
def lw_At (p : Program) (s : State) (m : MethodId) (meth : Method) (c : Code) (b L : Nat) (xs : Nat → Int32) : Prop :=
  p.tables.exec = Jvm.exec ∧ c.code = code ∧ meth.sig.returnType = ret ∧ c.maxLocals = 4 ∧ s.vm.findClass R_law = some m.cls ∧ (∀ w ∈ lw_tbl, w.before #[Value.ref b] s = true) ∧ va_X b L xs s s.heap ∧ b < s.heap.size ∧ meth.locks = false ∧ (Jvm.Cond.and given_1 narrow_1).before #[Value.ref b] s = true
theorem lx_nest {args : Array Value} {s : State} (hts : ∀ w ∈ lw_tbl, w.before args s = true) : nxP s := fun e he => by
  have h : ∀ e ∈ nxL, Cond.methodLinkNest RX11 e.1 e.2 RX11 ∈ lw_tbl := fun e he => by
    unfold nxL at he
    simp only [List.mem_cons, List.not_mem_nil, or_false] at he
    rcases he with rfl | rfl | rfl | rfl | rfl | rfl | rfl | rfl | rfl | rfl | rfl
    · exact (List.mem_append_right _ (List.mem_of_getElem? (i := 28) (by decide +kernel)))
    · exact (List.mem_append_right _ (List.mem_of_getElem? (i := 67) (by decide +kernel)))
    · exact (List.mem_append_right _ (List.mem_of_getElem? (i := 98) (by decide +kernel)))
    · exact (List.mem_append_right _ (List.mem_of_getElem? (i := 137) (by decide +kernel)))
    · exact (List.mem_append_right _ (List.mem_of_getElem? (i := 158) (by decide +kernel)))
    · exact (List.mem_append_right _ (List.mem_of_getElem? (i := 196) (by decide +kernel)))
    · exact (List.mem_append_right _ (List.mem_of_getElem? (i := 243) (by decide +kernel)))
    · exact (List.mem_append_right _ (List.mem_of_getElem? (i := 266) (by decide +kernel)))
    · exact (List.mem_append_right _ (List.mem_of_getElem? (i := 301) (by decide +kernel)))
    · exact (List.mem_append_right _ (List.mem_of_getElem? (i := 328) (by decide +kernel)))
    · exact (List.mem_append_right _ (List.mem_of_getElem? (i := 371) (by decide +kernel)))
  exact va_Nw.of rfl (hts _ (h e he))
theorem lx_fs11 : ∀ j, j < 13 → defaultValue (tyX11 j) = vp_V [.null, .null, .null, .null, .null, .null, .null, .null, .null, .null, .null, .int 0, .int 0] j := by decide +kernel
theorem lx_fs12 : ∀ j, j < 63 → defaultValue (tyX12 j) = vp_V [.int 0, .int 0, .int 0, .null, .null, .null, .int 0, .null, .null, .null, .null, .null, .null, .null, .null, .null, .null, .null, .null, .int 0, .null, .null, .null, .null, .null, .int 0, .null, .null, .null, .int 0, .int 0, .null, .int 0, .null, .null, .null, .int 0, .null, .null, .null, .null, .int 0, .int 0, .int 0, .int 0, .int 0, .null, .null, .null, .int 0, .null, .int 0, .int 0, .int 0, .null, .null, .int 0, .null, .int 0, .int 0, .int 0, .null, .null] j := by decide +kernel
theorem lx_code : zcode 254 = code := rfl
set_option maxHeartbeats 4000000 in
set_option maxRecDepth 100000 in
/-- from the entry, for every script of at most 4096 ints, the law comes to its end with true -/
theorem whole_start {p : Program} {e : Env} {s : State} {m : MethodId} {below : List Frame} {meth : Method} {c : Code} (l : Launch) (hflags : l.flags = flags0) {b L : Nat} {xs : Nat → Int32} (hL : L ≤ 4096) (C0 : lw_At p s m meth c b L xs) : W p l e room_1 s m #[Value.ref b] below meth c s.heap [] 0 0 (lw_Z below #[Value.ref b] s) (entryFrame m ([Value.ref b] : List Value).toArray 4) := by
  obtain ⟨hx, hb, hr, hml, hown, hts, hX, hbl, hlocks, hgv⟩ := id C0
  obtain ⟨A, hAe⟩ : ∃ A : Nat → Prop, A = fun q : Nat => s.heap.size ≤ q := ⟨_, rfl⟩
  have hA : ∀ q : Nat, s.heap.size ≤ q → A q := fun q h => by rw [hAe]; exact h
  have hA2 : ∀ q : Nat, A q → s.heap.size ≤ q := fun q h => by rw [hAe] at h; exact h
  have hAn : ∀ q : Nat, q < s.heap.size → ¬ A q := fun q h z => absurd (hA2 q z) (Nat.not_le.mpr h)
  obtain ⟨D, cy, hK, hC⟩ := lk_all hts
  obtain ⟨t0, hZ, hT⟩ := lz_row hts hgv hAn
  have hN := lx_nest hts
  have hS : va_S A s.heap s.heap [] := va_S.rf
  have hP : va_P D vwCl [] s.heap := fun k q h => by simp at h
  have hD : va_D A [] := ⟨fun i j p q h => by simp at h, fun k q h => by simp at h⟩
  have hl := lv_entry ([.ref b]) (n := 4) (Nat.le_of_ble_eq_true rfl)
  rw [lg_entry_eq]
  generalize (lg_sl ([.ref b]) ++ List.replicate (4 - (lg_sl ([.ref b])).length) Slot.unset).toArray = ls at hl ⊢
  have hl : lv_has ls 4 [(0, .ref b)] := hl
  refine va_new (ci := 11) (fs := [.null, .null, .null, .null, .null, .null, .null, .null, .null, .null, .null, .int 0, .int 0]) (C := RX11) (T := TX11) (N := 13) hx hb hts (lu_in (c := 11) (by decide)) tyX11 tyX11_ok hown (hts (.classLink R_law 7 RX11) (List.mem_append_right _ (List.mem_of_getElem? (i := 18) (by decide +kernel)))) (hts (.instantiable RX11 13) (li_in 11 (by decide))) (hts (.initialized RX11) (List.mem_append_right _ (List.mem_of_getElem? (i := 1) (by decide +kernel)))) hK hP hD hS hA rfl lx_fs11 (Nat.le_of_ble_eq_true rfl) (Nat.le_of_ble_eq_true rfl) dl_0 (fun q1 H hP hD hS => ?_)
  have hP : va_P D vwCl ([] ++ [(q1, .inr (11, [.null, .null, .null, .null, .null, .null, .null, .null, .null, .null, .null, .int 0, .int 0]))]) H := hP
  have hD : va_D A ([] ++ [(q1, .inr (11, [.null, .null, .null, .null, .null, .null, .null, .null, .null, .null, .null, .int 0, .int 0]))]) := hD
  refine lv_dup hx hb dl_3 rfl ?_
  have hPc := nw_p hP
  have hFc := nw_f hD hS hA
  refine va_callv (va_runI (As := []) (rest := [.ref q1]) ⟨hx, hb, hml, hown, hts⟩ (iX11 l D cy q1 H.size) (cwI 0 hts gl_11 rfl rfl rfl (hts (.initialized RX11) (List.mem_append_right _ (List.mem_of_getElem? (i := 1) (by decide +kernel)))) (hts (.methodLink R_law 9 yX11_init) (List.mem_append_right _ (List.mem_of_getElem? (i := 20) (by decide +kernel)))) (hts (.instanceMethod yX11_init) (List.mem_append_right _ (List.mem_of_getElem? (i := 21) (by decide +kernel)))) rfl (by decide +kernel) ⟨Nat.le_of_ble_eq_true rfl, Nat.le_of_ble_eq_true rfl⟩) ⟨fun a U g mk q => by obtain ⟨q0, q1, qP, ⟨qS, qN⟩, qD⟩ := q; exact ⟨q0, q1, qP, ⟨iS.moved (u := U) (U := U.calling g mk a) (Vm.Alike.refl U.vm) qS, nxP.same (u := U) (U := U.calling g mk a) rfl qN⟩, qD⟩, fun U hU hW => ⟨rfl, by rw [hU], by rw [hU]; exact hPc, ⟨iS.moved hW.alike ⟨hK, hC⟩, nxP.warm hW hN⟩, nw_d⟩⟩ rfl rfl hl.1 rfl (lv_room (Nat.le_of_ble_eq_true rfl)) dl_4 ⟨Nat.le_of_ble_eq_true rfl, Nat.le_of_ble_eq_true rfl⟩) hS (fun q _ h => hFc q h) hFc (fun w t H1 locs ht hvm hw hB hz1 hk1 hS => ?_)
  obtain ⟨hP1, hD1⟩ := hB
  rw [ht] at hP1
  obtain ⟨hP, hD⟩ := nw_j hP hD hk1 hFc hP1 hD1
  generalize H1 = H at hP hS ⊢
  have hP : va_P D vwCl (iW11 cy q1 w) H := hP
  have hD : va_D A (iW11 cy q1 w) := hD
  refine lv_astore_n (lv' := [(1, .ref q1), (0, .ref b)]) hx hb dl_7 rfl hl (by decide) rfl (fun ls hl => ?_)
  refine va_new (ci := 12) (fs := [.int 0, .int 0, .int 0, .null, .null, .null, .int 0, .null, .null, .null, .null, .null, .null, .null, .null, .null, .null, .null, .null, .int 0, .null, .null, .null, .null, .null, .int 0, .null, .null, .null, .int 0, .int 0, .null, .int 0, .null, .null, .null, .int 0, .null, .null, .null, .null, .int 0, .int 0, .int 0, .int 0, .int 0, .null, .null, .null, .int 0, .null, .int 0, .int 0, .int 0, .null, .null, .int 0, .null, .int 0, .int 0, .int 0, .null, .null]) (C := RX12) (T := TX12) (N := 63) hx hb hts (lu_in (c := 12) (by decide)) tyX12 tyX12_ok hown (hts (.classLink R_law 10 RX12) (List.mem_append_right _ (List.mem_of_getElem? (i := 1067) (by decide +kernel)))) (hts (.instantiable RX12 63) (li_in 12 (by decide))) (hts (.initialized RX12) (List.mem_append_right _ (List.mem_of_getElem? (i := 13) (by decide +kernel)))) hK hP hD hS hA rfl lx_fs12 (Nat.le_of_ble_eq_true rfl) (Nat.le_of_ble_eq_true rfl) dl_8 (fun q2 H hP hD hS => ?_)
  refine lv_dup hx hb dl_11 rfl ?_
  have hPc := nw_p hP
  have hFc := nw_f hD hS hA
  refine va_callv (va_runI (As := []) (rest := [.ref q2]) ⟨hx, hb, hml, hown, hts⟩ (iX12 l D cy q2 H.size) (cwI 0 hts gl_12 rfl rfl rfl (hts (.initialized RX12) (List.mem_append_right _ (List.mem_of_getElem? (i := 13) (by decide +kernel)))) (hts (.methodLink R_law 12 yX12_init) (List.mem_append_right _ (List.mem_of_getElem? (i := 1069) (by decide +kernel)))) (hts (.instanceMethod yX12_init) (List.mem_append_right _ (List.mem_of_getElem? (i := 1070) (by decide +kernel)))) rfl (by decide +kernel) ⟨Nat.le_of_ble_eq_true rfl, Nat.le_of_ble_eq_true rfl⟩) ⟨fun a U g mk q => by obtain ⟨q0, q1, qP, qS, qD⟩ := q; exact ⟨q0, q1, qP, iS.moved (u := U) (U := U.calling g mk a) (Vm.Alike.refl U.vm) qS, qD⟩, fun U hU hW => ⟨rfl, by rw [hU], by rw [hU]; exact hPc, iS.moved hW.alike ⟨hK, hC⟩, nw_d⟩⟩ rfl rfl hl.1 rfl (lv_room (Nat.le_of_ble_eq_true rfl)) dl_12 ⟨Nat.le_of_ble_eq_true rfl, Nat.le_of_ble_eq_true rfl⟩) hS (fun q _ h => hFc q h) hFc (fun u t H1 locs ht hvm hw hB hz1 hk1 hS => ?_)
  obtain ⟨hP1, hD1⟩ := hB
  rw [ht] at hP1
  obtain ⟨hP, hD⟩ := nw_j hP hD hk1 hFc hP1 hD1
  generalize H1 = H at hP hS ⊢
  have hP : va_P D vwCl (zSS cy q1 q2 w u) H := hP
  have hD : va_D A (zSS cy q1 q2 w u) := hD
  refine lv_astore_n (lv' := [(2, .ref q2), (1, .ref q1), (0, .ref b)]) hx hb dl_15 rfl hl (by decide) rfl (fun ls hl => ?_)
  refine W.widen (k := 600000) (n := 7302250) (Nat.le_of_ble_eq_true rfl) (Nat.le_of_ble_eq_true rfl) ?_
  obtain ⟨hP, hD⟩ := zw_of (y := t0) (z := b) hP hD
  refine z_PW (sc := (L, xs)) (law_PW hL zi0_RR) (zchk_one (zk_all 254) 0) (A := A) (D := D) (cy := cy) (ad := zad q1 q2 w u t0 b) ⟨hx, by rw [lx_code]; exact hb, hml, hown, fun w h => hts w (zgw_in w h).1, hK, ⟨hZ, hT, hX, hbl, hAn b hbl⟩, Nat.le_of_ble_eq_true rfl, Nat.le_of_ble_eq_true rfl, Nat.le_refl _, Nat.le_refl _⟩ ⟨hl.1, hl.2.1, rfl, fun i v hv => ?_⟩ ⟨hP, hD, hS⟩ (fun r σ' H' locs' ls' pc' hr1 hI hE => ?_)
  · match i, hv with
    | 0, hv => cases hv; exact hl.2.2 (0, .ref b) (by simp)
    | 1, hv => cases hv; exact hl.2.2 (1, .ref q1) (by simp)
    | 2, hv => cases hv; exact hl.2.2 (2, .ref q2) (by simp)
    | 3, hv => cases hv
    | i + 4, hv => cases hv
  · subst hr1
    obtain ⟨-, -, -, -, hlo⟩ := hI
    refine va_forget (fun q hq => hA2 _ (hlo q hq)) ?_
    have hd : decode code pc' = .ok (.ireturn, 1) := by
      have h := hE.1
      rw [lx_code] at h
      exact h
    exact lw_ret hx hb hr hlocks hd
