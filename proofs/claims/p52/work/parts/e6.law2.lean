/-! THE CLAIM OUT OF ONE WALK OF THE LAW'S BODY. Your part is whole_start (and what it stands on); all else here is the same for every law, but numbers. -/
def R_law : String := "LentFiddlesLaw"
def lw_P (b : Addr) (xs : List Int32) (args : Array Value) (s : State) : Prop := args = #[.ref b] ∧ s.IntsAt b xs ∧ xs.length ≤ 260 ∧ (Jvm.Cond.and given_1 narrow_1).before args s = true
def lw_Q (_ : Array Value) (s : State) (o : Outcome) (t : State) : Prop := o = .returned (some (.int 1)) ∧ Framed s o t [] 600000 7302250
def lw_Z (below : List Frame) (a : Array Value) (s : State) : State → Prop := fun t => ∃ o, t.status = .running ∧ Ended t below o ∧ lw_Q a s o t
/-- the law's own end, with 1 on the stack, nothing written that was there before, its room as the claim has it -/
theorem lw_ret {p : Program} {l : Launch} {e : Env} {s : State} {m : MethodId} {below : List Frame} {meth : Method} {c : Code} {b : Nat} (hx : p.tables.exec = Jvm.exec) (hb : c.code = code) (hr : meth.sig.returnType = ret) (hlocks : meth.locks = false) {pc : Nat} {H : Heap} {ls : Array Slot} (hdg : decode code pc = .ok (.ireturn, 1)) : W p l e room_1 s m #[Value.ref b] below meth c H [] 600000 7302250 (lw_Z below #[Value.ref b] s) (F0 m pc ls [.int 1]) := by
  intro T hT X
  obtain ⟨fs, hret, hrun, hended, hW, hframe⟩ := X.leave (v := some (.int 1)) (hlocks := hlocks) (fun h => by rw [hr] at h; cases h)
  have hmeth' : T.vm.method? m = some meth := X.method'
  refine ⟨T.setFrames fs, ?_, .returned (some (.int 1)), hrun, hended, rfl, ⟨_, rfl⟩, hW, hframe⟩
  jvm_step X.here [X.here.top, hx, hb, hdg, hmeth', hr, ret, narrow_b1]
  (try refine ⟨rfl, ?_⟩); (try refine ⟨rfl, ?_⟩)
  first | (intro acts; rw [hret _ acts rfl rfl rfl]) | rw [hret _ _ rfl rfl rfl]
  exact Steps.refl _
/-- what holds at the law's entry: the machine, the code, the tables' words (any of lw_tbl by 'hts w (by decide +kernel)'), the script of L ints xs at the cell b, what the Statement gives of the start (any of its parts by flat_of_before) -/
def lw_At (p : Program) (s : State) (m : MethodId) (meth : Method) (c : Code) (b L : Nat) (xs : Nat → Int32) : Prop :=
  p.tables.exec = Jvm.exec ∧ c.code = code ∧ meth.sig.returnType = ret ∧ c.maxLocals = 39 ∧ s.vm.findClass R_law = some m.cls ∧ (∀ w ∈ lw_tbl, w.before #[Value.ref b] s = true) ∧ va_X b L xs s s.heap ∧ b < s.heap.size ∧ meth.locks = false ∧ (Jvm.Cond.and given_1 narrow_1).before #[Value.ref b] s = true
theorem lx_nest {args : Array Value} {s : State} (hts : ∀ w ∈ lw_tbl, w.before args s = true) : nxP s := fun e he => by
  have h : ∀ e ∈ nxL, Cond.methodLinkNest RX11 e.1 e.2 RX11 ∈ lw_tbl := fun e he => by
    unfold nxL at he
    simp only [List.mem_cons, List.not_mem_nil, or_false] at he
    rcases he with rfl | rfl | rfl | rfl | rfl | rfl | rfl | rfl | rfl | rfl | rfl
    · exact (List.mem_append_right _ (List.mem_of_getElem? (i := 27) (by decide +kernel)))
    · exact (List.mem_append_right _ (List.mem_of_getElem? (i := 62) (by decide +kernel)))
    · exact (List.mem_append_right _ (List.mem_of_getElem? (i := 88) (by decide +kernel)))
    · exact (List.mem_append_right _ (List.mem_of_getElem? (i := 118) (by decide +kernel)))
    · exact (List.mem_append_right _ (List.mem_of_getElem? (i := 137) (by decide +kernel)))
    · exact (List.mem_append_right _ (List.mem_of_getElem? (i := 171) (by decide +kernel)))
    · exact (List.mem_append_right _ (List.mem_of_getElem? (i := 215) (by decide +kernel)))
    · exact (List.mem_append_right _ (List.mem_of_getElem? (i := 238) (by decide +kernel)))
    · exact (List.mem_append_right _ (List.mem_of_getElem? (i := 273) (by decide +kernel)))
    · exact (List.mem_append_right _ (List.mem_of_getElem? (i := 298) (by decide +kernel)))
    · exact (List.mem_append_right _ (List.mem_of_getElem? (i := 340) (by decide +kernel)))
  exact va_Nw.of rfl (hts _ (h e he))
theorem lx_fs11 : ∀ j, j < 13 → defaultValue (tyX11 j) = vp_V [.null, .null, .null, .null, .null, .null, .null, .null, .null, .null, .null, .int 0, .int 0] j := by decide +kernel
theorem lx_code : zcode 63 = code := rfl
set_option maxHeartbeats 4000000 in
set_option maxRecDepth 100000 in
/-- from the entry, for every script of at most 260 ints, the law comes to its end with true -/
theorem whole_start {p : Program} {e : Env} {s : State} {m : MethodId} {below : List Frame} {meth : Method} {c : Code} (l : Launch) (hflags : l.flags = flags0) {b L : Nat} {xs : Nat → Int32} (hL : L ≤ 260) (C0 : lw_At p s m meth c b L xs) : W p l e room_1 s m #[Value.ref b] below meth c s.heap [] 0 0 (lw_Z below #[Value.ref b] s) (entryFrame m ([Value.ref b] : List Value).toArray 39) := by
  obtain ⟨hx, hb, hr, hml, hown, hts, hX, hbl, hlocks, hgv⟩ := id C0
  obtain ⟨A, hAe⟩ : ∃ A : Nat → Prop, A = fun q : Nat => s.heap.size ≤ q := ⟨_, rfl⟩
  have hA : ∀ q : Nat, s.heap.size ≤ q → A q := fun q h => by rw [hAe]; exact h
  have hA2 : ∀ q : Nat, A q → s.heap.size ≤ q := fun q h => by rw [hAe] at h; exact h
  have hAn : ∀ q : Nat, q < s.heap.size → ¬ A q := fun q h z => absurd (hA2 q z) (Nat.not_le.mpr h)
  obtain ⟨D, cy, hK, hC⟩ := lk_all hts
  have hN := lx_nest hts
  have hS : va_S A s.heap s.heap [] := va_S.rf
  have hP : va_P D vwCl [] s.heap := fun k q h => by simp at h
  have hD : va_D A [] := ⟨fun i j p q h => by simp at h, fun k q h => by simp at h⟩
  have hl := lv_entry ([.ref b]) (n := 39) (Nat.le_of_ble_eq_true rfl)
  rw [lg_entry_eq]
  generalize (lg_sl ([.ref b]) ++ List.replicate (39 - (lg_sl ([.ref b])).length) Slot.unset).toArray = ls at hl ⊢
  have hl : lv_has ls 39 [(0, .ref b)] := hl
  refine va_new (ci := 11) (fs := [.null, .null, .null, .null, .null, .null, .null, .null, .null, .null, .null, .int 0, .int 0]) (C := RX11) (T := TX11) (N := 13) hx hb hts (lu_in (c := 11) (by decide)) tyX11 tyX11_ok hown (hts (.classLink R_law 9 RX11) (List.mem_append_right _ (List.mem_of_getElem? (i := 17) (by decide +kernel)))) (hts (.instantiable RX11 13) (li_in 11 (by decide))) (hts (.initialized RX11) (List.mem_append_right _ (List.mem_of_getElem? (i := 1) (by decide +kernel)))) hK hP hD hS hA rfl lx_fs11 (Nat.le_of_ble_eq_true rfl) (Nat.le_of_ble_eq_true rfl) dl_0 (fun q1 H hP hD hS => ?_)
  have hP : va_P D vwCl ([] ++ [(q1, .inr (11, [.null, .null, .null, .null, .null, .null, .null, .null, .null, .null, .null, .int 0, .int 0]))]) H := hP
  have hD : va_D A ([] ++ [(q1, .inr (11, [.null, .null, .null, .null, .null, .null, .null, .null, .null, .null, .null, .int 0, .int 0]))]) := hD
  refine lv_dup hx hb dl_3 rfl ?_
  have hPc := nw_p hP
  have hFc := nw_f hD hS hA
  refine va_callv (va_runI (As := []) (rest := [.ref q1]) ⟨hx, hb, hml, hown, hts⟩ (iX11 l D cy q1 H.size) (cwI 0 hts gl_11 rfl rfl rfl (hts (.initialized RX11) (List.mem_append_right _ (List.mem_of_getElem? (i := 1) (by decide +kernel)))) (hts (.methodLink R_law 11 yX11_init) (List.mem_append_right _ (List.mem_of_getElem? (i := 19) (by decide +kernel)))) (hts (.instanceMethod yX11_init) (List.mem_append_right _ (List.mem_of_getElem? (i := 20) (by decide +kernel)))) rfl (by decide +kernel) ⟨Nat.le_of_ble_eq_true rfl, Nat.le_of_ble_eq_true rfl⟩) ⟨fun a U g mk q => by obtain ⟨q0, q1, qP, ⟨qS, qN⟩, qD⟩ := q; exact ⟨q0, q1, qP, ⟨iS.moved (u := U) (U := U.calling g mk a) (Vm.Alike.refl U.vm) qS, nxP.same (u := U) (U := U.calling g mk a) rfl qN⟩, qD⟩, fun U hU hW => ⟨rfl, by rw [hU], by rw [hU]; exact hPc, ⟨iS.moved hW.alike ⟨hK, hC⟩, nxP.warm hW hN⟩, nw_d⟩⟩ rfl rfl hl.1 rfl (lv_room (Nat.le_of_ble_eq_true rfl)) dl_4 ⟨Nat.le_of_ble_eq_true rfl, Nat.le_of_ble_eq_true rfl⟩) hS (fun q _ h => hFc q h) hFc (fun w t H1 locs ht hvm hw hB hz1 hk1 hS => ?_)
  obtain ⟨hP1, hD1⟩ := hB
  rw [ht] at hP1
  obtain ⟨hP, hD⟩ := nw_j hP hD hk1 hFc hP1 hD1
  generalize H1 = H at hP hS ⊢
  have hP : va_P D vwCl (iW11 cy q1 w) H := hP
  have hD : va_D A (iW11 cy q1 w) := hD
  refine lv_astore_n (lv' := [(1, .ref q1), (0, .ref b)]) hx hb dl_7 rfl hl (by decide) rfl (fun ls hl => ?_)
  refine W.widen (k := 100) (n := 4000) (Nat.le_of_ble_eq_true rfl) (Nat.le_of_ble_eq_true rfl) ?_
  obtain ⟨hP, hD⟩ := zw_of (z := b) hP hD
  have hL31 : L < 2 ^ 31 := by omega
  refine z_PL (sc := (L, xs, 0)) (law_all (Q := fun r _ => r = some (.int (nI 1))) hL31 zi0_J1 (fun _ => rfl)) (zchk_one (zk_all 63) 0) (A := A) (D := D) (cy := cy) (ad := zaw q1 w b) hA (Nat.le_of_ble_eq_true rfl) (Nat.le_of_ble_eq_true rfl) ⟨hx, by rw [show zcode zLAW = code from lx_code]; exact hb, hml, hown, fun w h => hts w (zgw_in w h).1, hK, ⟨hX, hbl, hAn b hbl⟩, Nat.le_of_ble_eq_true rfl, Nat.le_of_ble_eq_true rfl, Nat.le_of_ble_eq_true rfl, Nat.le_of_ble_eq_true rfl⟩ ⟨hl.1, hl.2.1, rfl, fun i v hv => ?_⟩ ⟨hP, hD, hS⟩ (fun r σ' nc ad' cells' slots' H' locs' ls' pc' k1 k2 hr1 hI hE => ?_)
  · match i, hv with
    | 0, hv => cases hv; exact hl.2.2 (0, .ref b) (by simp)
    | 1, hv => cases hv; exact hl.2.2 (1, .ref q1) (by simp)
    | i + 2, hv =>
      have h : zld (List.replicate 37 (none : Option Value)) i = some v := hv
      unfold zld at h
      rw [List.getElem?_replicate] at h
      split at h <;> simp at h
  · subst hr1
    refine W.widen (k := 600000) (n := 7302250) k1 k2 ?_
    obtain ⟨-, -, -, -, hlo⟩ := hI
    refine va_forget (fun q hq => hA2 _ (hlo q hq)) ?_
    have hd : decode code pc' = .ok (.ireturn, 1) := by
      have h := hE.1
      rw [show zcode zLAW = code from lx_code] at h
      exact h
    exact lw_ret hx hb hr hlocks hd
