/-! THE WORDS that the machine's instructions stand on, and what holds each instruction of a block against the bytes -/
def zfin (q : Nat) : Bool := (zT q).2.2.2
def zcm (mt own p : Nat) (i o : Instr) (len : Nat) : Bool := match i with
  | .iload k => (match o with
      | .iload k' => k' == k && len == 2
      | .iload_n k' => k'.val == k && len == 1
      | _ => false)
  | .aload k => (match o with
      | .aload k' => k' == k && len == 2
      | .aload_n k' => k'.val == k && len == 1
      | _ => false)
  | .lload k => (match o with
      | .lload k' => k' == k && len == 2
      | .lload_n k' => k'.val == k && len == 1
      | _ => false)
  | .istore k => (match o with
      | .istore k' => k' == k && len == 2
      | .istore_n k' => k'.val == k && len == 1
      | _ => false)
  | .lstore k => (match o with
      | .lstore k' => k' == k && len == 2
      | .lstore_n k' => k'.val == k && len == 1
      | _ => false)
  | .iinc k n => decide (o = .iinc k n) && len == 3
  | .sipush v => (match o with
      | .iconst v' => decide (v' = v) && len == 1
      | .bipush v' => decide ((Int8.ofInt v').toInt32 = Int32.ofInt v) && len == 2
      | .sipush v' => decide ((Int16.ofInt v').toInt32 = Int32.ofInt v) && len == 3
      | .ldc x => decide ((own, x, v) ∈ zcn) && len == 2
      | .ldc_w x => decide ((own, x, v) ∈ zcn) && len == 3
      | _ => false)
  | .ldc2_w n => (match o with
      | .ldc2_w x => decide ((own, x, n) ∈ zlc) && len == 3
      | _ => false)
  | .getfield q => (match o with
      | .getfield x => decide ((own, x, q) ∈ zfl) && len == 3
      | _ => false)
  | .putfield q => (match o with
      | .putfield x => decide ((own, x, q) ∈ zfl) && !zfin q && len == 3
      | _ => false)
  | .goto t => (match o with
      | .goto off => decide ((p : Int) + off = (zpc0 mt t.toNat : Nat)) && len == 3
      | _ => false)
  | .ifCond c t => (match o with
      | .ifCond c' off => decide (c' = c) && decide ((p : Int) + off = (zpc0 mt t.toNat : Nat)) && len == 3
      | _ => false)
  | .if_icmp c t => (match o with
      | .if_icmp c' off => decide (c' = c) && decide ((p : Int) + off = (zpc0 mt t.toNat : Nat)) && len == 3
      | _ => false)
  | .lookupswitch d ps => (match o with
      | .lookupswitch d' ps' => decide ((p : Int) + d' = (zpc0 mt d.toNat : Nat)) && ((ps'.toList.zip (ps'.toList.drop 1)).all (fun (a, next) => a.1 < next.1)) &&
          decide (ps'.toList.map (fun e => (e.1, (p : Int) + e.2)) = ps.toList.map (fun e => (e.1, ((zpc0 mt e.2.toNat : Nat) : Int))))
      | .tableswitch d' lo hi offs => decide ((p : Int) + d' = (zpc0 mt d.toNat : Nat)) && decide (hi = lo + (offs.size : Int) - 1) && decide (ps.size = offs.size) &&
          (List.range offs.size).all (fun j => match ps.toList[j]?, offs[j]? with
            | some e, some off => decide (e.1 = lo + (j : Int)) && decide ((p : Int) + off = (zpc0 mt e.2.toNat : Nat))
            | _, _ => false)
      | _ => false)
  | .invokevirtual k => (match o with
      | .invokevirtual x => decide ((own, x, k) ∈ zmv) && decide (zdep k < zdep mt) && len == 3
      | _ => false)
  | .invokestatic k => (match o with
      | .invokestatic x => (if k = 999 then decide ((own, x) ∈ zmc) && decide (1 ≤ zdep mt) else if k = 998 then decide ((own, x) ∈ zmx) && decide (1 ≤ zdep mt) else if k = 997 then decide ((own, x) ∈ zmn) && decide (1 ≤ zdep mt) else decide ((own, x, k) ∈ zms) && decide (zdep k < zdep mt)) && len == 3
      | _ => false)
  | .astore k => (match o with
      | .astore k' => k' == k && len == 2
      | .astore_n k' => k'.val == k && len == 1
      | _ => false)
  | .newarray t => decide (o = .newarray t) && own == 13 && len == 2
  | i => decide (o = i) && len == 1
def zchkB (mt : Nat) : List Instr → List Nat → Nat → Bool
  | [], ps, nb => decide (ps = [zpc0 mt nb])
  | _ :: _, [], _ => false
  | i :: is, p :: ps, nb => (match decode (zcode mt) p with
      | .ok (o, len) => decide (ps.headD 0 = p + len) && zcm mt (zown mt) p i o len
      | .error _ => false) && zchkB mt is ps nb
def zchkM (mt : Nat) : Bool := (List.range (zM mt).1.length).all (fun b => zchkB mt (zblk mt b) (zpcs mt b) (b + 1))
theorem zchk_one {mt : Nat} (h : zchkM mt = true) (b : Nat) : zchkB mt (zblk mt b) (zpcs mt b) (b + 1) = true := by
  by_cases hb : b < (zM mt).1.length
  · exact List.all_eq_true.mp h b (List.mem_range.mpr hb)
  · have e1 : ∀ c : Nat, (zM mt).1.length ≤ c → zblk mt c = [] ∧ zpcs mt c = [(zM mt).2] := fun c hc => by
      unfold zblk zpcs
      rw [List.getElem?_eq_none hc]
      exact ⟨rfl, rfl⟩
    obtain ⟨a1, a2⟩ := e1 b (by omega)
    obtain ⟨b1, b2⟩ := e1 (b + 1) (by omega)
    rw [a1, a2]
    simp [zchkB, zpc0, b2]
