/-! THE PURE MACHINE: fields, int rows, long rows by place; a method is a list of blocks. No heap, no frames. -/
abbrev zS : Type := (Nat → Nat → Int32) × (Nat → Nat → Int32) × (Nat → Nat → Int64)
abbrev zL : Type := List (Option Value)
abbrev zO : Type := Option (zL × List Value × zS)
abbrev zX : Type := Nat × (Nat → Int32) × Nat
/-- the rows that the law makes come from place 93 on; c: how many there are -/
def zarc (c k : Nat) : Option (Nat × Nat × Nat) := if k < 93 + c then zar k else none
def zup (sc : zX) : zX := (sc.1, sc.2.1, sc.2.2 + 1)
def zfg (p : Nat) (o : Option Value) : Option Value := match o with
  | some (.ref k) => if k = p then none else some (.ref k)
  | o => o
def zuf (σ : zS) (c j : Nat) (v : Int32) : zS := (fun c' j' => if c' = c ∧ j' = j then v else σ.1 c' j', σ.2)
def zur (σ : zS) (a : Nat) (f : Nat → Int32) : zS := (σ.1, fun b => if b = a then f else σ.2.1 b, σ.2.2)
def zul (σ : zS) (a : Nat) (f : Nat → Int64) : zS := (σ.1, σ.2.1, fun b => if b = a then f else σ.2.2 b)
def zin {α : Type} (i : Int32) (n : Nat) (r : Option α) : Option α := if i < 0 ∨ n ≤ i.toNatClampNeg then none else r
def zld (L : zL) (k : Nat) : Option Value := (L[k]?).join
def zlong? : Option Value → Bool
  | some (.long _) => true
  | some (.double _) => true
  | _ => false
def zok (L : zL) (k : Nat) : Bool := decide (k < L.length) && !zlong? (zld L (k - 1))
def zo_iload (k : Nat) (L : zL) (st : List Value) (σ : zS) : zO := match zld L k with
  | some (.int x) => some (L, .int x :: st, σ)
  | _ => none
def zo_aload (k : Nat) (L : zL) (st : List Value) (σ : zS) : zO := match zld L k with
  | some (.ref x) => some (L, .ref x :: st, σ)
  | _ => none
def zo_astore (k : Nat) (L : zL) (st : List Value) (σ : zS) : zO := match st with
  | .ref x :: r => if zok L k = true then some (L.set k (some (.ref x)), r, σ) else none
  | _ => none
def zo_lload (k : Nat) (L : zL) (st : List Value) (σ : zS) : zO := match zld L k with
  | some (.long x) => some (L, .long x :: st, σ)
  | _ => none
def zo_istore (k : Nat) (L : zL) (st : List Value) (σ : zS) : zO := match st with
  | .int x :: r => if zok L k = true then some (L.set k (some (.int x)), r, σ) else none
  | _ => none
def zo_lstore (k : Nat) (L : zL) (st : List Value) (σ : zS) : zO := match st with
  | .long x :: r => if zok L k = true ∧ k + 1 < L.length then some ((L.set k (some (.long x))).set (k + 1) none, r, σ) else none
  | _ => none
def zo_iinc (k : Nat) (n : Int) (L : zL) (st : List Value) (σ : zS) : zO := match zld L k with
  | some (.int x) => if zok L k = true then some (L.set k (some (.int (x + Int32.ofInt n))), st, σ) else none
  | _ => none
def zo_ii (f : Int32 → Int32 → Int32) (L : zL) (st : List Value) (σ : zS) : zO := match st with
  | .int y :: .int x :: r => some (L, .int (f x y) :: r, σ)
  | _ => none
def zo_i (f : Int32 → Int32) (L : zL) (st : List Value) (σ : zS) : zO := match st with
  | .int x :: r => some (L, .int (f x) :: r, σ)
  | _ => none
def zo_ll (f : Int64 → Int64 → Int64) (L : zL) (st : List Value) (σ : zS) : zO := match st with
  | .long y :: .long x :: r => some (L, .long (f x y) :: r, σ)
  | _ => none
def zo_idiv (L : zL) (st : List Value) (σ : zS) : zO := match st with
  | .int y :: .int x :: r => if y = 0 then none else some (L, .int (x / y) :: r, σ)
  | _ => none
def zo_irem (L : zL) (st : List Value) (σ : zS) : zO := match st with
  | .int y :: .int x :: r => if y = 0 then none else some (L, .int (x - x / y * y) :: r, σ)
  | _ => none
def zo_li (f : Int64 → Int32 → Int64) (L : zL) (st : List Value) (σ : zS) : zO := match st with
  | .int y :: .long x :: r => some (L, .long (f x y) :: r, σ)
  | _ => none
def zo_i2l (L : zL) (st : List Value) (σ : zS) : zO := match st with
  | .int x :: r => some (L, .long x.toInt64 :: r, σ)
  | _ => none
def zo_lcmp (L : zL) (st : List Value) (σ : zS) : zO := match st with
  | .long y :: .long x :: r => some (L, .int (lg_cmp x y) :: r, σ)
  | _ => none
def zo_dup (L : zL) (st : List Value) (σ : zS) : zO := match st with
  | v :: r => if v.category = 1 then some (L, v :: v :: r, σ) else none
  | _ => none
def zo_dupx1 (L : zL) (st : List Value) (σ : zS) : zO := match st with
  | v :: w :: r => if v.category = 1 ∧ w.category = 1 then some (L, v :: w :: v :: r, σ) else none
  | _ => none
def zo_dup2 (L : zL) (st : List Value) (σ : zS) : zO := match st with
  | v :: w :: r => if v.category = 1 ∧ w.category = 1 then some (L, v :: w :: v :: w :: r, σ) else none
  | _ => none
def zo_pop (L : zL) (st : List Value) (σ : zS) : zO := match st with
  | v :: r => if v.category = 1 then some (L, r, σ) else none
  | _ => none
def zo_get (q : Nat) (L : zL) (st : List Value) (σ : zS) : zO := match st with
  | .ref a :: r => if a = q / 64 then (match zfk q with
      | some k => some (L, .ref k :: r, σ)
      | none => some (L, .int (σ.1 (q / 64) (q % 64)) :: r, σ)) else none
  | _ => none
def zo_put (q : Nat) (L : zL) (st : List Value) (σ : zS) : zO := match st with
  | .int v :: .ref a :: r => if a = q / 64 then (match zfk q with
      | some _ => none
      | none => some (L, r, zuf σ (q / 64) (q % 64) v)) else none
  | _ => none
def zo_iald (sc : zX) (L : zL) (st : List Value) (σ : zS) : zO := match st with
  | .int i :: .ref a :: r => if a = 134 then zin i sc.1 (some (L, .int (sc.2.1 i.toNatClampNeg) :: r, σ)) else (match zarc sc.2.2 a with
      | some (k, n, _) => if k = 0 then zin i n (some (L, .int (σ.2.1 a i.toNatClampNeg) :: r, σ)) else none
      | none => none)
  | _ => none
def zo_bald (sc : zX) (L : zL) (st : List Value) (σ : zS) : zO := match st with
  | .int i :: .ref a :: r => (match zarc sc.2.2 a with
      | some (k, n, _) => if k = 1 then zin i n (some (L, .int (σ.2.1 a i.toNatClampNeg) :: r, σ)) else none
      | none => none)
  | _ => none
def zo_lald (sc : zX) (L : zL) (st : List Value) (σ : zS) : zO := match st with
  | .int i :: .ref a :: r => (match zarc sc.2.2 a with
      | some (k, n, _) => if k = 2 then zin i n (some (L, .long (σ.2.2 a i.toNatClampNeg) :: r, σ)) else none
      | none => none)
  | _ => none
def zo_aald (sc : zX) (L : zL) (st : List Value) (σ : zS) : zO := match st with
  | .int i :: .ref a :: r => (match zarc sc.2.2 a with
      | some (k, n, b) => if k = 3 then zin i n (some (L, .ref (b + i.toNatClampNeg) :: r, σ)) else none
      | none => none)
  | _ => none
def zo_iast (sc : zX) (L : zL) (st : List Value) (σ : zS) : zO := match st with
  | .int x :: .int i :: .ref a :: r => (match zarc sc.2.2 a with
      | some (k, n, _) => if k = 0 then zin i n (some (L, r, zur σ a (upd (σ.2.1 a) i.toNatClampNeg x))) else none
      | none => none)
  | _ => none
def zo_bast (sc : zX) (L : zL) (st : List Value) (σ : zS) : zO := match st with
  | .int x :: .int i :: .ref a :: r => (match zarc sc.2.2 a with
      | some (k, n, _) => if k = 1 then zin i n (some (L, r, zur σ a (upd (σ.2.1 a) i.toNatClampNeg (vp_nar .boolean x)))) else none
      | none => none)
  | _ => none
def zo_last (sc : zX) (L : zL) (st : List Value) (σ : zS) : zO := match st with
  | .long x :: .int i :: .ref a :: r => (match zarc sc.2.2 a with
      | some (k, n, _) => if k = 2 then zin i n (some (L, r, zul σ a (vp_updL (σ.2.2 a) i.toNatClampNeg x))) else none
      | none => none)
  | _ => none
def zo_alen (sc : zX) (L : zL) (st : List Value) (σ : zS) : zO := match st with
  | .ref a :: r => if a = 134 then some (L, .int (Int32.ofNat sc.1) :: r, σ) else (match zarc sc.2.2 a with
      | some (_, n, _) => some (L, .int (Int32.ofNat n) :: r, σ)
      | none => none)
  | _ => none
/-- System.arraycopy, of int rows -/
def zo_copy (sc : zX) (L : zL) (st : List Value) (σ : zS) : zO := match st with
  | .int n :: .int dp :: .ref d :: .int sp :: .ref s :: r => (match zarc sc.2.2 s, zarc sc.2.2 d with
      | some (k0, n0, _), some (k1, n1, _) => if k0 = 0 ∧ k1 = 0 ∧ r.length ≤ 4 ∧ ¬ sp < 0 ∧ ¬ dp < 0 ∧ ¬ n < 0 ∧ sp.toNatClampNeg + n.toNatClampNeg ≤ n0 ∧ dp.toNatClampNeg + n.toNatClampNeg ≤ n1 then
          some (L, r, zur σ d (va_cpy (σ.2.1 s) (σ.2.1 d) sp.toNatClampNeg dp.toNatClampNeg n.toNatClampNeg)) else none
      | _, _ => none)
  | _ => none
/-- Math.max, Math.min -/
def zo_mm (f : Int32 → Int32 → Int32) (L : zL) (st : List Value) (σ : zS) : zO := match st with
  | .int y :: .int x :: r => if r.length ≤ 4 then some (L, .int (f x y) :: r, σ) else none
  | _ => none
def zst (sc : zX) (i : Instr) (L : zL) (st : List Value) (σ : zS) : zO := match i with
  | .iload k => zo_iload k L st σ
  | .aload k => zo_aload k L st σ
  | .lload k => zo_lload k L st σ
  | .astore k => zo_astore k L st σ
  | .istore k => zo_istore k L st σ
  | .lstore k => zo_lstore k L st σ
  | .iinc k n => zo_iinc k n L st σ
  | .sipush v => some (L, .int (Int32.ofInt v) :: st, σ)
  | .lconst n => some (L, .long (Int64.ofNat n) :: st, σ)
  | .ldc2_w n => some (L, .long (zLc n) :: st, σ)
  | .iadd => zo_ii (fun x y => x + y) L st σ
  | .isub => zo_ii (fun x y => x - y) L st σ
  | .imul => zo_ii (fun x y => x * y) L st σ
  | .iand => zo_ii (fun x y => x &&& y) L st σ
  | .ior => zo_ii (fun x y => x ||| y) L st σ
  | .ixor => zo_ii (fun x y => x ^^^ y) L st σ
  | .ishl => zo_ii (fun x y => x <<< (y &&& 31)) L st σ
  | .ishr => zo_ii (fun x y => x >>> (y &&& 31)) L st σ
  | .iushr => zo_ii (fun x y => (x.toUInt32 >>> (y.toUInt32 &&& Int32.toUInt32 31)).toInt32) L st σ
  | .idiv => zo_idiv L st σ
  | .irem => zo_irem L st σ
  | .land => zo_ll (fun x y => x &&& y) L st σ
  | .lor => zo_ll (fun x y => x ||| y) L st σ
  | .lshl => zo_li (fun x y => x <<< (y.toInt64 &&& 63)) L st σ
  | .lshr => zo_li (fun x y => x >>> (y.toInt64 &&& 63)) L st σ
  | .ineg => zo_i (fun x => -x) L st σ
  | .i2b => zo_i (fun x => x.toInt8.toInt32) L st σ
  | .i2s => zo_i (fun x => x.toInt16.toInt32) L st σ
  | .i2l => zo_i2l L st σ
  | .ladd => zo_ll (fun x y => x + y) L st σ
  | .lsub => zo_ll (fun x y => x - y) L st σ
  | .lmul => zo_ll (fun x y => x * y) L st σ
  | .lcmp => zo_lcmp L st σ
  | .dup => zo_dup L st σ
  | .dup_x1 => zo_dupx1 L st σ
  | .dup2 => zo_dup2 L st σ
  | .pop => zo_pop L st σ
  | .getfield q => zo_get q L st σ
  | .putfield q => zo_put q L st σ
  | .iaload => zo_iald sc L st σ
  | .baload => zo_bald sc L st σ
  | .laload => zo_lald sc L st σ
  | .aaload => zo_aald sc L st σ
  | .iastore => zo_iast sc L st σ
  | .bastore => zo_bast sc L st σ
  | .lastore => zo_last sc L st σ
  | .arraylength => zo_alen sc L st σ
  | .invokestatic k => if k = 999 then zo_copy sc L st σ else if k = 998 then zo_mm (fun x y => if x < y then y else x) L st σ else if k = 997 then zo_mm (fun x y => if y < x then y else x) L st σ else none
  | _ => none
/-- a call: the method, its arguments, what stays on the stack -/
def zcal (i : Instr) (st : List Value) : Option (Nat × List Value × List Value) := match i with
  | .invokevirtual k => if st[znp k]? = some (.ref (zown k)) ∧ zown k < 12 ∧ (st.drop (znp k + 1)).length ≤ 4 then some (k, .ref (zown k) :: (st.take (znp k)).reverse, st.drop (znp k + 1)) else none
  | .invokestatic k => if 997 ≤ k then none else if znp k ≤ st.length ∧ (st.drop (znp k)).length ≤ 4 then some (k, (st.take (znp k)).reverse, st.drop (znp k)) else none
  | _ => none
def zc1 (c : ClassFile.Cond) (x : Int32) : Bool := match c with
  | .eq => decide (x = 0)
  | .ne => !decide (x = 0)
  | .lt => decide (x < 0)
  | .ge => decide (0 ≤ x)
  | .gt => decide (0 < x)
  | .le => decide (x ≤ 0)
def zc2 (c : ClassFile.Cond) (x y : Int32) : Bool := match c with
  | .eq => decide (x = y)
  | .ne => !decide (x = y)
  | .lt => decide (x < y)
  | .ge => decide (y ≤ x)
  | .gt => decide (y < x)
  | .le => decide (x ≤ y)
def zlk : List (Int × Int) → Int → Int → Int
  | [], d, _ => d
  | (k, o) :: r, d, x => if x = k then o else zlk r d x
/-- what comes next: a jump or none, a return -/
def zjmp (mt : Nat) (i : Instr) (st : List Value) (σ : zS) : Option ((List Value × Option Nat) ⊕ (Option Value × zS)) := match i with
  | .goto t => some (.inl (st, some t.toNat))
  | .ifCond c t => (match st with
      | .int x :: r => some (.inl (r, if zc1 c x = true then some t.toNat else none))
      | _ => none)
  | .if_icmp c t => (match st with
      | .int y :: .int x :: r => some (.inl (r, if zc2 c x y = true then some t.toNat else none))
      | _ => none)
  | .lookupswitch d ps => (match st with
      | .int x :: r => some (.inl (r, some (zlk ps.toList d x.toInt).toNat))
      | _ => none)
  | .ireturn => (match st with
      | [.int v] => if zret mt = some .int ∨ (zret mt = some .boolean ∧ (v = 0 ∨ v = 1)) then some (.inr (some (.int v), σ)) else none
      | _ => none)
  | .lreturn => (match st with
      | [.long v] => if zret mt = some .long then some (.inr (some (.long v), σ)) else none
      | _ => none)
  | .return_ => (match st with
      | [] => if zret mt = none then some (.inr (none, σ)) else none
      | _ => none)
  | _ => none
def zsl (args : List Value) : zL := args.flatMap (fun v => if v.category = 2 then [some v, none] else [some v])
def zini (mt : Nat) (args : List Value) : zL := zsl args ++ List.replicate (zml mt - (zsl args).length) none
/-- a new row of the law's -/
def znew (sc : zX) (mt : Nat) (i : Instr) (st : List Value) (σ : zS) : Option zS := match i with
  | .newarray ty => (match st with
      | [.int n] => (match zar (93 + sc.2.2) with
          | some (k, m, _) => if mt = zLAW ∧ n = Int32.ofNat m ∧ k = 0 ∧ ty = .int then some (zur σ (93 + sc.2.2) (fun _ => 0)) else if mt = zLAW ∧ n = Int32.ofNat m ∧ k = 2 ∧ ty = .long then some (zul σ (93 + sc.2.2) (fun _ => 0)) else none
          | none => none)
      | _ => none)
  | _ => none
def znw (sc : zX) (mt : Nat) (ty : ArrayType) (n : Int32) (σ : zS) (z : Option (Nat × Nat × Nat)) : Option zS := match z with
  | some (k, m, _) => if mt = zLAW ∧ n = Int32.ofNat m ∧ k = 0 ∧ ty = .int then some (zur σ (93 + sc.2.2) (fun _ => 0)) else if mt = zLAW ∧ n = Int32.ofNat m ∧ k = 2 ∧ ty = .long then some (zul σ (93 + sc.2.2) (fun _ => 0)) else none
  | none => none
theorem znew_i {sc : zX} {mt m b : Nat} {n : Int32} {σ : zS} (h : zar (93 + sc.2.2) = some (0, m, b)) (hm : mt = zLAW) (hn : n = Int32.ofNat m) : znew sc mt (.newarray .int) [.int n] σ = some (zur σ (93 + sc.2.2) (fun _ => 0)) := by
  have e : znew sc mt (.newarray .int) [.int n] σ = znw sc mt .int n σ (zar (93 + sc.2.2)) := rfl
  rw [e, h]
  exact if_pos ⟨hm, hn, rfl, rfl⟩
theorem znew_l {sc : zX} {mt m b : Nat} {n : Int32} {σ : zS} (h : zar (93 + sc.2.2) = some (2, m, b)) (hm : mt = zLAW) (hn : n = Int32.ofNat m) : znew sc mt (.newarray .long) [.int n] σ = some (zul σ (93 + sc.2.2) (fun _ => 0)) := by
  have e : znew sc mt (.newarray .long) [.int n] σ = znw sc mt .long n σ (zar (93 + sc.2.2)) := rfl
  rw [e, h]
  exact (if_neg (fun q => absurd q.2.2.1 (by decide))).trans (if_pos ⟨hm, hn, rfl, rfl⟩)
def zrun : zX → Nat → Nat → List Instr → Nat → zL → List Value → zS → Option (Option Value × zS)
  | _, 0, _, _, _, _, _, _ => none
  | sc, f + 1, mt, [], nb, L, st, σ => zrun sc f mt (zblk mt nb) (nb + 1) L st σ
  | sc, f + 1, mt, i :: is, nb, L, st, σ => match zcal i st with
    | some (k, as, rest) => if (zsl as).length ≤ zml k then (match zrun sc f k (zblk k 0) 1 (zini k as) [] σ with
        | some (r, σ') => zrun sc f mt is nb L (r.toList ++ rest) σ'
        | none => none) else none
    | none => match zjmp mt i st σ with
      | some (.inl (st', some t)) => zrun sc f mt (zblk mt t) (t + 1) L st' σ
      | some (.inl (st', none)) => zrun sc f mt is nb L st' σ
      | some (.inr x) => some x
      | none => match zst sc i L st σ with
        | some (L', st', σ') => zrun sc f mt is nb L' st' σ'
        | none => match znew sc mt i st σ with
          | some σ' => zrun (zup sc) f mt is nb (L.map (zfg (93 + sc.2.2))) [.ref (93 + sc.2.2)] σ'
          | none => none
/-- the machine comes from here to a return, and Q holds of it -/
def PW (sc : zX) (mt : Nat) (is : List Instr) (nb : Nat) (L : zL) (st : List Value) (σ : zS) (Q : Option Value → zS → Prop) : Prop := ∃ (f : Nat) (r : Option Value) (σ' : zS), zrun sc f mt is nb L st σ = some (r, σ') ∧ Q r σ'
def PC (sc : zX) (k : Nat) (as : List Value) (σ : zS) (Q : Option Value → zS → Prop) : Prop := (zsl as).length ≤ zml k ∧ PW sc k (zblk k 0) 1 (zini k as) [] σ Q
theorem zrun_mono0 : ∀ (f : Nat) (sc : zX) (mt : Nat) (is : List Instr) (nb : Nat) (L : zL) (st : List Value) (σ : zS) (x : Option Value × zS), zrun sc f mt is nb L st σ = some x → zrun sc (f + 1) mt is nb L st σ = some x := by
  intro f
  induction f with
  | zero => intro sc mt is nb L st σ x h; simp [zrun] at h
  | succ f ih =>
    intro sc mt is nb L st σ x h
    cases is with
    | nil => rw [zrun] at h ⊢; exact ih _ _ _ _ _ _ _ _ h
    | cons i is =>
      rw [zrun] at h ⊢
      cases hc : zcal i st with
      | some q =>
        obtain ⟨k, as, rest⟩ := q
        simp only [hc] at h ⊢
        split at h
        · rename_i hl
          rw [if_pos hl]
          cases hr : zrun sc f k (zblk k 0) 1 (zini k as) [] σ with
          | none => simp [hr] at h
          | some y =>
            obtain ⟨r, σ'⟩ := y
            simp only [hr] at h
            simp only [ih _ _ _ _ _ _ _ _ hr]
            exact ih _ _ _ _ _ _ _ _ h
        · cases h
      | none =>
        simp only [hc] at h ⊢
        cases hj : zjmp mt i st σ with
        | some q =>
          simp only [hj] at h ⊢
          match q, h with
          | .inl (st', some t), h => exact ih _ _ _ _ _ _ _ _ h
          | .inl (st', none), h => exact ih _ _ _ _ _ _ _ _ h
          | .inr x', h => exact h
        | none =>
          simp only [hj] at h ⊢
          cases hs : zst sc i L st σ with
          | none =>
            simp only [hs] at h ⊢
            cases hn : znew sc mt i st σ with
            | none => simp [hn] at h
            | some σ' =>
              simp only [hn] at h ⊢
              exact ih _ _ _ _ _ _ _ _ h
          | some q =>
            obtain ⟨L', st', σ'⟩ := q
            simp only [hs] at h ⊢
            exact ih _ _ _ _ _ _ _ _ h
theorem zrun_mono (sc : zX) (f mt : Nat) (is : List Instr) (nb : Nat) (L : zL) (st : List Value) (σ : zS) (x : Option Value × zS) (h : zrun sc f mt is nb L st σ = some x) : zrun sc (f + 1) mt is nb L st σ = some x := zrun_mono0 f sc mt is nb L st σ x h
theorem zrun_le (sc : zX) {f g : Nat} (h : f ≤ g) {mt : Nat} {is : List Instr} {nb : Nat} {L : zL} {st : List Value} {σ : zS} {x : Option Value × zS} (hr : zrun sc f mt is nb L st σ = some x) : zrun sc g mt is nb L st σ = some x := by
  induction h with
  | refl => exact hr
  | step _ ih => exact zrun_mono sc _ _ _ _ _ _ _ _ ih
section PWL
variable {sc : zX} {mt nb : Nat} {is : List Instr} {L : zL} {st : List Value} {σ : zS} {Q : Option Value → zS → Prop}
theorem PW.mono {Q' : Option Value → zS → Prop} (h : PW sc mt is nb L st σ Q) (hq : ∀ r σ', Q r σ' → Q' r σ') : PW sc mt is nb L st σ Q' := by
  obtain ⟨f, r, σ', h1, h2⟩ := h
  exact ⟨f, r, σ', h1, hq _ _ h2⟩
theorem PC.mono {k : Nat} {as : List Value} {Q' : Option Value → zS → Prop} (h : PC sc k as σ Q) (hq : ∀ r σ', Q r σ' → Q' r σ') : PC sc k as σ Q' := ⟨h.1, h.2.mono hq⟩
theorem PW_nil : PW sc mt [] nb L st σ Q ↔ PW sc mt (zblk mt nb) (nb + 1) L st σ Q := by
  constructor
  · rintro ⟨f, r, σ', h1, h2⟩
    cases f with
    | zero => simp [zrun] at h1
    | succ f => rw [zrun] at h1; exact ⟨f, r, σ', h1, h2⟩
  · rintro ⟨f, r, σ', h1, h2⟩
    exact ⟨f + 1, r, σ', by rw [zrun]; exact h1, h2⟩
theorem PW_st {i : Instr} {L' : zL} {st' : List Value} {σ' : zS} (h0 : zcal i st = none) (h1 : zjmp mt i st σ = none) (h2 : zst sc i L st σ = some (L', st', σ')) : PW sc mt (i :: is) nb L st σ Q ↔ PW sc mt is nb L' st' σ' Q := by
  constructor
  · rintro ⟨f, r, s', a, b⟩
    cases f with
    | zero => simp [zrun] at a
    | succ f => rw [zrun] at a; simp only [h0, h1, h2] at a; exact ⟨f, r, s', a, b⟩
  · rintro ⟨f, r, s', a, b⟩
    exact ⟨f + 1, r, s', by rw [zrun]; simp only [h0, h1, h2]; exact a, b⟩
theorem PW_no {i : Instr} (h0 : zcal i st = none) (h1 : zjmp mt i st σ = none) (h2 : zst sc i L st σ = none) (h3 : znew sc mt i st σ = none) : PW sc mt (i :: is) nb L st σ Q ↔ False := by
  constructor
  · rintro ⟨f, r, s', a, b⟩
    cases f with
    | zero => simp [zrun] at a
    | succ f => rw [zrun] at a; simp only [h0, h1, h2, h3] at a; cases a
  · exact False.elim
theorem PW_nw {i : Instr} {σ' : zS} (h0 : zcal i st = none) (h1 : zjmp mt i st σ = none) (h2 : zst sc i L st σ = none) (h3 : znew sc mt i st σ = some σ') : PW sc mt (i :: is) nb L st σ Q ↔ PW (zup sc) mt is nb (L.map (zfg (93 + sc.2.2))) [.ref (93 + sc.2.2)] σ' Q := by
  constructor
  · rintro ⟨f, r, s', a, b⟩
    cases f with
    | zero => simp [zrun] at a
    | succ f => rw [zrun] at a; simp only [h0, h1, h2, h3] at a; exact ⟨f, r, s', a, b⟩
  · rintro ⟨f, r, s', a, b⟩
    exact ⟨f + 1, r, s', by rw [zrun]; simp only [h0, h1, h2, h3]; exact a, b⟩
theorem PW_jt {i : Instr} {st' : List Value} {t : Nat} (h0 : zcal i st = none) (h1 : zjmp mt i st σ = some (.inl (st', some t))) : PW sc mt (i :: is) nb L st σ Q ↔ PW sc mt (zblk mt t) (t + 1) L st' σ Q := by
  constructor
  · rintro ⟨f, r, s', a, b⟩
    cases f with
    | zero => simp [zrun] at a
    | succ f => rw [zrun] at a; simp only [h0, h1] at a; exact ⟨f, r, s', a, b⟩
  · rintro ⟨f, r, s', a, b⟩
    exact ⟨f + 1, r, s', by rw [zrun]; simp only [h0, h1]; exact a, b⟩
theorem PW_jn {i : Instr} {st' : List Value} (h0 : zcal i st = none) (h1 : zjmp mt i st σ = some (.inl (st', none))) : PW sc mt (i :: is) nb L st σ Q ↔ PW sc mt is nb L st' σ Q := by
  constructor
  · rintro ⟨f, r, s', a, b⟩
    cases f with
    | zero => simp [zrun] at a
    | succ f => rw [zrun] at a; simp only [h0, h1] at a; exact ⟨f, r, s', a, b⟩
  · rintro ⟨f, r, s', a, b⟩
    exact ⟨f + 1, r, s', by rw [zrun]; simp only [h0, h1]; exact a, b⟩
theorem PW_re {i : Instr} {v : Option Value} {σ' : zS} (h0 : zcal i st = none) (h1 : zjmp mt i st σ = some (.inr (v, σ'))) : PW sc mt (i :: is) nb L st σ Q ↔ Q v σ' := by
  constructor
  · rintro ⟨f, r, s', a, b⟩
    cases f with
    | zero => simp [zrun] at a
    | succ f => rw [zrun] at a; simp only [h0, h1] at a; cases a; exact b
  · intro h
    exact ⟨1, v, σ', by rw [zrun]; simp only [h0, h1], h⟩
theorem PW_ca {i : Instr} {k : Nat} {as rest : List Value} (h0 : zcal i st = some (k, as, rest)) : PW sc mt (i :: is) nb L st σ Q ↔ PC sc k as σ (fun r σ' => PW sc mt is nb L (r.toList ++ rest) σ' Q) := by
  constructor
  · rintro ⟨f, r, s', a, b⟩
    cases f with
    | zero => simp [zrun] at a
    | succ f =>
      rw [zrun] at a
      simp only [h0] at a
      split at a
      · rename_i hl
        cases hr : zrun sc f k (zblk k 0) 1 (zini k as) [] σ with
        | none => simp [hr] at a
        | some y =>
          obtain ⟨r1, σ1⟩ := y
          simp only [hr] at a
          exact ⟨hl, f, r1, σ1, hr, f, r, s', a, b⟩
      · cases a
  · rintro ⟨hl, f, r1, σ1, hr, g, r, s', a, b⟩
    refine ⟨max f g + 1, r, s', ?_, b⟩
    rw [zrun]
    simp only [h0, if_pos hl, zrun_le sc (Nat.le_max_left f g) hr]
    exact zrun_le sc (Nat.le_max_right f g) a
end PWL
