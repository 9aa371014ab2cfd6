/-! THE PURE MACHINE, ROW BY ROW (by program, wip/whole/gen5.py) -/
section PWR
variable {sc : zX} {mt nb : Nat} {is : List Instr} {L : zL} {st : List Value} {σ : zS} {Q : Option Value → zS → Prop}
theorem PW_push {v : Int} (x : Int32) (h : Int32.ofInt v = x) : PW sc mt (.sipush v :: is) nb L st σ Q ↔ PW sc mt is nb L (.int x :: st) σ Q := by
  subst h
  exact PW_st rfl rfl rfl
theorem PW_goto {t : Int} : PW sc mt (.goto t :: is) nb L st σ Q ↔ PW sc mt (zblk mt t.toNat) (t.toNat + 1) L st σ Q := PW_jt rfl rfl
theorem PW_if {c : ClassFile.Cond} {t : Int} {x : Int32} : PW sc mt (.ifCond c t :: is) nb L (.int x :: st) σ Q ↔ (zc1 c x = true → PW sc mt (zblk mt t.toNat) (t.toNat + 1) L st σ Q) ∧ (¬ zc1 c x = true → PW sc mt is nb L st σ Q) := by
  by_cases h : zc1 c x = true
  · rw [PW_jt (t := t.toNat) (st' := st) rfl (by simp [zjmp, h])]
    simp [h]
  · rw [PW_jn (st' := st) rfl (by simp [zjmp, h])]
    simp [h]
theorem PW_ic {c : ClassFile.Cond} {t : Int} {x y : Int32} : PW sc mt (.if_icmp c t :: is) nb L (.int y :: .int x :: st) σ Q ↔ (zc2 c x y = true → PW sc mt (zblk mt t.toNat) (t.toNat + 1) L st σ Q) ∧ (¬ zc2 c x y = true → PW sc mt is nb L st σ Q) := by
  by_cases h : zc2 c x y = true
  · rw [PW_jt (t := t.toNat) (st' := st) rfl (by simp [zjmp, h])]
    simp [h]
  · rw [PW_jn (st' := st) rfl (by simp [zjmp, h])]
    simp [h]
theorem PW_if_eq {t : Int} {x : Int32} : PW sc mt (.ifCond .eq t :: is) nb L (.int x :: st) σ Q ↔ (x = 0 → PW sc mt (zblk mt t.toNat) (t.toNat + 1) L st σ Q) ∧ (¬ x = 0 → PW sc mt is nb L st σ Q) := by rw [PW_if]; simp [zc1]
theorem PW_if_ne {t : Int} {x : Int32} : PW sc mt (.ifCond .ne t :: is) nb L (.int x :: st) σ Q ↔ (¬ x = 0 → PW sc mt (zblk mt t.toNat) (t.toNat + 1) L st σ Q) ∧ (x = 0 → PW sc mt is nb L st σ Q) := by rw [PW_if]; simp [zc1]
theorem PW_if_lt {t : Int} {x : Int32} : PW sc mt (.ifCond .lt t :: is) nb L (.int x :: st) σ Q ↔ (x < 0 → PW sc mt (zblk mt t.toNat) (t.toNat + 1) L st σ Q) ∧ (¬ x < 0 → PW sc mt is nb L st σ Q) := by rw [PW_if]; simp only [zc1, decide_eq_true_eq]
theorem PW_if_ge {t : Int} {x : Int32} : PW sc mt (.ifCond .ge t :: is) nb L (.int x :: st) σ Q ↔ (0 ≤ x → PW sc mt (zblk mt t.toNat) (t.toNat + 1) L st σ Q) ∧ (¬ 0 ≤ x → PW sc mt is nb L st σ Q) := by rw [PW_if]; simp only [zc1, decide_eq_true_eq]
theorem PW_if_gt {t : Int} {x : Int32} : PW sc mt (.ifCond .gt t :: is) nb L (.int x :: st) σ Q ↔ (0 < x → PW sc mt (zblk mt t.toNat) (t.toNat + 1) L st σ Q) ∧ (¬ 0 < x → PW sc mt is nb L st σ Q) := by rw [PW_if]; simp only [zc1, decide_eq_true_eq]
theorem PW_if_le {t : Int} {x : Int32} : PW sc mt (.ifCond .le t :: is) nb L (.int x :: st) σ Q ↔ (x ≤ 0 → PW sc mt (zblk mt t.toNat) (t.toNat + 1) L st σ Q) ∧ (¬ x ≤ 0 → PW sc mt is nb L st σ Q) := by rw [PW_if]; simp only [zc1, decide_eq_true_eq]
theorem PW_ic_eq {t : Int} {x y : Int32} : PW sc mt (.if_icmp .eq t :: is) nb L (.int y :: .int x :: st) σ Q ↔ (x = y → PW sc mt (zblk mt t.toNat) (t.toNat + 1) L st σ Q) ∧ (¬ x = y → PW sc mt is nb L st σ Q) := by rw [PW_ic]; simp only [zc2, decide_eq_true_eq]
theorem PW_ic_ne {t : Int} {x y : Int32} : PW sc mt (.if_icmp .ne t :: is) nb L (.int y :: .int x :: st) σ Q ↔ (¬ x = y → PW sc mt (zblk mt t.toNat) (t.toNat + 1) L st σ Q) ∧ (x = y → PW sc mt is nb L st σ Q) := by rw [PW_ic]; simp [zc2]
theorem PW_ic_lt {t : Int} {x y : Int32} : PW sc mt (.if_icmp .lt t :: is) nb L (.int y :: .int x :: st) σ Q ↔ (x < y → PW sc mt (zblk mt t.toNat) (t.toNat + 1) L st σ Q) ∧ (¬ x < y → PW sc mt is nb L st σ Q) := by rw [PW_ic]; simp only [zc2, decide_eq_true_eq]
theorem PW_ic_ge {t : Int} {x y : Int32} : PW sc mt (.if_icmp .ge t :: is) nb L (.int y :: .int x :: st) σ Q ↔ (y ≤ x → PW sc mt (zblk mt t.toNat) (t.toNat + 1) L st σ Q) ∧ (¬ y ≤ x → PW sc mt is nb L st σ Q) := by rw [PW_ic]; simp only [zc2, decide_eq_true_eq]
theorem PW_ic_gt {t : Int} {x y : Int32} : PW sc mt (.if_icmp .gt t :: is) nb L (.int y :: .int x :: st) σ Q ↔ (y < x → PW sc mt (zblk mt t.toNat) (t.toNat + 1) L st σ Q) ∧ (¬ y < x → PW sc mt is nb L st σ Q) := by rw [PW_ic]; simp only [zc2, decide_eq_true_eq]
theorem PW_ic_le {t : Int} {x y : Int32} : PW sc mt (.if_icmp .le t :: is) nb L (.int y :: .int x :: st) σ Q ↔ (x ≤ y → PW sc mt (zblk mt t.toNat) (t.toNat + 1) L st σ Q) ∧ (¬ x ≤ y → PW sc mt is nb L st σ Q) := by rw [PW_ic]; simp only [zc2, decide_eq_true_eq]
def zsw : List (Int × Int) → Int → Int → (Nat → Prop) → Prop
  | [], d, _, K => K d.toNat
  | (k, t) :: r, d, x, K => (x = k → K t.toNat) ∧ (¬ x = k → zsw r d x K)
theorem zsw_iff {d x : Int} {K : Nat → Prop} : ∀ ps : List (Int × Int), zsw ps d x K ↔ K (zlk ps d x).toNat
  | [] => Iff.rfl
  | (k, t) :: r => by
    unfold zsw zlk
    by_cases h : x = k
    · simp [h]
    · simp [h, zsw_iff r]
theorem PW_lsw {d : Int} {ps : Array (Int × Int)} {x : Int32} : PW sc mt (.lookupswitch d ps :: is) nb L (.int x :: st) σ Q ↔ zsw ps.toList d x.toInt (fun t => PW sc mt (zblk mt t) (t + 1) L st σ Q) := by
  rw [zsw_iff]
  exact PW_jt rfl rfl
theorem PW_ret_i {v : Int32} (h : zret mt = some .int) : PW sc mt (.ireturn :: is) nb L [.int v] σ Q ↔ Q (some (.int v)) σ := PW_re rfl (by simp [zjmp, h])
theorem PW_ret_z {v : Int32} (h : zret mt = some .boolean) : PW sc mt (.ireturn :: is) nb L [.int v] σ Q ↔ (v = 0 ∨ v = 1) ∧ Q (some (.int v)) σ := by
  by_cases hv : v = 0 ∨ v = 1
  · rw [PW_re (v := some (.int v)) (σ' := σ) rfl (by simp [zjmp, h, hv])]
    simp [hv]
  · rw [PW_no rfl (by simp [zjmp, h, hv]) rfl]
    simp [hv]
theorem PW_ret_l {v : Int64} (h : zret mt = some .long) : PW sc mt (.lreturn :: is) nb L [.long v] σ Q ↔ Q (some (.long v)) σ := PW_re rfl (by simp [zjmp, h])
theorem PW_ret_v (h : zret mt = none) : PW sc mt (.return_ :: is) nb L [] σ Q ↔ Q none σ := PW_re rfl (by simp [zjmp, h])
theorem PW_iadd {x y : Int32} : PW sc mt (.iadd :: is) nb L (.int y :: .int x :: st) σ Q ↔ PW sc mt is nb L (.int (x + y) :: st) σ Q := PW_st rfl rfl rfl
theorem PW_isub {x y : Int32} : PW sc mt (.isub :: is) nb L (.int y :: .int x :: st) σ Q ↔ PW sc mt is nb L (.int (x - y) :: st) σ Q := PW_st rfl rfl rfl
theorem PW_imul {x y : Int32} : PW sc mt (.imul :: is) nb L (.int y :: .int x :: st) σ Q ↔ PW sc mt is nb L (.int (x * y) :: st) σ Q := PW_st rfl rfl rfl
theorem PW_iand {x y : Int32} : PW sc mt (.iand :: is) nb L (.int y :: .int x :: st) σ Q ↔ PW sc mt is nb L (.int (x &&& y) :: st) σ Q := PW_st rfl rfl rfl
theorem PW_ior {x y : Int32} : PW sc mt (.ior :: is) nb L (.int y :: .int x :: st) σ Q ↔ PW sc mt is nb L (.int (x ||| y) :: st) σ Q := PW_st rfl rfl rfl
theorem PW_ixor {x y : Int32} : PW sc mt (.ixor :: is) nb L (.int y :: .int x :: st) σ Q ↔ PW sc mt is nb L (.int (x ^^^ y) :: st) σ Q := PW_st rfl rfl rfl
theorem PW_ishl {x y : Int32} : PW sc mt (.ishl :: is) nb L (.int y :: .int x :: st) σ Q ↔ PW sc mt is nb L (.int (x <<< (y &&& 31)) :: st) σ Q := PW_st rfl rfl rfl
theorem PW_ishr {x y : Int32} : PW sc mt (.ishr :: is) nb L (.int y :: .int x :: st) σ Q ↔ PW sc mt is nb L (.int (x >>> (y &&& 31)) :: st) σ Q := PW_st rfl rfl rfl
theorem PW_iushr {x y : Int32} : PW sc mt (.iushr :: is) nb L (.int y :: .int x :: st) σ Q ↔ PW sc mt is nb L (.int (x.toUInt32 >>> (y.toUInt32 &&& Int32.toUInt32 31)).toInt32 :: st) σ Q := PW_st rfl rfl rfl
theorem PW_idiv {x y : Int32} : PW sc mt (.idiv :: is) nb L (.int y :: .int x :: st) σ Q ↔ ¬ y = 0 ∧ PW sc mt is nb L (.int (x / y) :: st) σ Q := by
  by_cases h : y = 0
  · rw [PW_no rfl rfl (by simp [zst, zo_idiv, h])]
    simp [h]
  · rw [PW_st (L' := L) (st' := .int (x / y) :: st) (σ' := σ) rfl rfl (by simp [zst, zo_idiv, h])]
    simp [h]
theorem PW_ineg {x : Int32} : PW sc mt (.ineg :: is) nb L (.int x :: st) σ Q ↔ PW sc mt is nb L (.int (-x) :: st) σ Q := PW_st rfl rfl rfl
theorem PW_i2b {x : Int32} : PW sc mt (.i2b :: is) nb L (.int x :: st) σ Q ↔ PW sc mt is nb L (.int x.toInt8.toInt32 :: st) σ Q := PW_st rfl rfl rfl
theorem PW_i2s {x : Int32} : PW sc mt (.i2s :: is) nb L (.int x :: st) σ Q ↔ PW sc mt is nb L (.int x.toInt16.toInt32 :: st) σ Q := PW_st rfl rfl rfl
theorem PW_i2l {x : Int32} : PW sc mt (.i2l :: is) nb L (.int x :: st) σ Q ↔ PW sc mt is nb L (.long x.toInt64 :: st) σ Q := PW_st rfl rfl rfl
theorem PW_ladd {x y : Int64} : PW sc mt (.ladd :: is) nb L (.long y :: .long x :: st) σ Q ↔ PW sc mt is nb L (.long (x + y) :: st) σ Q := PW_st rfl rfl rfl
theorem PW_lsub {x y : Int64} : PW sc mt (.lsub :: is) nb L (.long y :: .long x :: st) σ Q ↔ PW sc mt is nb L (.long (x - y) :: st) σ Q := PW_st rfl rfl rfl
theorem PW_lmul {x y : Int64} : PW sc mt (.lmul :: is) nb L (.long y :: .long x :: st) σ Q ↔ PW sc mt is nb L (.long (x * y) :: st) σ Q := PW_st rfl rfl rfl
theorem PW_lcmp {x y : Int64} : PW sc mt (.lcmp :: is) nb L (.long y :: .long x :: st) σ Q ↔ PW sc mt is nb L (.int (lg_cmp x y) :: st) σ Q := PW_st rfl rfl rfl
theorem PW_dup_i {x : Int32} : PW sc mt (.dup :: is) nb L (.int x :: st) σ Q ↔ PW sc mt is nb L (.int x :: .int x :: st) σ Q := PW_st rfl rfl rfl
theorem PW_dup_r {a : Nat} : PW sc mt (.dup :: is) nb L (.ref a :: st) σ Q ↔ PW sc mt is nb L (.ref a :: .ref a :: st) σ Q := PW_st rfl rfl rfl
theorem PW_dupx1 {x : Int32} {a : Nat} : PW sc mt (.dup_x1 :: is) nb L (.int x :: .ref a :: st) σ Q ↔ PW sc mt is nb L (.int x :: .ref a :: .int x :: st) σ Q := PW_st rfl rfl rfl
theorem PW_dup2 {x : Int32} {a : Nat} : PW sc mt (.dup2 :: is) nb L (.int x :: .ref a :: st) σ Q ↔ PW sc mt is nb L (.int x :: .ref a :: .int x :: .ref a :: st) σ Q := PW_st rfl rfl rfl
theorem PW_pop {x : Int32} : PW sc mt (.pop :: is) nb L (.int x :: st) σ Q ↔ PW sc mt is nb L st σ Q := PW_st rfl rfl rfl
theorem PW_lconst0 : PW sc mt (.lconst 0 :: is) nb L st σ Q ↔ PW sc mt is nb L (.long 0 :: st) σ Q := PW_st rfl rfl rfl
theorem PW_gstat {x : Nat} : PW sc mt (.getstatic x :: is) nb L st σ Q ↔ PW sc mt is nb L (.ref 133 :: st) σ Q := PW_st rfl rfl rfl
theorem PW_lpw {i : Int32} : PW sc mt (.laload :: is) nb L (.int i :: .ref 133 :: st) σ Q ↔ vp_in i 10 ∧ PW sc mt is nb L (.long (zpw i.toNatClampNeg) :: st) σ Q := by
  by_cases h : i < 0 ∨ 10 ≤ i.toNatClampNeg
  · rw [PW_no rfl rfl (by simp [zst, zo_lald, zin, h])]
    simp [vp_in, h]
  · rw [PW_st (L' := L) (st' := .long (zpw i.toNatClampNeg) :: st) (σ' := σ) rfl rfl (by simp [zst, zo_lald, zin, h])]
    simp [vp_in, h]
theorem PW_get_r {q k a : Nat} (h : zfk q = some k) (ha : a = q / 64) : PW sc mt (.getfield q :: is) nb L (.ref a :: st) σ Q ↔ PW sc mt is nb L (.ref k :: st) σ Q := PW_st rfl rfl (by simp [zst, zo_get, h, ha])
theorem PW_get_i {q a j : Nat} (h : zfk q = none) (ha : a = q / 64) (hj : j = q % 64) : PW sc mt (.getfield q :: is) nb L (.ref a :: st) σ Q ↔ PW sc mt is nb L (.int (σ.1 a j) :: st) σ Q := PW_st rfl rfl (by simp [zst, zo_get, h, ha, hj])
theorem PW_put_i {q a j : Nat} {v : Int32} (h : zfk q = none) (ha : a = q / 64) (hj : j = q % 64) : PW sc mt (.putfield q :: is) nb L (.int v :: .ref a :: st) σ Q ↔ PW sc mt is nb L st (zuf σ a j v) Q := PW_st rfl rfl (by simp [zst, zo_put, h, ha, hj])
theorem PW_iald {a n b : Nat} {i : Int32} (h : zar a = some (0, n, b)) : PW sc mt (.iaload :: is) nb L (.int i :: .ref a :: st) σ Q ↔ vp_in i n ∧ PW sc mt is nb L (.int (σ.2.1 a i.toNatClampNeg) :: st) σ Q := by
  have ha : ¬ a = 134 := fun q => by
    rw [q, show zar 134 = none by decide +kernel] at h
    cases h
  by_cases hi : i < 0 ∨ n ≤ i.toNatClampNeg
  · rw [PW_no rfl rfl (by simp [zst, zo_iald, zin, h, hi, ha])]
    simp [vp_in, hi]
  · rw [PW_st (L' := L) (st' := .int (σ.2.1 a i.toNatClampNeg) :: st) (σ' := σ) rfl rfl (by simp [zst, zo_iald, zin, h, hi, ha])]
    simp [vp_in, hi]
theorem PW_bald {a n b : Nat} {i : Int32} (h : zar a = some (1, n, b)) : PW sc mt (.baload :: is) nb L (.int i :: .ref a :: st) σ Q ↔ vp_in i n ∧ PW sc mt is nb L (.int (σ.2.1 a i.toNatClampNeg) :: st) σ Q := by
  by_cases hi : i < 0 ∨ n ≤ i.toNatClampNeg
  · rw [PW_no rfl rfl (by simp [zst, zo_bald, zin, h, hi])]
    simp [vp_in, hi]
  · rw [PW_st (L' := L) (st' := .int (σ.2.1 a i.toNatClampNeg) :: st) (σ' := σ) rfl rfl (by simp [zst, zo_bald, zin, h, hi])]
    simp [vp_in, hi]
theorem PW_lald {a n b : Nat} {i : Int32} (h : zar a = some (2, n, b)) : PW sc mt (.laload :: is) nb L (.int i :: .ref a :: st) σ Q ↔ vp_in i n ∧ PW sc mt is nb L (.long (σ.2.2 a i.toNatClampNeg) :: st) σ Q := by
  have ha : ¬ a = 133 := fun q => by
    rw [q, show zar 133 = none by decide +kernel] at h
    cases h
  by_cases hi : i < 0 ∨ n ≤ i.toNatClampNeg
  · rw [PW_no rfl rfl (by simp [zst, zo_lald, zin, h, hi, ha])]
    simp [vp_in, hi]
  · rw [PW_st (L' := L) (st' := .long (σ.2.2 a i.toNatClampNeg) :: st) (σ' := σ) rfl rfl (by simp [zst, zo_lald, zin, h, hi, ha])]
    simp [vp_in, hi]
theorem PW_aald {a n b : Nat} {i : Int32} (h : zar a = some (3, n, b)) : PW sc mt (.aaload :: is) nb L (.int i :: .ref a :: st) σ Q ↔ vp_in i n ∧ PW sc mt is nb L (.ref (b + i.toNatClampNeg) :: st) σ Q := by
  by_cases hi : i < 0 ∨ n ≤ i.toNatClampNeg
  · rw [PW_no rfl rfl (by simp [zst, zo_aald, zin, h, hi])]
    simp [vp_in, hi]
  · rw [PW_st (L' := L) (st' := .ref (b + i.toNatClampNeg) :: st) (σ' := σ) rfl rfl (by simp [zst, zo_aald, zin, h, hi])]
    simp [vp_in, hi]
theorem PW_iast {a n b : Nat} {i x : Int32} (h : zar a = some (0, n, b)) : PW sc mt (.iastore :: is) nb L (.int x :: .int i :: .ref a :: st) σ Q ↔ vp_in i n ∧ PW sc mt is nb L st (zur σ a (upd (σ.2.1 a) i.toNatClampNeg x)) Q := by
  by_cases hi : i < 0 ∨ n ≤ i.toNatClampNeg
  · rw [PW_no rfl rfl (by simp [zst, zo_iast, zin, h, hi])]
    simp [vp_in, hi]
  · rw [PW_st (L' := L) (st' := st) (σ' := zur σ a (upd (σ.2.1 a) i.toNatClampNeg x)) rfl rfl (by simp [zst, zo_iast, zin, h, hi])]
    simp [vp_in, hi]
theorem PW_bast {a n b : Nat} {i x : Int32} (h : zar a = some (1, n, b)) : PW sc mt (.bastore :: is) nb L (.int x :: .int i :: .ref a :: st) σ Q ↔ vp_in i n ∧ PW sc mt is nb L st (zur σ a (upd (σ.2.1 a) i.toNatClampNeg (vp_nar .boolean x))) Q := by
  by_cases hi : i < 0 ∨ n ≤ i.toNatClampNeg
  · rw [PW_no rfl rfl (by simp [zst, zo_bast, zin, h, hi])]
    simp [vp_in, hi]
  · rw [PW_st (L' := L) (st' := st) (σ' := zur σ a (upd (σ.2.1 a) i.toNatClampNeg (vp_nar .boolean x))) rfl rfl (by simp [zst, zo_bast, zin, h, hi])]
    simp [vp_in, hi]
theorem PW_last {a n b : Nat} {i : Int32} {x : Int64} (h : zar a = some (2, n, b)) : PW sc mt (.lastore :: is) nb L (.long x :: .int i :: .ref a :: st) σ Q ↔ vp_in i n ∧ PW sc mt is nb L st (zul σ a (vp_updL (σ.2.2 a) i.toNatClampNeg x)) Q := by
  by_cases hi : i < 0 ∨ n ≤ i.toNatClampNeg
  · rw [PW_no rfl rfl (by simp [zst, zo_last, zin, h, hi])]
    simp [vp_in, hi]
  · rw [PW_st (L' := L) (st' := st) (σ' := zul σ a (vp_updL (σ.2.2 a) i.toNatClampNeg x)) rfl rfl (by simp [zst, zo_last, zin, h, hi])]
    simp [vp_in, hi]
theorem PW_alen {a k n b : Nat} (h : zar a = some (k, n, b)) : PW sc mt (.arraylength :: is) nb L (.ref a :: st) σ Q ↔ PW sc mt is nb L (.int (Int32.ofNat n) :: st) σ Q := by
  have ha : ¬ a = 134 := fun q => by
    rw [q, show zar 134 = none by decide +kernel] at h
    cases h
  exact PW_st rfl rfl (by simp [zst, zo_alen, h, ha])
theorem PW_max {x y : Int32} (h : st.length ≤ 4) : PW sc mt (.invokestatic 998 :: is) nb L (.int y :: .int x :: st) σ Q ↔ PW sc mt is nb L (.int (if x < y then y else x) :: st) σ Q := PW_st rfl rfl (by simp [zst, zo_mm, h])
theorem PW_min {x y : Int32} (h : st.length ≤ 4) : PW sc mt (.invokestatic 997 :: is) nb L (.int y :: .int x :: st) σ Q ↔ PW sc mt is nb L (.int (if y < x then y else x) :: st) σ Q := PW_st rfl rfl (by simp [zst, zo_mm, h])
theorem PW_copy {s d n0 n1 b0 b1 : Nat} {n sp dp : Int32} (h0 : zar s = some (0, n0, b0)) (h1 : zar d = some (0, n1, b1)) (h : st.length ≤ 4) (a1 : ¬ sp < 0) (a2 : ¬ dp < 0) (a3 : ¬ n < 0) (a4 : sp.toNatClampNeg + n.toNatClampNeg ≤ n0) (a5 : dp.toNatClampNeg + n.toNatClampNeg ≤ n1) :
    PW sc mt (.invokestatic 999 :: is) nb L (.int n :: .int dp :: .ref d :: .int sp :: .ref s :: st) σ Q ↔ PW sc mt is nb L st (zur σ d (va_cpy (σ.2.1 s) (σ.2.1 d) sp.toNatClampNeg dp.toNatClampNeg n.toNatClampNeg)) Q := PW_st rfl rfl (by simp [zst, zo_copy, h0, h1, h, a1, a2, a3, a4, a5])
theorem PW_ld2 {n : Nat} : PW sc mt (.ldc2_w n :: is) nb L st σ Q ↔ PW sc mt is nb L (.long (zLc n) :: st) σ Q := PW_st rfl rfl rfl
theorem PW_iload_0 {x : Int32} : PW sc mt (.iload 0 :: is) nb (some (.int x) :: L) st σ Q ↔ PW sc mt is nb (some (.int x) :: L) (.int x :: st) σ Q := PW_st rfl rfl rfl
theorem PW_aload_0 {x : Nat} : PW sc mt (.aload 0 :: is) nb (some (.ref x) :: L) st σ Q ↔ PW sc mt is nb (some (.ref x) :: L) (.ref x :: st) σ Q := PW_st rfl rfl rfl
theorem PW_lload_0 {x : Int64} : PW sc mt (.lload 0 :: is) nb (some (.long x) :: L) st σ Q ↔ PW sc mt is nb (some (.long x) :: L) (.long x :: st) σ Q := PW_st rfl rfl rfl
theorem PW_istore_0 {c : Option Value} {x : Int32} (h : zlong? c = false) : PW sc mt (.istore 0 :: is) nb (c :: L) (.int x :: st) σ Q ↔ PW sc mt is nb (some (.int x) :: L) st σ Q := PW_st rfl rfl (by simp [zst, zo_istore, zok, zld, h])
theorem PW_iinc_0_p1 {x : Int32}  : PW sc mt (.iinc 0 1 :: is) nb (some (.int x) :: L) st σ Q ↔ PW sc mt is nb (some (.int (x + 1)) :: L) st σ Q := PW_st rfl rfl (by simp [zst, zo_iinc, zok, zld, zlong?]; try rfl)
theorem PW_iinc_0_m1 {x : Int32}  : PW sc mt (.iinc 0 (-1) :: is) nb (some (.int x) :: L) st σ Q ↔ PW sc mt is nb (some (.int (x + (-1))) :: L) st σ Q := PW_st rfl rfl (by simp [zst, zo_iinc, zok, zld, zlong?]; try rfl)
theorem PW_iinc_0_p8 {x : Int32}  : PW sc mt (.iinc 0 8 :: is) nb (some (.int x) :: L) st σ Q ↔ PW sc mt is nb (some (.int (x + 8)) :: L) st σ Q := PW_st rfl rfl (by simp [zst, zo_iinc, zok, zld, zlong?]; try rfl)
theorem PW_iload_1 {a0 : Option Value} {x : Int32} : PW sc mt (.iload 1 :: is) nb (a0 :: some (.int x) :: L) st σ Q ↔ PW sc mt is nb (a0 :: some (.int x) :: L) (.int x :: st) σ Q := PW_st rfl rfl rfl
theorem PW_aload_1 {a0 : Option Value} {x : Nat} : PW sc mt (.aload 1 :: is) nb (a0 :: some (.ref x) :: L) st σ Q ↔ PW sc mt is nb (a0 :: some (.ref x) :: L) (.ref x :: st) σ Q := PW_st rfl rfl rfl
theorem PW_lload_1 {a0 : Option Value} {x : Int64} : PW sc mt (.lload 1 :: is) nb (a0 :: some (.long x) :: L) st σ Q ↔ PW sc mt is nb (a0 :: some (.long x) :: L) (.long x :: st) σ Q := PW_st rfl rfl rfl
theorem PW_istore_1 {a0 c : Option Value} {x : Int32} (h : zlong? a0 = false) : PW sc mt (.istore 1 :: is) nb (a0 :: c :: L) (.int x :: st) σ Q ↔ PW sc mt is nb (a0 :: some (.int x) :: L) st σ Q := PW_st rfl rfl (by simp [zst, zo_istore, zok, zld, h])
theorem PW_iinc_1_p1 {a0 : Option Value} {x : Int32} (h : zlong? a0 = false) : PW sc mt (.iinc 1 1 :: is) nb (a0 :: some (.int x) :: L) st σ Q ↔ PW sc mt is nb (a0 :: some (.int (x + 1)) :: L) st σ Q := PW_st rfl rfl (by simp [zst, zo_iinc, zok, zld, h]; try rfl)
theorem PW_iinc_1_m1 {a0 : Option Value} {x : Int32} (h : zlong? a0 = false) : PW sc mt (.iinc 1 (-1) :: is) nb (a0 :: some (.int x) :: L) st σ Q ↔ PW sc mt is nb (a0 :: some (.int (x + (-1))) :: L) st σ Q := PW_st rfl rfl (by simp [zst, zo_iinc, zok, zld, h]; try rfl)
theorem PW_iinc_1_p8 {a0 : Option Value} {x : Int32} (h : zlong? a0 = false) : PW sc mt (.iinc 1 8 :: is) nb (a0 :: some (.int x) :: L) st σ Q ↔ PW sc mt is nb (a0 :: some (.int (x + 8)) :: L) st σ Q := PW_st rfl rfl (by simp [zst, zo_iinc, zok, zld, h]; try rfl)
theorem PW_lstore_1 {a0 c d : Option Value} {x : Int64} (h : zlong? a0 = false) : PW sc mt (.lstore 1 :: is) nb (a0 :: c :: d :: L) (.long x :: st) σ Q ↔ PW sc mt is nb (a0 :: some (.long x) :: none :: L) st σ Q := PW_st rfl rfl (by simp [zst, zo_lstore, zok, zld, h])
theorem PW_iload_2 {a0 a1 : Option Value} {x : Int32} : PW sc mt (.iload 2 :: is) nb (a0 :: a1 :: some (.int x) :: L) st σ Q ↔ PW sc mt is nb (a0 :: a1 :: some (.int x) :: L) (.int x :: st) σ Q := PW_st rfl rfl rfl
theorem PW_aload_2 {a0 a1 : Option Value} {x : Nat} : PW sc mt (.aload 2 :: is) nb (a0 :: a1 :: some (.ref x) :: L) st σ Q ↔ PW sc mt is nb (a0 :: a1 :: some (.ref x) :: L) (.ref x :: st) σ Q := PW_st rfl rfl rfl
theorem PW_lload_2 {a0 a1 : Option Value} {x : Int64} : PW sc mt (.lload 2 :: is) nb (a0 :: a1 :: some (.long x) :: L) st σ Q ↔ PW sc mt is nb (a0 :: a1 :: some (.long x) :: L) (.long x :: st) σ Q := PW_st rfl rfl rfl
theorem PW_istore_2 {a0 a1 c : Option Value} {x : Int32} (h : zlong? a1 = false) : PW sc mt (.istore 2 :: is) nb (a0 :: a1 :: c :: L) (.int x :: st) σ Q ↔ PW sc mt is nb (a0 :: a1 :: some (.int x) :: L) st σ Q := PW_st rfl rfl (by simp [zst, zo_istore, zok, zld, h])
theorem PW_iinc_2_p1 {a0 a1 : Option Value} {x : Int32} (h : zlong? a1 = false) : PW sc mt (.iinc 2 1 :: is) nb (a0 :: a1 :: some (.int x) :: L) st σ Q ↔ PW sc mt is nb (a0 :: a1 :: some (.int (x + 1)) :: L) st σ Q := PW_st rfl rfl (by simp [zst, zo_iinc, zok, zld, h]; try rfl)
theorem PW_iinc_2_m1 {a0 a1 : Option Value} {x : Int32} (h : zlong? a1 = false) : PW sc mt (.iinc 2 (-1) :: is) nb (a0 :: a1 :: some (.int x) :: L) st σ Q ↔ PW sc mt is nb (a0 :: a1 :: some (.int (x + (-1))) :: L) st σ Q := PW_st rfl rfl (by simp [zst, zo_iinc, zok, zld, h]; try rfl)
theorem PW_iinc_2_p8 {a0 a1 : Option Value} {x : Int32} (h : zlong? a1 = false) : PW sc mt (.iinc 2 8 :: is) nb (a0 :: a1 :: some (.int x) :: L) st σ Q ↔ PW sc mt is nb (a0 :: a1 :: some (.int (x + 8)) :: L) st σ Q := PW_st rfl rfl (by simp [zst, zo_iinc, zok, zld, h]; try rfl)
theorem PW_lstore_2 {a0 a1 c d : Option Value} {x : Int64} (h : zlong? a1 = false) : PW sc mt (.lstore 2 :: is) nb (a0 :: a1 :: c :: d :: L) (.long x :: st) σ Q ↔ PW sc mt is nb (a0 :: a1 :: some (.long x) :: none :: L) st σ Q := PW_st rfl rfl (by simp [zst, zo_lstore, zok, zld, h])
theorem PW_iload_3 {a0 a1 a2 : Option Value} {x : Int32} : PW sc mt (.iload 3 :: is) nb (a0 :: a1 :: a2 :: some (.int x) :: L) st σ Q ↔ PW sc mt is nb (a0 :: a1 :: a2 :: some (.int x) :: L) (.int x :: st) σ Q := PW_st rfl rfl rfl
theorem PW_aload_3 {a0 a1 a2 : Option Value} {x : Nat} : PW sc mt (.aload 3 :: is) nb (a0 :: a1 :: a2 :: some (.ref x) :: L) st σ Q ↔ PW sc mt is nb (a0 :: a1 :: a2 :: some (.ref x) :: L) (.ref x :: st) σ Q := PW_st rfl rfl rfl
theorem PW_lload_3 {a0 a1 a2 : Option Value} {x : Int64} : PW sc mt (.lload 3 :: is) nb (a0 :: a1 :: a2 :: some (.long x) :: L) st σ Q ↔ PW sc mt is nb (a0 :: a1 :: a2 :: some (.long x) :: L) (.long x :: st) σ Q := PW_st rfl rfl rfl
theorem PW_istore_3 {a0 a1 a2 c : Option Value} {x : Int32} (h : zlong? a2 = false) : PW sc mt (.istore 3 :: is) nb (a0 :: a1 :: a2 :: c :: L) (.int x :: st) σ Q ↔ PW sc mt is nb (a0 :: a1 :: a2 :: some (.int x) :: L) st σ Q := PW_st rfl rfl (by simp [zst, zo_istore, zok, zld, h])
theorem PW_iinc_3_p1 {a0 a1 a2 : Option Value} {x : Int32} (h : zlong? a2 = false) : PW sc mt (.iinc 3 1 :: is) nb (a0 :: a1 :: a2 :: some (.int x) :: L) st σ Q ↔ PW sc mt is nb (a0 :: a1 :: a2 :: some (.int (x + 1)) :: L) st σ Q := PW_st rfl rfl (by simp [zst, zo_iinc, zok, zld, h]; try rfl)
theorem PW_iinc_3_m1 {a0 a1 a2 : Option Value} {x : Int32} (h : zlong? a2 = false) : PW sc mt (.iinc 3 (-1) :: is) nb (a0 :: a1 :: a2 :: some (.int x) :: L) st σ Q ↔ PW sc mt is nb (a0 :: a1 :: a2 :: some (.int (x + (-1))) :: L) st σ Q := PW_st rfl rfl (by simp [zst, zo_iinc, zok, zld, h]; try rfl)
theorem PW_iinc_3_p8 {a0 a1 a2 : Option Value} {x : Int32} (h : zlong? a2 = false) : PW sc mt (.iinc 3 8 :: is) nb (a0 :: a1 :: a2 :: some (.int x) :: L) st σ Q ↔ PW sc mt is nb (a0 :: a1 :: a2 :: some (.int (x + 8)) :: L) st σ Q := PW_st rfl rfl (by simp [zst, zo_iinc, zok, zld, h]; try rfl)
theorem PW_lstore_3 {a0 a1 a2 c d : Option Value} {x : Int64} (h : zlong? a2 = false) : PW sc mt (.lstore 3 :: is) nb (a0 :: a1 :: a2 :: c :: d :: L) (.long x :: st) σ Q ↔ PW sc mt is nb (a0 :: a1 :: a2 :: some (.long x) :: none :: L) st σ Q := PW_st rfl rfl (by simp [zst, zo_lstore, zok, zld, h])
theorem PW_iload_4 {a0 a1 a2 a3 : Option Value} {x : Int32} : PW sc mt (.iload 4 :: is) nb (a0 :: a1 :: a2 :: a3 :: some (.int x) :: L) st σ Q ↔ PW sc mt is nb (a0 :: a1 :: a2 :: a3 :: some (.int x) :: L) (.int x :: st) σ Q := PW_st rfl rfl rfl
theorem PW_aload_4 {a0 a1 a2 a3 : Option Value} {x : Nat} : PW sc mt (.aload 4 :: is) nb (a0 :: a1 :: a2 :: a3 :: some (.ref x) :: L) st σ Q ↔ PW sc mt is nb (a0 :: a1 :: a2 :: a3 :: some (.ref x) :: L) (.ref x :: st) σ Q := PW_st rfl rfl rfl
theorem PW_lload_4 {a0 a1 a2 a3 : Option Value} {x : Int64} : PW sc mt (.lload 4 :: is) nb (a0 :: a1 :: a2 :: a3 :: some (.long x) :: L) st σ Q ↔ PW sc mt is nb (a0 :: a1 :: a2 :: a3 :: some (.long x) :: L) (.long x :: st) σ Q := PW_st rfl rfl rfl
theorem PW_istore_4 {a0 a1 a2 a3 c : Option Value} {x : Int32} (h : zlong? a3 = false) : PW sc mt (.istore 4 :: is) nb (a0 :: a1 :: a2 :: a3 :: c :: L) (.int x :: st) σ Q ↔ PW sc mt is nb (a0 :: a1 :: a2 :: a3 :: some (.int x) :: L) st σ Q := PW_st rfl rfl (by simp [zst, zo_istore, zok, zld, h])
theorem PW_iinc_4_p1 {a0 a1 a2 a3 : Option Value} {x : Int32} (h : zlong? a3 = false) : PW sc mt (.iinc 4 1 :: is) nb (a0 :: a1 :: a2 :: a3 :: some (.int x) :: L) st σ Q ↔ PW sc mt is nb (a0 :: a1 :: a2 :: a3 :: some (.int (x + 1)) :: L) st σ Q := PW_st rfl rfl (by simp [zst, zo_iinc, zok, zld, h]; try rfl)
theorem PW_iinc_4_m1 {a0 a1 a2 a3 : Option Value} {x : Int32} (h : zlong? a3 = false) : PW sc mt (.iinc 4 (-1) :: is) nb (a0 :: a1 :: a2 :: a3 :: some (.int x) :: L) st σ Q ↔ PW sc mt is nb (a0 :: a1 :: a2 :: a3 :: some (.int (x + (-1))) :: L) st σ Q := PW_st rfl rfl (by simp [zst, zo_iinc, zok, zld, h]; try rfl)
theorem PW_iinc_4_p8 {a0 a1 a2 a3 : Option Value} {x : Int32} (h : zlong? a3 = false) : PW sc mt (.iinc 4 8 :: is) nb (a0 :: a1 :: a2 :: a3 :: some (.int x) :: L) st σ Q ↔ PW sc mt is nb (a0 :: a1 :: a2 :: a3 :: some (.int (x + 8)) :: L) st σ Q := PW_st rfl rfl (by simp [zst, zo_iinc, zok, zld, h]; try rfl)
theorem PW_lstore_4 {a0 a1 a2 a3 c d : Option Value} {x : Int64} (h : zlong? a3 = false) : PW sc mt (.lstore 4 :: is) nb (a0 :: a1 :: a2 :: a3 :: c :: d :: L) (.long x :: st) σ Q ↔ PW sc mt is nb (a0 :: a1 :: a2 :: a3 :: some (.long x) :: none :: L) st σ Q := PW_st rfl rfl (by simp [zst, zo_lstore, zok, zld, h])
theorem PW_iload_5 {a0 a1 a2 a3 a4 : Option Value} {x : Int32} : PW sc mt (.iload 5 :: is) nb (a0 :: a1 :: a2 :: a3 :: a4 :: some (.int x) :: L) st σ Q ↔ PW sc mt is nb (a0 :: a1 :: a2 :: a3 :: a4 :: some (.int x) :: L) (.int x :: st) σ Q := PW_st rfl rfl rfl
theorem PW_aload_5 {a0 a1 a2 a3 a4 : Option Value} {x : Nat} : PW sc mt (.aload 5 :: is) nb (a0 :: a1 :: a2 :: a3 :: a4 :: some (.ref x) :: L) st σ Q ↔ PW sc mt is nb (a0 :: a1 :: a2 :: a3 :: a4 :: some (.ref x) :: L) (.ref x :: st) σ Q := PW_st rfl rfl rfl
theorem PW_lload_5 {a0 a1 a2 a3 a4 : Option Value} {x : Int64} : PW sc mt (.lload 5 :: is) nb (a0 :: a1 :: a2 :: a3 :: a4 :: some (.long x) :: L) st σ Q ↔ PW sc mt is nb (a0 :: a1 :: a2 :: a3 :: a4 :: some (.long x) :: L) (.long x :: st) σ Q := PW_st rfl rfl rfl
theorem PW_istore_5 {a0 a1 a2 a3 a4 c : Option Value} {x : Int32} (h : zlong? a4 = false) : PW sc mt (.istore 5 :: is) nb (a0 :: a1 :: a2 :: a3 :: a4 :: c :: L) (.int x :: st) σ Q ↔ PW sc mt is nb (a0 :: a1 :: a2 :: a3 :: a4 :: some (.int x) :: L) st σ Q := PW_st rfl rfl (by simp [zst, zo_istore, zok, zld, h])
theorem PW_iinc_5_p1 {a0 a1 a2 a3 a4 : Option Value} {x : Int32} (h : zlong? a4 = false) : PW sc mt (.iinc 5 1 :: is) nb (a0 :: a1 :: a2 :: a3 :: a4 :: some (.int x) :: L) st σ Q ↔ PW sc mt is nb (a0 :: a1 :: a2 :: a3 :: a4 :: some (.int (x + 1)) :: L) st σ Q := PW_st rfl rfl (by simp [zst, zo_iinc, zok, zld, h]; try rfl)
theorem PW_iinc_5_m1 {a0 a1 a2 a3 a4 : Option Value} {x : Int32} (h : zlong? a4 = false) : PW sc mt (.iinc 5 (-1) :: is) nb (a0 :: a1 :: a2 :: a3 :: a4 :: some (.int x) :: L) st σ Q ↔ PW sc mt is nb (a0 :: a1 :: a2 :: a3 :: a4 :: some (.int (x + (-1))) :: L) st σ Q := PW_st rfl rfl (by simp [zst, zo_iinc, zok, zld, h]; try rfl)
theorem PW_iinc_5_p8 {a0 a1 a2 a3 a4 : Option Value} {x : Int32} (h : zlong? a4 = false) : PW sc mt (.iinc 5 8 :: is) nb (a0 :: a1 :: a2 :: a3 :: a4 :: some (.int x) :: L) st σ Q ↔ PW sc mt is nb (a0 :: a1 :: a2 :: a3 :: a4 :: some (.int (x + 8)) :: L) st σ Q := PW_st rfl rfl (by simp [zst, zo_iinc, zok, zld, h]; try rfl)
theorem PW_lstore_5 {a0 a1 a2 a3 a4 c d : Option Value} {x : Int64} (h : zlong? a4 = false) : PW sc mt (.lstore 5 :: is) nb (a0 :: a1 :: a2 :: a3 :: a4 :: c :: d :: L) (.long x :: st) σ Q ↔ PW sc mt is nb (a0 :: a1 :: a2 :: a3 :: a4 :: some (.long x) :: none :: L) st σ Q := PW_st rfl rfl (by simp [zst, zo_lstore, zok, zld, h])
theorem PW_iload_6 {a0 a1 a2 a3 a4 a5 : Option Value} {x : Int32} : PW sc mt (.iload 6 :: is) nb (a0 :: a1 :: a2 :: a3 :: a4 :: a5 :: some (.int x) :: L) st σ Q ↔ PW sc mt is nb (a0 :: a1 :: a2 :: a3 :: a4 :: a5 :: some (.int x) :: L) (.int x :: st) σ Q := PW_st rfl rfl rfl
theorem PW_aload_6 {a0 a1 a2 a3 a4 a5 : Option Value} {x : Nat} : PW sc mt (.aload 6 :: is) nb (a0 :: a1 :: a2 :: a3 :: a4 :: a5 :: some (.ref x) :: L) st σ Q ↔ PW sc mt is nb (a0 :: a1 :: a2 :: a3 :: a4 :: a5 :: some (.ref x) :: L) (.ref x :: st) σ Q := PW_st rfl rfl rfl
theorem PW_lload_6 {a0 a1 a2 a3 a4 a5 : Option Value} {x : Int64} : PW sc mt (.lload 6 :: is) nb (a0 :: a1 :: a2 :: a3 :: a4 :: a5 :: some (.long x) :: L) st σ Q ↔ PW sc mt is nb (a0 :: a1 :: a2 :: a3 :: a4 :: a5 :: some (.long x) :: L) (.long x :: st) σ Q := PW_st rfl rfl rfl
theorem PW_istore_6 {a0 a1 a2 a3 a4 a5 c : Option Value} {x : Int32} (h : zlong? a5 = false) : PW sc mt (.istore 6 :: is) nb (a0 :: a1 :: a2 :: a3 :: a4 :: a5 :: c :: L) (.int x :: st) σ Q ↔ PW sc mt is nb (a0 :: a1 :: a2 :: a3 :: a4 :: a5 :: some (.int x) :: L) st σ Q := PW_st rfl rfl (by simp [zst, zo_istore, zok, zld, h])
theorem PW_iinc_6_p1 {a0 a1 a2 a3 a4 a5 : Option Value} {x : Int32} (h : zlong? a5 = false) : PW sc mt (.iinc 6 1 :: is) nb (a0 :: a1 :: a2 :: a3 :: a4 :: a5 :: some (.int x) :: L) st σ Q ↔ PW sc mt is nb (a0 :: a1 :: a2 :: a3 :: a4 :: a5 :: some (.int (x + 1)) :: L) st σ Q := PW_st rfl rfl (by simp [zst, zo_iinc, zok, zld, h]; try rfl)
theorem PW_iinc_6_m1 {a0 a1 a2 a3 a4 a5 : Option Value} {x : Int32} (h : zlong? a5 = false) : PW sc mt (.iinc 6 (-1) :: is) nb (a0 :: a1 :: a2 :: a3 :: a4 :: a5 :: some (.int x) :: L) st σ Q ↔ PW sc mt is nb (a0 :: a1 :: a2 :: a3 :: a4 :: a5 :: some (.int (x + (-1))) :: L) st σ Q := PW_st rfl rfl (by simp [zst, zo_iinc, zok, zld, h]; try rfl)
theorem PW_iinc_6_p8 {a0 a1 a2 a3 a4 a5 : Option Value} {x : Int32} (h : zlong? a5 = false) : PW sc mt (.iinc 6 8 :: is) nb (a0 :: a1 :: a2 :: a3 :: a4 :: a5 :: some (.int x) :: L) st σ Q ↔ PW sc mt is nb (a0 :: a1 :: a2 :: a3 :: a4 :: a5 :: some (.int (x + 8)) :: L) st σ Q := PW_st rfl rfl (by simp [zst, zo_iinc, zok, zld, h]; try rfl)
theorem PW_lstore_6 {a0 a1 a2 a3 a4 a5 c d : Option Value} {x : Int64} (h : zlong? a5 = false) : PW sc mt (.lstore 6 :: is) nb (a0 :: a1 :: a2 :: a3 :: a4 :: a5 :: c :: d :: L) (.long x :: st) σ Q ↔ PW sc mt is nb (a0 :: a1 :: a2 :: a3 :: a4 :: a5 :: some (.long x) :: none :: L) st σ Q := PW_st rfl rfl (by simp [zst, zo_lstore, zok, zld, h])
theorem PW_iload_7 {a0 a1 a2 a3 a4 a5 a6 : Option Value} {x : Int32} : PW sc mt (.iload 7 :: is) nb (a0 :: a1 :: a2 :: a3 :: a4 :: a5 :: a6 :: some (.int x) :: L) st σ Q ↔ PW sc mt is nb (a0 :: a1 :: a2 :: a3 :: a4 :: a5 :: a6 :: some (.int x) :: L) (.int x :: st) σ Q := PW_st rfl rfl rfl
theorem PW_aload_7 {a0 a1 a2 a3 a4 a5 a6 : Option Value} {x : Nat} : PW sc mt (.aload 7 :: is) nb (a0 :: a1 :: a2 :: a3 :: a4 :: a5 :: a6 :: some (.ref x) :: L) st σ Q ↔ PW sc mt is nb (a0 :: a1 :: a2 :: a3 :: a4 :: a5 :: a6 :: some (.ref x) :: L) (.ref x :: st) σ Q := PW_st rfl rfl rfl
theorem PW_lload_7 {a0 a1 a2 a3 a4 a5 a6 : Option Value} {x : Int64} : PW sc mt (.lload 7 :: is) nb (a0 :: a1 :: a2 :: a3 :: a4 :: a5 :: a6 :: some (.long x) :: L) st σ Q ↔ PW sc mt is nb (a0 :: a1 :: a2 :: a3 :: a4 :: a5 :: a6 :: some (.long x) :: L) (.long x :: st) σ Q := PW_st rfl rfl rfl
theorem PW_istore_7 {a0 a1 a2 a3 a4 a5 a6 c : Option Value} {x : Int32} (h : zlong? a6 = false) : PW sc mt (.istore 7 :: is) nb (a0 :: a1 :: a2 :: a3 :: a4 :: a5 :: a6 :: c :: L) (.int x :: st) σ Q ↔ PW sc mt is nb (a0 :: a1 :: a2 :: a3 :: a4 :: a5 :: a6 :: some (.int x) :: L) st σ Q := PW_st rfl rfl (by simp [zst, zo_istore, zok, zld, h])
theorem PW_iinc_7_p1 {a0 a1 a2 a3 a4 a5 a6 : Option Value} {x : Int32} (h : zlong? a6 = false) : PW sc mt (.iinc 7 1 :: is) nb (a0 :: a1 :: a2 :: a3 :: a4 :: a5 :: a6 :: some (.int x) :: L) st σ Q ↔ PW sc mt is nb (a0 :: a1 :: a2 :: a3 :: a4 :: a5 :: a6 :: some (.int (x + 1)) :: L) st σ Q := PW_st rfl rfl (by simp [zst, zo_iinc, zok, zld, h]; try rfl)
theorem PW_iinc_7_m1 {a0 a1 a2 a3 a4 a5 a6 : Option Value} {x : Int32} (h : zlong? a6 = false) : PW sc mt (.iinc 7 (-1) :: is) nb (a0 :: a1 :: a2 :: a3 :: a4 :: a5 :: a6 :: some (.int x) :: L) st σ Q ↔ PW sc mt is nb (a0 :: a1 :: a2 :: a3 :: a4 :: a5 :: a6 :: some (.int (x + (-1))) :: L) st σ Q := PW_st rfl rfl (by simp [zst, zo_iinc, zok, zld, h]; try rfl)
theorem PW_iinc_7_p8 {a0 a1 a2 a3 a4 a5 a6 : Option Value} {x : Int32} (h : zlong? a6 = false) : PW sc mt (.iinc 7 8 :: is) nb (a0 :: a1 :: a2 :: a3 :: a4 :: a5 :: a6 :: some (.int x) :: L) st σ Q ↔ PW sc mt is nb (a0 :: a1 :: a2 :: a3 :: a4 :: a5 :: a6 :: some (.int (x + 8)) :: L) st σ Q := PW_st rfl rfl (by simp [zst, zo_iinc, zok, zld, h]; try rfl)
theorem PW_lstore_7 {a0 a1 a2 a3 a4 a5 a6 c d : Option Value} {x : Int64} (h : zlong? a6 = false) : PW sc mt (.lstore 7 :: is) nb (a0 :: a1 :: a2 :: a3 :: a4 :: a5 :: a6 :: c :: d :: L) (.long x :: st) σ Q ↔ PW sc mt is nb (a0 :: a1 :: a2 :: a3 :: a4 :: a5 :: a6 :: some (.long x) :: none :: L) st σ Q := PW_st rfl rfl (by simp [zst, zo_lstore, zok, zld, h])
theorem PW_iload_8 {a0 a1 a2 a3 a4 a5 a6 a7 : Option Value} {x : Int32} : PW sc mt (.iload 8 :: is) nb (a0 :: a1 :: a2 :: a3 :: a4 :: a5 :: a6 :: a7 :: some (.int x) :: L) st σ Q ↔ PW sc mt is nb (a0 :: a1 :: a2 :: a3 :: a4 :: a5 :: a6 :: a7 :: some (.int x) :: L) (.int x :: st) σ Q := PW_st rfl rfl rfl
theorem PW_aload_8 {a0 a1 a2 a3 a4 a5 a6 a7 : Option Value} {x : Nat} : PW sc mt (.aload 8 :: is) nb (a0 :: a1 :: a2 :: a3 :: a4 :: a5 :: a6 :: a7 :: some (.ref x) :: L) st σ Q ↔ PW sc mt is nb (a0 :: a1 :: a2 :: a3 :: a4 :: a5 :: a6 :: a7 :: some (.ref x) :: L) (.ref x :: st) σ Q := PW_st rfl rfl rfl
theorem PW_lload_8 {a0 a1 a2 a3 a4 a5 a6 a7 : Option Value} {x : Int64} : PW sc mt (.lload 8 :: is) nb (a0 :: a1 :: a2 :: a3 :: a4 :: a5 :: a6 :: a7 :: some (.long x) :: L) st σ Q ↔ PW sc mt is nb (a0 :: a1 :: a2 :: a3 :: a4 :: a5 :: a6 :: a7 :: some (.long x) :: L) (.long x :: st) σ Q := PW_st rfl rfl rfl
theorem PW_istore_8 {a0 a1 a2 a3 a4 a5 a6 a7 c : Option Value} {x : Int32} (h : zlong? a7 = false) : PW sc mt (.istore 8 :: is) nb (a0 :: a1 :: a2 :: a3 :: a4 :: a5 :: a6 :: a7 :: c :: L) (.int x :: st) σ Q ↔ PW sc mt is nb (a0 :: a1 :: a2 :: a3 :: a4 :: a5 :: a6 :: a7 :: some (.int x) :: L) st σ Q := PW_st rfl rfl (by simp [zst, zo_istore, zok, zld, h])
theorem PW_iinc_8_p1 {a0 a1 a2 a3 a4 a5 a6 a7 : Option Value} {x : Int32} (h : zlong? a7 = false) : PW sc mt (.iinc 8 1 :: is) nb (a0 :: a1 :: a2 :: a3 :: a4 :: a5 :: a6 :: a7 :: some (.int x) :: L) st σ Q ↔ PW sc mt is nb (a0 :: a1 :: a2 :: a3 :: a4 :: a5 :: a6 :: a7 :: some (.int (x + 1)) :: L) st σ Q := PW_st rfl rfl (by simp [zst, zo_iinc, zok, zld, h]; try rfl)
theorem PW_iinc_8_m1 {a0 a1 a2 a3 a4 a5 a6 a7 : Option Value} {x : Int32} (h : zlong? a7 = false) : PW sc mt (.iinc 8 (-1) :: is) nb (a0 :: a1 :: a2 :: a3 :: a4 :: a5 :: a6 :: a7 :: some (.int x) :: L) st σ Q ↔ PW sc mt is nb (a0 :: a1 :: a2 :: a3 :: a4 :: a5 :: a6 :: a7 :: some (.int (x + (-1))) :: L) st σ Q := PW_st rfl rfl (by simp [zst, zo_iinc, zok, zld, h]; try rfl)
theorem PW_iinc_8_p8 {a0 a1 a2 a3 a4 a5 a6 a7 : Option Value} {x : Int32} (h : zlong? a7 = false) : PW sc mt (.iinc 8 8 :: is) nb (a0 :: a1 :: a2 :: a3 :: a4 :: a5 :: a6 :: a7 :: some (.int x) :: L) st σ Q ↔ PW sc mt is nb (a0 :: a1 :: a2 :: a3 :: a4 :: a5 :: a6 :: a7 :: some (.int (x + 8)) :: L) st σ Q := PW_st rfl rfl (by simp [zst, zo_iinc, zok, zld, h]; try rfl)
theorem PW_lstore_8 {a0 a1 a2 a3 a4 a5 a6 a7 c d : Option Value} {x : Int64} (h : zlong? a7 = false) : PW sc mt (.lstore 8 :: is) nb (a0 :: a1 :: a2 :: a3 :: a4 :: a5 :: a6 :: a7 :: c :: d :: L) (.long x :: st) σ Q ↔ PW sc mt is nb (a0 :: a1 :: a2 :: a3 :: a4 :: a5 :: a6 :: a7 :: some (.long x) :: none :: L) st σ Q := PW_st rfl rfl (by simp [zst, zo_lstore, zok, zld, h])
theorem PW_iload_9 {a0 a1 a2 a3 a4 a5 a6 a7 a8 : Option Value} {x : Int32} : PW sc mt (.iload 9 :: is) nb (a0 :: a1 :: a2 :: a3 :: a4 :: a5 :: a6 :: a7 :: a8 :: some (.int x) :: L) st σ Q ↔ PW sc mt is nb (a0 :: a1 :: a2 :: a3 :: a4 :: a5 :: a6 :: a7 :: a8 :: some (.int x) :: L) (.int x :: st) σ Q := PW_st rfl rfl rfl
theorem PW_aload_9 {a0 a1 a2 a3 a4 a5 a6 a7 a8 : Option Value} {x : Nat} : PW sc mt (.aload 9 :: is) nb (a0 :: a1 :: a2 :: a3 :: a4 :: a5 :: a6 :: a7 :: a8 :: some (.ref x) :: L) st σ Q ↔ PW sc mt is nb (a0 :: a1 :: a2 :: a3 :: a4 :: a5 :: a6 :: a7 :: a8 :: some (.ref x) :: L) (.ref x :: st) σ Q := PW_st rfl rfl rfl
theorem PW_lload_9 {a0 a1 a2 a3 a4 a5 a6 a7 a8 : Option Value} {x : Int64} : PW sc mt (.lload 9 :: is) nb (a0 :: a1 :: a2 :: a3 :: a4 :: a5 :: a6 :: a7 :: a8 :: some (.long x) :: L) st σ Q ↔ PW sc mt is nb (a0 :: a1 :: a2 :: a3 :: a4 :: a5 :: a6 :: a7 :: a8 :: some (.long x) :: L) (.long x :: st) σ Q := PW_st rfl rfl rfl
theorem PW_istore_9 {a0 a1 a2 a3 a4 a5 a6 a7 a8 c : Option Value} {x : Int32} (h : zlong? a8 = false) : PW sc mt (.istore 9 :: is) nb (a0 :: a1 :: a2 :: a3 :: a4 :: a5 :: a6 :: a7 :: a8 :: c :: L) (.int x :: st) σ Q ↔ PW sc mt is nb (a0 :: a1 :: a2 :: a3 :: a4 :: a5 :: a6 :: a7 :: a8 :: some (.int x) :: L) st σ Q := PW_st rfl rfl (by simp [zst, zo_istore, zok, zld, h])
theorem PW_iinc_9_p1 {a0 a1 a2 a3 a4 a5 a6 a7 a8 : Option Value} {x : Int32} (h : zlong? a8 = false) : PW sc mt (.iinc 9 1 :: is) nb (a0 :: a1 :: a2 :: a3 :: a4 :: a5 :: a6 :: a7 :: a8 :: some (.int x) :: L) st σ Q ↔ PW sc mt is nb (a0 :: a1 :: a2 :: a3 :: a4 :: a5 :: a6 :: a7 :: a8 :: some (.int (x + 1)) :: L) st σ Q := PW_st rfl rfl (by simp [zst, zo_iinc, zok, zld, h]; try rfl)
theorem PW_iinc_9_m1 {a0 a1 a2 a3 a4 a5 a6 a7 a8 : Option Value} {x : Int32} (h : zlong? a8 = false) : PW sc mt (.iinc 9 (-1) :: is) nb (a0 :: a1 :: a2 :: a3 :: a4 :: a5 :: a6 :: a7 :: a8 :: some (.int x) :: L) st σ Q ↔ PW sc mt is nb (a0 :: a1 :: a2 :: a3 :: a4 :: a5 :: a6 :: a7 :: a8 :: some (.int (x + (-1))) :: L) st σ Q := PW_st rfl rfl (by simp [zst, zo_iinc, zok, zld, h]; try rfl)
theorem PW_iinc_9_p8 {a0 a1 a2 a3 a4 a5 a6 a7 a8 : Option Value} {x : Int32} (h : zlong? a8 = false) : PW sc mt (.iinc 9 8 :: is) nb (a0 :: a1 :: a2 :: a3 :: a4 :: a5 :: a6 :: a7 :: a8 :: some (.int x) :: L) st σ Q ↔ PW sc mt is nb (a0 :: a1 :: a2 :: a3 :: a4 :: a5 :: a6 :: a7 :: a8 :: some (.int (x + 8)) :: L) st σ Q := PW_st rfl rfl (by simp [zst, zo_iinc, zok, zld, h]; try rfl)
theorem PW_lstore_9 {a0 a1 a2 a3 a4 a5 a6 a7 a8 c d : Option Value} {x : Int64} (h : zlong? a8 = false) : PW sc mt (.lstore 9 :: is) nb (a0 :: a1 :: a2 :: a3 :: a4 :: a5 :: a6 :: a7 :: a8 :: c :: d :: L) (.long x :: st) σ Q ↔ PW sc mt is nb (a0 :: a1 :: a2 :: a3 :: a4 :: a5 :: a6 :: a7 :: a8 :: some (.long x) :: none :: L) st σ Q := PW_st rfl rfl (by simp [zst, zo_lstore, zok, zld, h])
theorem PW_iload_10 {a0 a1 a2 a3 a4 a5 a6 a7 a8 a9 : Option Value} {x : Int32} : PW sc mt (.iload 10 :: is) nb (a0 :: a1 :: a2 :: a3 :: a4 :: a5 :: a6 :: a7 :: a8 :: a9 :: some (.int x) :: L) st σ Q ↔ PW sc mt is nb (a0 :: a1 :: a2 :: a3 :: a4 :: a5 :: a6 :: a7 :: a8 :: a9 :: some (.int x) :: L) (.int x :: st) σ Q := PW_st rfl rfl rfl
theorem PW_aload_10 {a0 a1 a2 a3 a4 a5 a6 a7 a8 a9 : Option Value} {x : Nat} : PW sc mt (.aload 10 :: is) nb (a0 :: a1 :: a2 :: a3 :: a4 :: a5 :: a6 :: a7 :: a8 :: a9 :: some (.ref x) :: L) st σ Q ↔ PW sc mt is nb (a0 :: a1 :: a2 :: a3 :: a4 :: a5 :: a6 :: a7 :: a8 :: a9 :: some (.ref x) :: L) (.ref x :: st) σ Q := PW_st rfl rfl rfl
theorem PW_lload_10 {a0 a1 a2 a3 a4 a5 a6 a7 a8 a9 : Option Value} {x : Int64} : PW sc mt (.lload 10 :: is) nb (a0 :: a1 :: a2 :: a3 :: a4 :: a5 :: a6 :: a7 :: a8 :: a9 :: some (.long x) :: L) st σ Q ↔ PW sc mt is nb (a0 :: a1 :: a2 :: a3 :: a4 :: a5 :: a6 :: a7 :: a8 :: a9 :: some (.long x) :: L) (.long x :: st) σ Q := PW_st rfl rfl rfl
theorem PW_istore_10 {a0 a1 a2 a3 a4 a5 a6 a7 a8 a9 c : Option Value} {x : Int32} (h : zlong? a9 = false) : PW sc mt (.istore 10 :: is) nb (a0 :: a1 :: a2 :: a3 :: a4 :: a5 :: a6 :: a7 :: a8 :: a9 :: c :: L) (.int x :: st) σ Q ↔ PW sc mt is nb (a0 :: a1 :: a2 :: a3 :: a4 :: a5 :: a6 :: a7 :: a8 :: a9 :: some (.int x) :: L) st σ Q := PW_st rfl rfl (by simp [zst, zo_istore, zok, zld, h])
theorem PW_iinc_10_p1 {a0 a1 a2 a3 a4 a5 a6 a7 a8 a9 : Option Value} {x : Int32} (h : zlong? a9 = false) : PW sc mt (.iinc 10 1 :: is) nb (a0 :: a1 :: a2 :: a3 :: a4 :: a5 :: a6 :: a7 :: a8 :: a9 :: some (.int x) :: L) st σ Q ↔ PW sc mt is nb (a0 :: a1 :: a2 :: a3 :: a4 :: a5 :: a6 :: a7 :: a8 :: a9 :: some (.int (x + 1)) :: L) st σ Q := PW_st rfl rfl (by simp [zst, zo_iinc, zok, zld, h]; try rfl)
theorem PW_iinc_10_m1 {a0 a1 a2 a3 a4 a5 a6 a7 a8 a9 : Option Value} {x : Int32} (h : zlong? a9 = false) : PW sc mt (.iinc 10 (-1) :: is) nb (a0 :: a1 :: a2 :: a3 :: a4 :: a5 :: a6 :: a7 :: a8 :: a9 :: some (.int x) :: L) st σ Q ↔ PW sc mt is nb (a0 :: a1 :: a2 :: a3 :: a4 :: a5 :: a6 :: a7 :: a8 :: a9 :: some (.int (x + (-1))) :: L) st σ Q := PW_st rfl rfl (by simp [zst, zo_iinc, zok, zld, h]; try rfl)
theorem PW_iinc_10_p8 {a0 a1 a2 a3 a4 a5 a6 a7 a8 a9 : Option Value} {x : Int32} (h : zlong? a9 = false) : PW sc mt (.iinc 10 8 :: is) nb (a0 :: a1 :: a2 :: a3 :: a4 :: a5 :: a6 :: a7 :: a8 :: a9 :: some (.int x) :: L) st σ Q ↔ PW sc mt is nb (a0 :: a1 :: a2 :: a3 :: a4 :: a5 :: a6 :: a7 :: a8 :: a9 :: some (.int (x + 8)) :: L) st σ Q := PW_st rfl rfl (by simp [zst, zo_iinc, zok, zld, h]; try rfl)
theorem PW_lstore_10 {a0 a1 a2 a3 a4 a5 a6 a7 a8 a9 c d : Option Value} {x : Int64} (h : zlong? a9 = false) : PW sc mt (.lstore 10 :: is) nb (a0 :: a1 :: a2 :: a3 :: a4 :: a5 :: a6 :: a7 :: a8 :: a9 :: c :: d :: L) (.long x :: st) σ Q ↔ PW sc mt is nb (a0 :: a1 :: a2 :: a3 :: a4 :: a5 :: a6 :: a7 :: a8 :: a9 :: some (.long x) :: none :: L) st σ Q := PW_st rfl rfl (by simp [zst, zo_lstore, zok, zld, h])
theorem PW_iload_11 {a0 a1 a2 a3 a4 a5 a6 a7 a8 a9 a10 : Option Value} {x : Int32} : PW sc mt (.iload 11 :: is) nb (a0 :: a1 :: a2 :: a3 :: a4 :: a5 :: a6 :: a7 :: a8 :: a9 :: a10 :: some (.int x) :: L) st σ Q ↔ PW sc mt is nb (a0 :: a1 :: a2 :: a3 :: a4 :: a5 :: a6 :: a7 :: a8 :: a9 :: a10 :: some (.int x) :: L) (.int x :: st) σ Q := PW_st rfl rfl rfl
theorem PW_aload_11 {a0 a1 a2 a3 a4 a5 a6 a7 a8 a9 a10 : Option Value} {x : Nat} : PW sc mt (.aload 11 :: is) nb (a0 :: a1 :: a2 :: a3 :: a4 :: a5 :: a6 :: a7 :: a8 :: a9 :: a10 :: some (.ref x) :: L) st σ Q ↔ PW sc mt is nb (a0 :: a1 :: a2 :: a3 :: a4 :: a5 :: a6 :: a7 :: a8 :: a9 :: a10 :: some (.ref x) :: L) (.ref x :: st) σ Q := PW_st rfl rfl rfl
theorem PW_lload_11 {a0 a1 a2 a3 a4 a5 a6 a7 a8 a9 a10 : Option Value} {x : Int64} : PW sc mt (.lload 11 :: is) nb (a0 :: a1 :: a2 :: a3 :: a4 :: a5 :: a6 :: a7 :: a8 :: a9 :: a10 :: some (.long x) :: L) st σ Q ↔ PW sc mt is nb (a0 :: a1 :: a2 :: a3 :: a4 :: a5 :: a6 :: a7 :: a8 :: a9 :: a10 :: some (.long x) :: L) (.long x :: st) σ Q := PW_st rfl rfl rfl
theorem PW_istore_11 {a0 a1 a2 a3 a4 a5 a6 a7 a8 a9 a10 c : Option Value} {x : Int32} (h : zlong? a10 = false) : PW sc mt (.istore 11 :: is) nb (a0 :: a1 :: a2 :: a3 :: a4 :: a5 :: a6 :: a7 :: a8 :: a9 :: a10 :: c :: L) (.int x :: st) σ Q ↔ PW sc mt is nb (a0 :: a1 :: a2 :: a3 :: a4 :: a5 :: a6 :: a7 :: a8 :: a9 :: a10 :: some (.int x) :: L) st σ Q := PW_st rfl rfl (by simp [zst, zo_istore, zok, zld, h])
theorem PW_iinc_11_p1 {a0 a1 a2 a3 a4 a5 a6 a7 a8 a9 a10 : Option Value} {x : Int32} (h : zlong? a10 = false) : PW sc mt (.iinc 11 1 :: is) nb (a0 :: a1 :: a2 :: a3 :: a4 :: a5 :: a6 :: a7 :: a8 :: a9 :: a10 :: some (.int x) :: L) st σ Q ↔ PW sc mt is nb (a0 :: a1 :: a2 :: a3 :: a4 :: a5 :: a6 :: a7 :: a8 :: a9 :: a10 :: some (.int (x + 1)) :: L) st σ Q := PW_st rfl rfl (by simp [zst, zo_iinc, zok, zld, h]; try rfl)
theorem PW_iinc_11_m1 {a0 a1 a2 a3 a4 a5 a6 a7 a8 a9 a10 : Option Value} {x : Int32} (h : zlong? a10 = false) : PW sc mt (.iinc 11 (-1) :: is) nb (a0 :: a1 :: a2 :: a3 :: a4 :: a5 :: a6 :: a7 :: a8 :: a9 :: a10 :: some (.int x) :: L) st σ Q ↔ PW sc mt is nb (a0 :: a1 :: a2 :: a3 :: a4 :: a5 :: a6 :: a7 :: a8 :: a9 :: a10 :: some (.int (x + (-1))) :: L) st σ Q := PW_st rfl rfl (by simp [zst, zo_iinc, zok, zld, h]; try rfl)
theorem PW_iinc_11_p8 {a0 a1 a2 a3 a4 a5 a6 a7 a8 a9 a10 : Option Value} {x : Int32} (h : zlong? a10 = false) : PW sc mt (.iinc 11 8 :: is) nb (a0 :: a1 :: a2 :: a3 :: a4 :: a5 :: a6 :: a7 :: a8 :: a9 :: a10 :: some (.int x) :: L) st σ Q ↔ PW sc mt is nb (a0 :: a1 :: a2 :: a3 :: a4 :: a5 :: a6 :: a7 :: a8 :: a9 :: a10 :: some (.int (x + 8)) :: L) st σ Q := PW_st rfl rfl (by simp [zst, zo_iinc, zok, zld, h]; try rfl)
theorem PW_lstore_11 {a0 a1 a2 a3 a4 a5 a6 a7 a8 a9 a10 c d : Option Value} {x : Int64} (h : zlong? a10 = false) : PW sc mt (.lstore 11 :: is) nb (a0 :: a1 :: a2 :: a3 :: a4 :: a5 :: a6 :: a7 :: a8 :: a9 :: a10 :: c :: d :: L) (.long x :: st) σ Q ↔ PW sc mt is nb (a0 :: a1 :: a2 :: a3 :: a4 :: a5 :: a6 :: a7 :: a8 :: a9 :: a10 :: some (.long x) :: none :: L) st σ Q := PW_st rfl rfl (by simp [zst, zo_lstore, zok, zld, h])
theorem PW_iload_12 {a0 a1 a2 a3 a4 a5 a6 a7 a8 a9 a10 a11 : Option Value} {x : Int32} : PW sc mt (.iload 12 :: is) nb (a0 :: a1 :: a2 :: a3 :: a4 :: a5 :: a6 :: a7 :: a8 :: a9 :: a10 :: a11 :: some (.int x) :: L) st σ Q ↔ PW sc mt is nb (a0 :: a1 :: a2 :: a3 :: a4 :: a5 :: a6 :: a7 :: a8 :: a9 :: a10 :: a11 :: some (.int x) :: L) (.int x :: st) σ Q := PW_st rfl rfl rfl
theorem PW_aload_12 {a0 a1 a2 a3 a4 a5 a6 a7 a8 a9 a10 a11 : Option Value} {x : Nat} : PW sc mt (.aload 12 :: is) nb (a0 :: a1 :: a2 :: a3 :: a4 :: a5 :: a6 :: a7 :: a8 :: a9 :: a10 :: a11 :: some (.ref x) :: L) st σ Q ↔ PW sc mt is nb (a0 :: a1 :: a2 :: a3 :: a4 :: a5 :: a6 :: a7 :: a8 :: a9 :: a10 :: a11 :: some (.ref x) :: L) (.ref x :: st) σ Q := PW_st rfl rfl rfl
theorem PW_lload_12 {a0 a1 a2 a3 a4 a5 a6 a7 a8 a9 a10 a11 : Option Value} {x : Int64} : PW sc mt (.lload 12 :: is) nb (a0 :: a1 :: a2 :: a3 :: a4 :: a5 :: a6 :: a7 :: a8 :: a9 :: a10 :: a11 :: some (.long x) :: L) st σ Q ↔ PW sc mt is nb (a0 :: a1 :: a2 :: a3 :: a4 :: a5 :: a6 :: a7 :: a8 :: a9 :: a10 :: a11 :: some (.long x) :: L) (.long x :: st) σ Q := PW_st rfl rfl rfl
theorem PW_istore_12 {a0 a1 a2 a3 a4 a5 a6 a7 a8 a9 a10 a11 c : Option Value} {x : Int32} (h : zlong? a11 = false) : PW sc mt (.istore 12 :: is) nb (a0 :: a1 :: a2 :: a3 :: a4 :: a5 :: a6 :: a7 :: a8 :: a9 :: a10 :: a11 :: c :: L) (.int x :: st) σ Q ↔ PW sc mt is nb (a0 :: a1 :: a2 :: a3 :: a4 :: a5 :: a6 :: a7 :: a8 :: a9 :: a10 :: a11 :: some (.int x) :: L) st σ Q := PW_st rfl rfl (by simp [zst, zo_istore, zok, zld, h])
theorem PW_iinc_12_p1 {a0 a1 a2 a3 a4 a5 a6 a7 a8 a9 a10 a11 : Option Value} {x : Int32} (h : zlong? a11 = false) : PW sc mt (.iinc 12 1 :: is) nb (a0 :: a1 :: a2 :: a3 :: a4 :: a5 :: a6 :: a7 :: a8 :: a9 :: a10 :: a11 :: some (.int x) :: L) st σ Q ↔ PW sc mt is nb (a0 :: a1 :: a2 :: a3 :: a4 :: a5 :: a6 :: a7 :: a8 :: a9 :: a10 :: a11 :: some (.int (x + 1)) :: L) st σ Q := PW_st rfl rfl (by simp [zst, zo_iinc, zok, zld, h]; try rfl)
theorem PW_iinc_12_m1 {a0 a1 a2 a3 a4 a5 a6 a7 a8 a9 a10 a11 : Option Value} {x : Int32} (h : zlong? a11 = false) : PW sc mt (.iinc 12 (-1) :: is) nb (a0 :: a1 :: a2 :: a3 :: a4 :: a5 :: a6 :: a7 :: a8 :: a9 :: a10 :: a11 :: some (.int x) :: L) st σ Q ↔ PW sc mt is nb (a0 :: a1 :: a2 :: a3 :: a4 :: a5 :: a6 :: a7 :: a8 :: a9 :: a10 :: a11 :: some (.int (x + (-1))) :: L) st σ Q := PW_st rfl rfl (by simp [zst, zo_iinc, zok, zld, h]; try rfl)
theorem PW_iinc_12_p8 {a0 a1 a2 a3 a4 a5 a6 a7 a8 a9 a10 a11 : Option Value} {x : Int32} (h : zlong? a11 = false) : PW sc mt (.iinc 12 8 :: is) nb (a0 :: a1 :: a2 :: a3 :: a4 :: a5 :: a6 :: a7 :: a8 :: a9 :: a10 :: a11 :: some (.int x) :: L) st σ Q ↔ PW sc mt is nb (a0 :: a1 :: a2 :: a3 :: a4 :: a5 :: a6 :: a7 :: a8 :: a9 :: a10 :: a11 :: some (.int (x + 8)) :: L) st σ Q := PW_st rfl rfl (by simp [zst, zo_iinc, zok, zld, h]; try rfl)
theorem PW_lstore_12 {a0 a1 a2 a3 a4 a5 a6 a7 a8 a9 a10 a11 c d : Option Value} {x : Int64} (h : zlong? a11 = false) : PW sc mt (.lstore 12 :: is) nb (a0 :: a1 :: a2 :: a3 :: a4 :: a5 :: a6 :: a7 :: a8 :: a9 :: a10 :: a11 :: c :: d :: L) (.long x :: st) σ Q ↔ PW sc mt is nb (a0 :: a1 :: a2 :: a3 :: a4 :: a5 :: a6 :: a7 :: a8 :: a9 :: a10 :: a11 :: some (.long x) :: none :: L) st σ Q := PW_st rfl rfl (by simp [zst, zo_lstore, zok, zld, h])
theorem PW_iload_13 {a0 a1 a2 a3 a4 a5 a6 a7 a8 a9 a10 a11 a12 : Option Value} {x : Int32} : PW sc mt (.iload 13 :: is) nb (a0 :: a1 :: a2 :: a3 :: a4 :: a5 :: a6 :: a7 :: a8 :: a9 :: a10 :: a11 :: a12 :: some (.int x) :: L) st σ Q ↔ PW sc mt is nb (a0 :: a1 :: a2 :: a3 :: a4 :: a5 :: a6 :: a7 :: a8 :: a9 :: a10 :: a11 :: a12 :: some (.int x) :: L) (.int x :: st) σ Q := PW_st rfl rfl rfl
theorem PW_aload_13 {a0 a1 a2 a3 a4 a5 a6 a7 a8 a9 a10 a11 a12 : Option Value} {x : Nat} : PW sc mt (.aload 13 :: is) nb (a0 :: a1 :: a2 :: a3 :: a4 :: a5 :: a6 :: a7 :: a8 :: a9 :: a10 :: a11 :: a12 :: some (.ref x) :: L) st σ Q ↔ PW sc mt is nb (a0 :: a1 :: a2 :: a3 :: a4 :: a5 :: a6 :: a7 :: a8 :: a9 :: a10 :: a11 :: a12 :: some (.ref x) :: L) (.ref x :: st) σ Q := PW_st rfl rfl rfl
theorem PW_lload_13 {a0 a1 a2 a3 a4 a5 a6 a7 a8 a9 a10 a11 a12 : Option Value} {x : Int64} : PW sc mt (.lload 13 :: is) nb (a0 :: a1 :: a2 :: a3 :: a4 :: a5 :: a6 :: a7 :: a8 :: a9 :: a10 :: a11 :: a12 :: some (.long x) :: L) st σ Q ↔ PW sc mt is nb (a0 :: a1 :: a2 :: a3 :: a4 :: a5 :: a6 :: a7 :: a8 :: a9 :: a10 :: a11 :: a12 :: some (.long x) :: L) (.long x :: st) σ Q := PW_st rfl rfl rfl
theorem PW_istore_13 {a0 a1 a2 a3 a4 a5 a6 a7 a8 a9 a10 a11 a12 c : Option Value} {x : Int32} (h : zlong? a12 = false) : PW sc mt (.istore 13 :: is) nb (a0 :: a1 :: a2 :: a3 :: a4 :: a5 :: a6 :: a7 :: a8 :: a9 :: a10 :: a11 :: a12 :: c :: L) (.int x :: st) σ Q ↔ PW sc mt is nb (a0 :: a1 :: a2 :: a3 :: a4 :: a5 :: a6 :: a7 :: a8 :: a9 :: a10 :: a11 :: a12 :: some (.int x) :: L) st σ Q := PW_st rfl rfl (by simp [zst, zo_istore, zok, zld, h])
theorem PW_iinc_13_p1 {a0 a1 a2 a3 a4 a5 a6 a7 a8 a9 a10 a11 a12 : Option Value} {x : Int32} (h : zlong? a12 = false) : PW sc mt (.iinc 13 1 :: is) nb (a0 :: a1 :: a2 :: a3 :: a4 :: a5 :: a6 :: a7 :: a8 :: a9 :: a10 :: a11 :: a12 :: some (.int x) :: L) st σ Q ↔ PW sc mt is nb (a0 :: a1 :: a2 :: a3 :: a4 :: a5 :: a6 :: a7 :: a8 :: a9 :: a10 :: a11 :: a12 :: some (.int (x + 1)) :: L) st σ Q := PW_st rfl rfl (by simp [zst, zo_iinc, zok, zld, h]; try rfl)
theorem PW_iinc_13_m1 {a0 a1 a2 a3 a4 a5 a6 a7 a8 a9 a10 a11 a12 : Option Value} {x : Int32} (h : zlong? a12 = false) : PW sc mt (.iinc 13 (-1) :: is) nb (a0 :: a1 :: a2 :: a3 :: a4 :: a5 :: a6 :: a7 :: a8 :: a9 :: a10 :: a11 :: a12 :: some (.int x) :: L) st σ Q ↔ PW sc mt is nb (a0 :: a1 :: a2 :: a3 :: a4 :: a5 :: a6 :: a7 :: a8 :: a9 :: a10 :: a11 :: a12 :: some (.int (x + (-1))) :: L) st σ Q := PW_st rfl rfl (by simp [zst, zo_iinc, zok, zld, h]; try rfl)
theorem PW_iinc_13_p8 {a0 a1 a2 a3 a4 a5 a6 a7 a8 a9 a10 a11 a12 : Option Value} {x : Int32} (h : zlong? a12 = false) : PW sc mt (.iinc 13 8 :: is) nb (a0 :: a1 :: a2 :: a3 :: a4 :: a5 :: a6 :: a7 :: a8 :: a9 :: a10 :: a11 :: a12 :: some (.int x) :: L) st σ Q ↔ PW sc mt is nb (a0 :: a1 :: a2 :: a3 :: a4 :: a5 :: a6 :: a7 :: a8 :: a9 :: a10 :: a11 :: a12 :: some (.int (x + 8)) :: L) st σ Q := PW_st rfl rfl (by simp [zst, zo_iinc, zok, zld, h]; try rfl)
theorem PW_lstore_13 {a0 a1 a2 a3 a4 a5 a6 a7 a8 a9 a10 a11 a12 c d : Option Value} {x : Int64} (h : zlong? a12 = false) : PW sc mt (.lstore 13 :: is) nb (a0 :: a1 :: a2 :: a3 :: a4 :: a5 :: a6 :: a7 :: a8 :: a9 :: a10 :: a11 :: a12 :: c :: d :: L) (.long x :: st) σ Q ↔ PW sc mt is nb (a0 :: a1 :: a2 :: a3 :: a4 :: a5 :: a6 :: a7 :: a8 :: a9 :: a10 :: a11 :: a12 :: some (.long x) :: none :: L) st σ Q := PW_st rfl rfl (by simp [zst, zo_lstore, zok, zld, h])
theorem PW_iload_14 {a0 a1 a2 a3 a4 a5 a6 a7 a8 a9 a10 a11 a12 a13 : Option Value} {x : Int32} : PW sc mt (.iload 14 :: is) nb (a0 :: a1 :: a2 :: a3 :: a4 :: a5 :: a6 :: a7 :: a8 :: a9 :: a10 :: a11 :: a12 :: a13 :: some (.int x) :: L) st σ Q ↔ PW sc mt is nb (a0 :: a1 :: a2 :: a3 :: a4 :: a5 :: a6 :: a7 :: a8 :: a9 :: a10 :: a11 :: a12 :: a13 :: some (.int x) :: L) (.int x :: st) σ Q := PW_st rfl rfl rfl
theorem PW_aload_14 {a0 a1 a2 a3 a4 a5 a6 a7 a8 a9 a10 a11 a12 a13 : Option Value} {x : Nat} : PW sc mt (.aload 14 :: is) nb (a0 :: a1 :: a2 :: a3 :: a4 :: a5 :: a6 :: a7 :: a8 :: a9 :: a10 :: a11 :: a12 :: a13 :: some (.ref x) :: L) st σ Q ↔ PW sc mt is nb (a0 :: a1 :: a2 :: a3 :: a4 :: a5 :: a6 :: a7 :: a8 :: a9 :: a10 :: a11 :: a12 :: a13 :: some (.ref x) :: L) (.ref x :: st) σ Q := PW_st rfl rfl rfl
theorem PW_lload_14 {a0 a1 a2 a3 a4 a5 a6 a7 a8 a9 a10 a11 a12 a13 : Option Value} {x : Int64} : PW sc mt (.lload 14 :: is) nb (a0 :: a1 :: a2 :: a3 :: a4 :: a5 :: a6 :: a7 :: a8 :: a9 :: a10 :: a11 :: a12 :: a13 :: some (.long x) :: L) st σ Q ↔ PW sc mt is nb (a0 :: a1 :: a2 :: a3 :: a4 :: a5 :: a6 :: a7 :: a8 :: a9 :: a10 :: a11 :: a12 :: a13 :: some (.long x) :: L) (.long x :: st) σ Q := PW_st rfl rfl rfl
theorem PW_istore_14 {a0 a1 a2 a3 a4 a5 a6 a7 a8 a9 a10 a11 a12 a13 c : Option Value} {x : Int32} (h : zlong? a13 = false) : PW sc mt (.istore 14 :: is) nb (a0 :: a1 :: a2 :: a3 :: a4 :: a5 :: a6 :: a7 :: a8 :: a9 :: a10 :: a11 :: a12 :: a13 :: c :: L) (.int x :: st) σ Q ↔ PW sc mt is nb (a0 :: a1 :: a2 :: a3 :: a4 :: a5 :: a6 :: a7 :: a8 :: a9 :: a10 :: a11 :: a12 :: a13 :: some (.int x) :: L) st σ Q := PW_st rfl rfl (by simp [zst, zo_istore, zok, zld, h])
theorem PW_iinc_14_p1 {a0 a1 a2 a3 a4 a5 a6 a7 a8 a9 a10 a11 a12 a13 : Option Value} {x : Int32} (h : zlong? a13 = false) : PW sc mt (.iinc 14 1 :: is) nb (a0 :: a1 :: a2 :: a3 :: a4 :: a5 :: a6 :: a7 :: a8 :: a9 :: a10 :: a11 :: a12 :: a13 :: some (.int x) :: L) st σ Q ↔ PW sc mt is nb (a0 :: a1 :: a2 :: a3 :: a4 :: a5 :: a6 :: a7 :: a8 :: a9 :: a10 :: a11 :: a12 :: a13 :: some (.int (x + 1)) :: L) st σ Q := PW_st rfl rfl (by simp [zst, zo_iinc, zok, zld, h]; try rfl)
theorem PW_iinc_14_m1 {a0 a1 a2 a3 a4 a5 a6 a7 a8 a9 a10 a11 a12 a13 : Option Value} {x : Int32} (h : zlong? a13 = false) : PW sc mt (.iinc 14 (-1) :: is) nb (a0 :: a1 :: a2 :: a3 :: a4 :: a5 :: a6 :: a7 :: a8 :: a9 :: a10 :: a11 :: a12 :: a13 :: some (.int x) :: L) st σ Q ↔ PW sc mt is nb (a0 :: a1 :: a2 :: a3 :: a4 :: a5 :: a6 :: a7 :: a8 :: a9 :: a10 :: a11 :: a12 :: a13 :: some (.int (x + (-1))) :: L) st σ Q := PW_st rfl rfl (by simp [zst, zo_iinc, zok, zld, h]; try rfl)
theorem PW_iinc_14_p8 {a0 a1 a2 a3 a4 a5 a6 a7 a8 a9 a10 a11 a12 a13 : Option Value} {x : Int32} (h : zlong? a13 = false) : PW sc mt (.iinc 14 8 :: is) nb (a0 :: a1 :: a2 :: a3 :: a4 :: a5 :: a6 :: a7 :: a8 :: a9 :: a10 :: a11 :: a12 :: a13 :: some (.int x) :: L) st σ Q ↔ PW sc mt is nb (a0 :: a1 :: a2 :: a3 :: a4 :: a5 :: a6 :: a7 :: a8 :: a9 :: a10 :: a11 :: a12 :: a13 :: some (.int (x + 8)) :: L) st σ Q := PW_st rfl rfl (by simp [zst, zo_iinc, zok, zld, h]; try rfl)
theorem PW_lstore_14 {a0 a1 a2 a3 a4 a5 a6 a7 a8 a9 a10 a11 a12 a13 c d : Option Value} {x : Int64} (h : zlong? a13 = false) : PW sc mt (.lstore 14 :: is) nb (a0 :: a1 :: a2 :: a3 :: a4 :: a5 :: a6 :: a7 :: a8 :: a9 :: a10 :: a11 :: a12 :: a13 :: c :: d :: L) (.long x :: st) σ Q ↔ PW sc mt is nb (a0 :: a1 :: a2 :: a3 :: a4 :: a5 :: a6 :: a7 :: a8 :: a9 :: a10 :: a11 :: a12 :: a13 :: some (.long x) :: none :: L) st σ Q := PW_st rfl rfl (by simp [zst, zo_lstore, zok, zld, h])
theorem PW_km100 : PW sc mt (.sipush (-100) :: is) nb L st σ Q ↔ PW sc mt is nb L (.int (-100) :: st) σ Q := PW_push (-100) (by decide +kernel)
theorem PW_km10 : PW sc mt (.sipush (-10) :: is) nb L st σ Q ↔ PW sc mt is nb L (.int (-10) :: st) σ Q := PW_push (-10) (by decide +kernel)
theorem PW_km9 : PW sc mt (.sipush (-9) :: is) nb L st σ Q ↔ PW sc mt is nb L (.int (-9) :: st) σ Q := PW_push (-9) (by decide +kernel)
theorem PW_km4 : PW sc mt (.sipush (-4) :: is) nb L st σ Q ↔ PW sc mt is nb L (.int (-4) :: st) σ Q := PW_push (-4) (by decide +kernel)
theorem PW_km3 : PW sc mt (.sipush (-3) :: is) nb L st σ Q ↔ PW sc mt is nb L (.int (-3) :: st) σ Q := PW_push (-3) (by decide +kernel)
theorem PW_km2 : PW sc mt (.sipush (-2) :: is) nb L st σ Q ↔ PW sc mt is nb L (.int (-2) :: st) σ Q := PW_push (-2) (by decide +kernel)
theorem PW_km1 : PW sc mt (.sipush (-1) :: is) nb L st σ Q ↔ PW sc mt is nb L (.int (-1) :: st) σ Q := PW_push (-1) (by decide +kernel)
theorem PW_k0 : PW sc mt (.sipush 0 :: is) nb L st σ Q ↔ PW sc mt is nb L (.int 0 :: st) σ Q := PW_push 0 (by decide +kernel)
theorem PW_k1 : PW sc mt (.sipush 1 :: is) nb L st σ Q ↔ PW sc mt is nb L (.int 1 :: st) σ Q := PW_push 1 (by decide +kernel)
theorem PW_k2 : PW sc mt (.sipush 2 :: is) nb L st σ Q ↔ PW sc mt is nb L (.int 2 :: st) σ Q := PW_push 2 (by decide +kernel)
theorem PW_k3 : PW sc mt (.sipush 3 :: is) nb L st σ Q ↔ PW sc mt is nb L (.int 3 :: st) σ Q := PW_push 3 (by decide +kernel)
theorem PW_k4 : PW sc mt (.sipush 4 :: is) nb L st σ Q ↔ PW sc mt is nb L (.int 4 :: st) σ Q := PW_push 4 (by decide +kernel)
theorem PW_k5 : PW sc mt (.sipush 5 :: is) nb L st σ Q ↔ PW sc mt is nb L (.int 5 :: st) σ Q := PW_push 5 (by decide +kernel)
theorem PW_k6 : PW sc mt (.sipush 6 :: is) nb L st σ Q ↔ PW sc mt is nb L (.int 6 :: st) σ Q := PW_push 6 (by decide +kernel)
theorem PW_k7 : PW sc mt (.sipush 7 :: is) nb L st σ Q ↔ PW sc mt is nb L (.int 7 :: st) σ Q := PW_push 7 (by decide +kernel)
theorem PW_k8 : PW sc mt (.sipush 8 :: is) nb L st σ Q ↔ PW sc mt is nb L (.int 8 :: st) σ Q := PW_push 8 (by decide +kernel)
theorem PW_k9 : PW sc mt (.sipush 9 :: is) nb L st σ Q ↔ PW sc mt is nb L (.int 9 :: st) σ Q := PW_push 9 (by decide +kernel)
theorem PW_k10 : PW sc mt (.sipush 10 :: is) nb L st σ Q ↔ PW sc mt is nb L (.int 10 :: st) σ Q := PW_push 10 (by decide +kernel)
theorem PW_k15 : PW sc mt (.sipush 15 :: is) nb L st σ Q ↔ PW sc mt is nb L (.int 15 :: st) σ Q := PW_push 15 (by decide +kernel)
theorem PW_k16 : PW sc mt (.sipush 16 :: is) nb L st σ Q ↔ PW sc mt is nb L (.int 16 :: st) σ Q := PW_push 16 (by decide +kernel)
theorem PW_k20 : PW sc mt (.sipush 20 :: is) nb L st σ Q ↔ PW sc mt is nb L (.int 20 :: st) σ Q := PW_push 20 (by decide +kernel)
theorem PW_k31 : PW sc mt (.sipush 31 :: is) nb L st σ Q ↔ PW sc mt is nb L (.int 31 :: st) σ Q := PW_push 31 (by decide +kernel)
theorem PW_k40 : PW sc mt (.sipush 40 :: is) nb L st σ Q ↔ PW sc mt is nb L (.int 40 :: st) σ Q := PW_push 40 (by decide +kernel)
theorem PW_k48 : PW sc mt (.sipush 48 :: is) nb L st σ Q ↔ PW sc mt is nb L (.int 48 :: st) σ Q := PW_push 48 (by decide +kernel)
theorem PW_k57 : PW sc mt (.sipush 57 :: is) nb L st σ Q ↔ PW sc mt is nb L (.int 57 :: st) σ Q := PW_push 57 (by decide +kernel)
theorem PW_k59 : PW sc mt (.sipush 59 :: is) nb L st σ Q ↔ PW sc mt is nb L (.int 59 :: st) σ Q := PW_push 59 (by decide +kernel)
theorem PW_k60 : PW sc mt (.sipush 60 :: is) nb L st σ Q ↔ PW sc mt is nb L (.int 60 :: st) σ Q := PW_push 60 (by decide +kernel)
theorem PW_k63 : PW sc mt (.sipush 63 :: is) nb L st σ Q ↔ PW sc mt is nb L (.int 63 :: st) σ Q := PW_push 63 (by decide +kernel)
theorem PW_k70 : PW sc mt (.sipush 70 :: is) nb L st σ Q ↔ PW sc mt is nb L (.int 70 :: st) σ Q := PW_push 70 (by decide +kernel)
theorem PW_k99 : PW sc mt (.sipush 99 :: is) nb L st σ Q ↔ PW sc mt is nb L (.int 99 :: st) σ Q := PW_push 99 (by decide +kernel)
theorem PW_k100 : PW sc mt (.sipush 100 :: is) nb L st σ Q ↔ PW sc mt is nb L (.int 100 :: st) σ Q := PW_push 100 (by decide +kernel)
theorem PW_k255 : PW sc mt (.sipush 255 :: is) nb L st σ Q ↔ PW sc mt is nb L (.int 255 :: st) σ Q := PW_push 255 (by decide +kernel)
theorem PW_k601 : PW sc mt (.sipush 601 :: is) nb L st σ Q ↔ PW sc mt is nb L (.int 601 :: st) σ Q := PW_push 601 (by decide +kernel)
theorem PW_k1024 : PW sc mt (.sipush 1024 :: is) nb L st σ Q ↔ PW sc mt is nb L (.int 1024 :: st) σ Q := PW_push 1024 (by decide +kernel)
theorem PW_k1500 : PW sc mt (.sipush 1500 :: is) nb L st σ Q ↔ PW sc mt is nb L (.int 1500 :: st) σ Q := PW_push 1500 (by decide +kernel)
theorem PW_k2100 : PW sc mt (.sipush 2100 :: is) nb L st σ Q ↔ PW sc mt is nb L (.int 2100 :: st) σ Q := PW_push 2100 (by decide +kernel)
theorem PW_k2101 : PW sc mt (.sipush 2101 :: is) nb L st σ Q ↔ PW sc mt is nb L (.int 2101 :: st) σ Q := PW_push 2101 (by decide +kernel)
theorem PW_k65535 : PW sc mt (.sipush 65535 :: is) nb L st σ Q ↔ PW sc mt is nb L (.int 65535 :: st) σ Q := PW_push 65535 (by decide +kernel)
theorem PW_k100000 : PW sc mt (.sipush 100000 :: is) nb L st σ Q ↔ PW sc mt is nb L (.int 100000 :: st) σ Q := PW_push 100000 (by decide +kernel)
theorem PW_k1000000 : PW sc mt (.sipush 1000000 :: is) nb L st σ Q ↔ PW sc mt is nb L (.int 1000000 :: st) σ Q := PW_push 1000000 (by decide +kernel)
theorem PW_k100000000 : PW sc mt (.sipush 100000000 :: is) nb L st σ Q ↔ PW sc mt is nb L (.int 100000000 :: st) σ Q := PW_push 100000000 (by decide +kernel)
theorem PW_k252645135 : PW sc mt (.sipush 252645135 :: is) nb L st σ Q ↔ PW sc mt is nb L (.int 252645135 :: st) σ Q := PW_push 252645135 (by decide +kernel)
theorem PW_k858993459 : PW sc mt (.sipush 858993459 :: is) nb L st σ Q ↔ PW sc mt is nb L (.int 858993459 :: st) σ Q := PW_push 858993459 (by decide +kernel)
theorem PW_k1431655765 : PW sc mt (.sipush 1431655765 :: is) nb L st σ Q ↔ PW sc mt is nb L (.int 1431655765 :: st) σ Q := PW_push 1431655765 (by decide +kernel)
theorem PW_g0 : PW sc mt (.getfield 0 :: is) nb L (.ref 0 :: st) σ Q ↔ PW sc mt is nb L (.ref 13 :: st) σ Q := PW_get_r (by decide +kernel) (by decide +kernel)
theorem PW_g1 : PW sc mt (.getfield 1 :: is) nb L (.ref 0 :: st) σ Q ↔ PW sc mt is nb L (.int (σ.1 0 1) :: st) σ Q := PW_get_i (by decide +kernel) (by decide +kernel) (by decide +kernel)
theorem PW_p1 {v : Int32} : PW sc mt (.putfield 1 :: is) nb L (.int v :: .ref 0 :: st) σ Q ↔ PW sc mt is nb L st (zuf σ 0 1 v) Q := PW_put_i (by decide +kernel) (by decide +kernel) (by decide +kernel)
theorem PW_g2 : PW sc mt (.getfield 2 :: is) nb L (.ref 0 :: st) σ Q ↔ PW sc mt is nb L (.ref 14 :: st) σ Q := PW_get_r (by decide +kernel) (by decide +kernel)
theorem PW_g3 : PW sc mt (.getfield 3 :: is) nb L (.ref 0 :: st) σ Q ↔ PW sc mt is nb L (.int (σ.1 0 3) :: st) σ Q := PW_get_i (by decide +kernel) (by decide +kernel) (by decide +kernel)
theorem PW_p3 {v : Int32} : PW sc mt (.putfield 3 :: is) nb L (.int v :: .ref 0 :: st) σ Q ↔ PW sc mt is nb L st (zuf σ 0 3 v) Q := PW_put_i (by decide +kernel) (by decide +kernel) (by decide +kernel)
theorem PW_g4 : PW sc mt (.getfield 4 :: is) nb L (.ref 0 :: st) σ Q ↔ PW sc mt is nb L (.int (σ.1 0 4) :: st) σ Q := PW_get_i (by decide +kernel) (by decide +kernel) (by decide +kernel)
theorem PW_p4 {v : Int32} : PW sc mt (.putfield 4 :: is) nb L (.int v :: .ref 0 :: st) σ Q ↔ PW sc mt is nb L st (zuf σ 0 4 v) Q := PW_put_i (by decide +kernel) (by decide +kernel) (by decide +kernel)
theorem PW_g5 : PW sc mt (.getfield 5 :: is) nb L (.ref 0 :: st) σ Q ↔ PW sc mt is nb L (.int (σ.1 0 5) :: st) σ Q := PW_get_i (by decide +kernel) (by decide +kernel) (by decide +kernel)
theorem PW_p5 {v : Int32} : PW sc mt (.putfield 5 :: is) nb L (.int v :: .ref 0 :: st) σ Q ↔ PW sc mt is nb L st (zuf σ 0 5 v) Q := PW_put_i (by decide +kernel) (by decide +kernel) (by decide +kernel)
theorem PW_g64 : PW sc mt (.getfield 64 :: is) nb L (.ref 1 :: st) σ Q ↔ PW sc mt is nb L (.ref 15 :: st) σ Q := PW_get_r (by decide +kernel) (by decide +kernel)
theorem PW_g65 : PW sc mt (.getfield 65 :: is) nb L (.ref 1 :: st) σ Q ↔ PW sc mt is nb L (.ref 16 :: st) σ Q := PW_get_r (by decide +kernel) (by decide +kernel)
theorem PW_g66 : PW sc mt (.getfield 66 :: is) nb L (.ref 1 :: st) σ Q ↔ PW sc mt is nb L (.ref 17 :: st) σ Q := PW_get_r (by decide +kernel) (by decide +kernel)
theorem PW_g67 : PW sc mt (.getfield 67 :: is) nb L (.ref 1 :: st) σ Q ↔ PW sc mt is nb L (.ref 18 :: st) σ Q := PW_get_r (by decide +kernel) (by decide +kernel)
theorem PW_g68 : PW sc mt (.getfield 68 :: is) nb L (.ref 1 :: st) σ Q ↔ PW sc mt is nb L (.int (σ.1 1 4) :: st) σ Q := PW_get_i (by decide +kernel) (by decide +kernel) (by decide +kernel)
theorem PW_p68 {v : Int32} : PW sc mt (.putfield 68 :: is) nb L (.int v :: .ref 1 :: st) σ Q ↔ PW sc mt is nb L st (zuf σ 1 4 v) Q := PW_put_i (by decide +kernel) (by decide +kernel) (by decide +kernel)
theorem PW_g69 : PW sc mt (.getfield 69 :: is) nb L (.ref 1 :: st) σ Q ↔ PW sc mt is nb L (.ref 19 :: st) σ Q := PW_get_r (by decide +kernel) (by decide +kernel)
theorem PW_g70 : PW sc mt (.getfield 70 :: is) nb L (.ref 1 :: st) σ Q ↔ PW sc mt is nb L (.int (σ.1 1 6) :: st) σ Q := PW_get_i (by decide +kernel) (by decide +kernel) (by decide +kernel)
theorem PW_p70 {v : Int32} : PW sc mt (.putfield 70 :: is) nb L (.int v :: .ref 1 :: st) σ Q ↔ PW sc mt is nb L st (zuf σ 1 6 v) Q := PW_put_i (by decide +kernel) (by decide +kernel) (by decide +kernel)
theorem PW_g71 : PW sc mt (.getfield 71 :: is) nb L (.ref 1 :: st) σ Q ↔ PW sc mt is nb L (.int (σ.1 1 7) :: st) σ Q := PW_get_i (by decide +kernel) (by decide +kernel) (by decide +kernel)
theorem PW_p71 {v : Int32} : PW sc mt (.putfield 71 :: is) nb L (.int v :: .ref 1 :: st) σ Q ↔ PW sc mt is nb L st (zuf σ 1 7 v) Q := PW_put_i (by decide +kernel) (by decide +kernel) (by decide +kernel)
theorem PW_g72 : PW sc mt (.getfield 72 :: is) nb L (.ref 1 :: st) σ Q ↔ PW sc mt is nb L (.int (σ.1 1 8) :: st) σ Q := PW_get_i (by decide +kernel) (by decide +kernel) (by decide +kernel)
theorem PW_p72 {v : Int32} : PW sc mt (.putfield 72 :: is) nb L (.int v :: .ref 1 :: st) σ Q ↔ PW sc mt is nb L st (zuf σ 1 8 v) Q := PW_put_i (by decide +kernel) (by decide +kernel) (by decide +kernel)
theorem PW_g128 : PW sc mt (.getfield 128 :: is) nb L (.ref 2 :: st) σ Q ↔ PW sc mt is nb L (.int (σ.1 2 0) :: st) σ Q := PW_get_i (by decide +kernel) (by decide +kernel) (by decide +kernel)
theorem PW_p128 {v : Int32} : PW sc mt (.putfield 128 :: is) nb L (.int v :: .ref 2 :: st) σ Q ↔ PW sc mt is nb L st (zuf σ 2 0 v) Q := PW_put_i (by decide +kernel) (by decide +kernel) (by decide +kernel)
theorem PW_g129 : PW sc mt (.getfield 129 :: is) nb L (.ref 2 :: st) σ Q ↔ PW sc mt is nb L (.int (σ.1 2 1) :: st) σ Q := PW_get_i (by decide +kernel) (by decide +kernel) (by decide +kernel)
theorem PW_p129 {v : Int32} : PW sc mt (.putfield 129 :: is) nb L (.int v :: .ref 2 :: st) σ Q ↔ PW sc mt is nb L st (zuf σ 2 1 v) Q := PW_put_i (by decide +kernel) (by decide +kernel) (by decide +kernel)
theorem PW_g130 : PW sc mt (.getfield 130 :: is) nb L (.ref 2 :: st) σ Q ↔ PW sc mt is nb L (.ref 20 :: st) σ Q := PW_get_r (by decide +kernel) (by decide +kernel)
theorem PW_g131 : PW sc mt (.getfield 131 :: is) nb L (.ref 2 :: st) σ Q ↔ PW sc mt is nb L (.ref 21 :: st) σ Q := PW_get_r (by decide +kernel) (by decide +kernel)
theorem PW_g132 : PW sc mt (.getfield 132 :: is) nb L (.ref 2 :: st) σ Q ↔ PW sc mt is nb L (.ref 32 :: st) σ Q := PW_get_r (by decide +kernel) (by decide +kernel)
theorem PW_g133 : PW sc mt (.getfield 133 :: is) nb L (.ref 2 :: st) σ Q ↔ PW sc mt is nb L (.ref 33 :: st) σ Q := PW_get_r (by decide +kernel) (by decide +kernel)
theorem PW_g134 : PW sc mt (.getfield 134 :: is) nb L (.ref 2 :: st) σ Q ↔ PW sc mt is nb L (.ref 34 :: st) σ Q := PW_get_r (by decide +kernel) (by decide +kernel)
theorem PW_g135 : PW sc mt (.getfield 135 :: is) nb L (.ref 2 :: st) σ Q ↔ PW sc mt is nb L (.ref 35 :: st) σ Q := PW_get_r (by decide +kernel) (by decide +kernel)
theorem PW_g136 : PW sc mt (.getfield 136 :: is) nb L (.ref 2 :: st) σ Q ↔ PW sc mt is nb L (.ref 36 :: st) σ Q := PW_get_r (by decide +kernel) (by decide +kernel)
theorem PW_g137 : PW sc mt (.getfield 137 :: is) nb L (.ref 2 :: st) σ Q ↔ PW sc mt is nb L (.ref 37 :: st) σ Q := PW_get_r (by decide +kernel) (by decide +kernel)
theorem PW_g138 : PW sc mt (.getfield 138 :: is) nb L (.ref 2 :: st) σ Q ↔ PW sc mt is nb L (.ref 38 :: st) σ Q := PW_get_r (by decide +kernel) (by decide +kernel)
theorem PW_g192 : PW sc mt (.getfield 192 :: is) nb L (.ref 3 :: st) σ Q ↔ PW sc mt is nb L (.ref 39 :: st) σ Q := PW_get_r (by decide +kernel) (by decide +kernel)
theorem PW_g193 : PW sc mt (.getfield 193 :: is) nb L (.ref 3 :: st) σ Q ↔ PW sc mt is nb L (.ref 40 :: st) σ Q := PW_get_r (by decide +kernel) (by decide +kernel)
theorem PW_g194 : PW sc mt (.getfield 194 :: is) nb L (.ref 3 :: st) σ Q ↔ PW sc mt is nb L (.ref 41 :: st) σ Q := PW_get_r (by decide +kernel) (by decide +kernel)
theorem PW_g195 : PW sc mt (.getfield 195 :: is) nb L (.ref 3 :: st) σ Q ↔ PW sc mt is nb L (.ref 42 :: st) σ Q := PW_get_r (by decide +kernel) (by decide +kernel)
theorem PW_g196 : PW sc mt (.getfield 196 :: is) nb L (.ref 3 :: st) σ Q ↔ PW sc mt is nb L (.ref 43 :: st) σ Q := PW_get_r (by decide +kernel) (by decide +kernel)
theorem PW_g197 : PW sc mt (.getfield 197 :: is) nb L (.ref 3 :: st) σ Q ↔ PW sc mt is nb L (.int (σ.1 3 5) :: st) σ Q := PW_get_i (by decide +kernel) (by decide +kernel) (by decide +kernel)
theorem PW_p197 {v : Int32} : PW sc mt (.putfield 197 :: is) nb L (.int v :: .ref 3 :: st) σ Q ↔ PW sc mt is nb L st (zuf σ 3 5 v) Q := PW_put_i (by decide +kernel) (by decide +kernel) (by decide +kernel)
theorem PW_g256 : PW sc mt (.getfield 256 :: is) nb L (.ref 4 :: st) σ Q ↔ PW sc mt is nb L (.ref 44 :: st) σ Q := PW_get_r (by decide +kernel) (by decide +kernel)
theorem PW_g257 : PW sc mt (.getfield 257 :: is) nb L (.ref 4 :: st) σ Q ↔ PW sc mt is nb L (.ref 45 :: st) σ Q := PW_get_r (by decide +kernel) (by decide +kernel)
theorem PW_g258 : PW sc mt (.getfield 258 :: is) nb L (.ref 4 :: st) σ Q ↔ PW sc mt is nb L (.ref 46 :: st) σ Q := PW_get_r (by decide +kernel) (by decide +kernel)
theorem PW_g259 : PW sc mt (.getfield 259 :: is) nb L (.ref 4 :: st) σ Q ↔ PW sc mt is nb L (.int (σ.1 4 3) :: st) σ Q := PW_get_i (by decide +kernel) (by decide +kernel) (by decide +kernel)
theorem PW_p259 {v : Int32} : PW sc mt (.putfield 259 :: is) nb L (.int v :: .ref 4 :: st) σ Q ↔ PW sc mt is nb L st (zuf σ 4 3 v) Q := PW_put_i (by decide +kernel) (by decide +kernel) (by decide +kernel)
theorem PW_g320 : PW sc mt (.getfield 320 :: is) nb L (.ref 5 :: st) σ Q ↔ PW sc mt is nb L (.ref 47 :: st) σ Q := PW_get_r (by decide +kernel) (by decide +kernel)
theorem PW_g321 : PW sc mt (.getfield 321 :: is) nb L (.ref 5 :: st) σ Q ↔ PW sc mt is nb L (.ref 48 :: st) σ Q := PW_get_r (by decide +kernel) (by decide +kernel)
theorem PW_g322 : PW sc mt (.getfield 322 :: is) nb L (.ref 5 :: st) σ Q ↔ PW sc mt is nb L (.int (σ.1 5 2) :: st) σ Q := PW_get_i (by decide +kernel) (by decide +kernel) (by decide +kernel)
theorem PW_p322 {v : Int32} : PW sc mt (.putfield 322 :: is) nb L (.int v :: .ref 5 :: st) σ Q ↔ PW sc mt is nb L st (zuf σ 5 2 v) Q := PW_put_i (by decide +kernel) (by decide +kernel) (by decide +kernel)
theorem PW_g323 : PW sc mt (.getfield 323 :: is) nb L (.ref 5 :: st) σ Q ↔ PW sc mt is nb L (.ref 49 :: st) σ Q := PW_get_r (by decide +kernel) (by decide +kernel)
theorem PW_g324 : PW sc mt (.getfield 324 :: is) nb L (.ref 5 :: st) σ Q ↔ PW sc mt is nb L (.int (σ.1 5 4) :: st) σ Q := PW_get_i (by decide +kernel) (by decide +kernel) (by decide +kernel)
theorem PW_p324 {v : Int32} : PW sc mt (.putfield 324 :: is) nb L (.int v :: .ref 5 :: st) σ Q ↔ PW sc mt is nb L st (zuf σ 5 4 v) Q := PW_put_i (by decide +kernel) (by decide +kernel) (by decide +kernel)
theorem PW_g384 : PW sc mt (.getfield 384 :: is) nb L (.ref 6 :: st) σ Q ↔ PW sc mt is nb L (.ref 50 :: st) σ Q := PW_get_r (by decide +kernel) (by decide +kernel)
theorem PW_g385 : PW sc mt (.getfield 385 :: is) nb L (.ref 6 :: st) σ Q ↔ PW sc mt is nb L (.int (σ.1 6 1) :: st) σ Q := PW_get_i (by decide +kernel) (by decide +kernel) (by decide +kernel)
theorem PW_p385 {v : Int32} : PW sc mt (.putfield 385 :: is) nb L (.int v :: .ref 6 :: st) σ Q ↔ PW sc mt is nb L st (zuf σ 6 1 v) Q := PW_put_i (by decide +kernel) (by decide +kernel) (by decide +kernel)
theorem PW_g386 : PW sc mt (.getfield 386 :: is) nb L (.ref 6 :: st) σ Q ↔ PW sc mt is nb L (.int (σ.1 6 2) :: st) σ Q := PW_get_i (by decide +kernel) (by decide +kernel) (by decide +kernel)
theorem PW_p386 {v : Int32} : PW sc mt (.putfield 386 :: is) nb L (.int v :: .ref 6 :: st) σ Q ↔ PW sc mt is nb L st (zuf σ 6 2 v) Q := PW_put_i (by decide +kernel) (by decide +kernel) (by decide +kernel)
theorem PW_g387 : PW sc mt (.getfield 387 :: is) nb L (.ref 6 :: st) σ Q ↔ PW sc mt is nb L (.int (σ.1 6 3) :: st) σ Q := PW_get_i (by decide +kernel) (by decide +kernel) (by decide +kernel)
theorem PW_p387 {v : Int32} : PW sc mt (.putfield 387 :: is) nb L (.int v :: .ref 6 :: st) σ Q ↔ PW sc mt is nb L st (zuf σ 6 3 v) Q := PW_put_i (by decide +kernel) (by decide +kernel) (by decide +kernel)
theorem PW_g388 : PW sc mt (.getfield 388 :: is) nb L (.ref 6 :: st) σ Q ↔ PW sc mt is nb L (.int (σ.1 6 4) :: st) σ Q := PW_get_i (by decide +kernel) (by decide +kernel) (by decide +kernel)
theorem PW_p388 {v : Int32} : PW sc mt (.putfield 388 :: is) nb L (.int v :: .ref 6 :: st) σ Q ↔ PW sc mt is nb L st (zuf σ 6 4 v) Q := PW_put_i (by decide +kernel) (by decide +kernel) (by decide +kernel)
theorem PW_g389 : PW sc mt (.getfield 389 :: is) nb L (.ref 6 :: st) σ Q ↔ PW sc mt is nb L (.int (σ.1 6 5) :: st) σ Q := PW_get_i (by decide +kernel) (by decide +kernel) (by decide +kernel)
theorem PW_p389 {v : Int32} : PW sc mt (.putfield 389 :: is) nb L (.int v :: .ref 6 :: st) σ Q ↔ PW sc mt is nb L st (zuf σ 6 5 v) Q := PW_put_i (by decide +kernel) (by decide +kernel) (by decide +kernel)
theorem PW_g390 : PW sc mt (.getfield 390 :: is) nb L (.ref 6 :: st) σ Q ↔ PW sc mt is nb L (.int (σ.1 6 6) :: st) σ Q := PW_get_i (by decide +kernel) (by decide +kernel) (by decide +kernel)
theorem PW_p390 {v : Int32} : PW sc mt (.putfield 390 :: is) nb L (.int v :: .ref 6 :: st) σ Q ↔ PW sc mt is nb L st (zuf σ 6 6 v) Q := PW_put_i (by decide +kernel) (by decide +kernel) (by decide +kernel)
theorem PW_g448 : PW sc mt (.getfield 448 :: is) nb L (.ref 7 :: st) σ Q ↔ PW sc mt is nb L (.ref 51 :: st) σ Q := PW_get_r (by decide +kernel) (by decide +kernel)
theorem PW_g449 : PW sc mt (.getfield 449 :: is) nb L (.ref 7 :: st) σ Q ↔ PW sc mt is nb L (.ref 52 :: st) σ Q := PW_get_r (by decide +kernel) (by decide +kernel)
theorem PW_g450 : PW sc mt (.getfield 450 :: is) nb L (.ref 7 :: st) σ Q ↔ PW sc mt is nb L (.ref 53 :: st) σ Q := PW_get_r (by decide +kernel) (by decide +kernel)
theorem PW_g451 : PW sc mt (.getfield 451 :: is) nb L (.ref 7 :: st) σ Q ↔ PW sc mt is nb L (.ref 54 :: st) σ Q := PW_get_r (by decide +kernel) (by decide +kernel)
theorem PW_g452 : PW sc mt (.getfield 452 :: is) nb L (.ref 7 :: st) σ Q ↔ PW sc mt is nb L (.int (σ.1 7 4) :: st) σ Q := PW_get_i (by decide +kernel) (by decide +kernel) (by decide +kernel)
theorem PW_p452 {v : Int32} : PW sc mt (.putfield 452 :: is) nb L (.int v :: .ref 7 :: st) σ Q ↔ PW sc mt is nb L st (zuf σ 7 4 v) Q := PW_put_i (by decide +kernel) (by decide +kernel) (by decide +kernel)
theorem PW_g512 : PW sc mt (.getfield 512 :: is) nb L (.ref 8 :: st) σ Q ↔ PW sc mt is nb L (.ref 65 :: st) σ Q := PW_get_r (by decide +kernel) (by decide +kernel)
theorem PW_g513 : PW sc mt (.getfield 513 :: is) nb L (.ref 8 :: st) σ Q ↔ PW sc mt is nb L (.ref 66 :: st) σ Q := PW_get_r (by decide +kernel) (by decide +kernel)
theorem PW_g514 : PW sc mt (.getfield 514 :: is) nb L (.ref 8 :: st) σ Q ↔ PW sc mt is nb L (.ref 67 :: st) σ Q := PW_get_r (by decide +kernel) (by decide +kernel)
theorem PW_g515 : PW sc mt (.getfield 515 :: is) nb L (.ref 8 :: st) σ Q ↔ PW sc mt is nb L (.ref 72 :: st) σ Q := PW_get_r (by decide +kernel) (by decide +kernel)
theorem PW_g576 : PW sc mt (.getfield 576 :: is) nb L (.ref 9 :: st) σ Q ↔ PW sc mt is nb L (.ref 73 :: st) σ Q := PW_get_r (by decide +kernel) (by decide +kernel)
theorem PW_g577 : PW sc mt (.getfield 577 :: is) nb L (.ref 9 :: st) σ Q ↔ PW sc mt is nb L (.ref 74 :: st) σ Q := PW_get_r (by decide +kernel) (by decide +kernel)
theorem PW_g578 : PW sc mt (.getfield 578 :: is) nb L (.ref 9 :: st) σ Q ↔ PW sc mt is nb L (.ref 75 :: st) σ Q := PW_get_r (by decide +kernel) (by decide +kernel)
theorem PW_g579 : PW sc mt (.getfield 579 :: is) nb L (.ref 9 :: st) σ Q ↔ PW sc mt is nb L (.int (σ.1 9 3) :: st) σ Q := PW_get_i (by decide +kernel) (by decide +kernel) (by decide +kernel)
theorem PW_p579 {v : Int32} : PW sc mt (.putfield 579 :: is) nb L (.int v :: .ref 9 :: st) σ Q ↔ PW sc mt is nb L st (zuf σ 9 3 v) Q := PW_put_i (by decide +kernel) (by decide +kernel) (by decide +kernel)
theorem PW_g580 : PW sc mt (.getfield 580 :: is) nb L (.ref 9 :: st) σ Q ↔ PW sc mt is nb L (.int (σ.1 9 4) :: st) σ Q := PW_get_i (by decide +kernel) (by decide +kernel) (by decide +kernel)
theorem PW_p580 {v : Int32} : PW sc mt (.putfield 580 :: is) nb L (.int v :: .ref 9 :: st) σ Q ↔ PW sc mt is nb L st (zuf σ 9 4 v) Q := PW_put_i (by decide +kernel) (by decide +kernel) (by decide +kernel)
theorem PW_g581 : PW sc mt (.getfield 581 :: is) nb L (.ref 9 :: st) σ Q ↔ PW sc mt is nb L (.ref 76 :: st) σ Q := PW_get_r (by decide +kernel) (by decide +kernel)
theorem PW_g582 : PW sc mt (.getfield 582 :: is) nb L (.ref 9 :: st) σ Q ↔ PW sc mt is nb L (.int (σ.1 9 6) :: st) σ Q := PW_get_i (by decide +kernel) (by decide +kernel) (by decide +kernel)
theorem PW_p582 {v : Int32} : PW sc mt (.putfield 582 :: is) nb L (.int v :: .ref 9 :: st) σ Q ↔ PW sc mt is nb L st (zuf σ 9 6 v) Q := PW_put_i (by decide +kernel) (by decide +kernel) (by decide +kernel)
theorem PW_g583 : PW sc mt (.getfield 583 :: is) nb L (.ref 9 :: st) σ Q ↔ PW sc mt is nb L (.int (σ.1 9 7) :: st) σ Q := PW_get_i (by decide +kernel) (by decide +kernel) (by decide +kernel)
theorem PW_p583 {v : Int32} : PW sc mt (.putfield 583 :: is) nb L (.int v :: .ref 9 :: st) σ Q ↔ PW sc mt is nb L st (zuf σ 9 7 v) Q := PW_put_i (by decide +kernel) (by decide +kernel) (by decide +kernel)
theorem PW_g584 : PW sc mt (.getfield 584 :: is) nb L (.ref 9 :: st) σ Q ↔ PW sc mt is nb L (.ref 77 :: st) σ Q := PW_get_r (by decide +kernel) (by decide +kernel)
theorem PW_g585 : PW sc mt (.getfield 585 :: is) nb L (.ref 9 :: st) σ Q ↔ PW sc mt is nb L (.int (σ.1 9 9) :: st) σ Q := PW_get_i (by decide +kernel) (by decide +kernel) (by decide +kernel)
theorem PW_p585 {v : Int32} : PW sc mt (.putfield 585 :: is) nb L (.int v :: .ref 9 :: st) σ Q ↔ PW sc mt is nb L st (zuf σ 9 9 v) Q := PW_put_i (by decide +kernel) (by decide +kernel) (by decide +kernel)
theorem PW_g586 : PW sc mt (.getfield 586 :: is) nb L (.ref 9 :: st) σ Q ↔ PW sc mt is nb L (.int (σ.1 9 10) :: st) σ Q := PW_get_i (by decide +kernel) (by decide +kernel) (by decide +kernel)
theorem PW_p586 {v : Int32} : PW sc mt (.putfield 586 :: is) nb L (.int v :: .ref 9 :: st) σ Q ↔ PW sc mt is nb L st (zuf σ 9 10 v) Q := PW_put_i (by decide +kernel) (by decide +kernel) (by decide +kernel)
theorem PW_g640 : PW sc mt (.getfield 640 :: is) nb L (.ref 10 :: st) σ Q ↔ PW sc mt is nb L (.ref 78 :: st) σ Q := PW_get_r (by decide +kernel) (by decide +kernel)
theorem PW_g641 : PW sc mt (.getfield 641 :: is) nb L (.ref 10 :: st) σ Q ↔ PW sc mt is nb L (.ref 79 :: st) σ Q := PW_get_r (by decide +kernel) (by decide +kernel)
theorem PW_g642 : PW sc mt (.getfield 642 :: is) nb L (.ref 10 :: st) σ Q ↔ PW sc mt is nb L (.ref 80 :: st) σ Q := PW_get_r (by decide +kernel) (by decide +kernel)
theorem PW_g643 : PW sc mt (.getfield 643 :: is) nb L (.ref 10 :: st) σ Q ↔ PW sc mt is nb L (.ref 81 :: st) σ Q := PW_get_r (by decide +kernel) (by decide +kernel)
theorem PW_g644 : PW sc mt (.getfield 644 :: is) nb L (.ref 10 :: st) σ Q ↔ PW sc mt is nb L (.ref 82 :: st) σ Q := PW_get_r (by decide +kernel) (by decide +kernel)
theorem PW_g645 : PW sc mt (.getfield 645 :: is) nb L (.ref 10 :: st) σ Q ↔ PW sc mt is nb L (.int (σ.1 10 5) :: st) σ Q := PW_get_i (by decide +kernel) (by decide +kernel) (by decide +kernel)
theorem PW_p645 {v : Int32} : PW sc mt (.putfield 645 :: is) nb L (.int v :: .ref 10 :: st) σ Q ↔ PW sc mt is nb L st (zuf σ 10 5 v) Q := PW_put_i (by decide +kernel) (by decide +kernel) (by decide +kernel)
theorem PW_g704 : PW sc mt (.getfield 704 :: is) nb L (.ref 11 :: st) σ Q ↔ PW sc mt is nb L (.ref 10 :: st) σ Q := PW_get_r (by decide +kernel) (by decide +kernel)
theorem PW_g705 : PW sc mt (.getfield 705 :: is) nb L (.ref 11 :: st) σ Q ↔ PW sc mt is nb L (.ref 7 :: st) σ Q := PW_get_r (by decide +kernel) (by decide +kernel)
theorem PW_g706 : PW sc mt (.getfield 706 :: is) nb L (.ref 11 :: st) σ Q ↔ PW sc mt is nb L (.ref 3 :: st) σ Q := PW_get_r (by decide +kernel) (by decide +kernel)
theorem PW_g707 : PW sc mt (.getfield 707 :: is) nb L (.ref 11 :: st) σ Q ↔ PW sc mt is nb L (.ref 4 :: st) σ Q := PW_get_r (by decide +kernel) (by decide +kernel)
theorem PW_g708 : PW sc mt (.getfield 708 :: is) nb L (.ref 11 :: st) σ Q ↔ PW sc mt is nb L (.ref 1 :: st) σ Q := PW_get_r (by decide +kernel) (by decide +kernel)
theorem PW_g709 : PW sc mt (.getfield 709 :: is) nb L (.ref 11 :: st) σ Q ↔ PW sc mt is nb L (.ref 9 :: st) σ Q := PW_get_r (by decide +kernel) (by decide +kernel)
theorem PW_g710 : PW sc mt (.getfield 710 :: is) nb L (.ref 11 :: st) σ Q ↔ PW sc mt is nb L (.ref 8 :: st) σ Q := PW_get_r (by decide +kernel) (by decide +kernel)
theorem PW_g711 : PW sc mt (.getfield 711 :: is) nb L (.ref 11 :: st) σ Q ↔ PW sc mt is nb L (.ref 6 :: st) σ Q := PW_get_r (by decide +kernel) (by decide +kernel)
theorem PW_g712 : PW sc mt (.getfield 712 :: is) nb L (.ref 11 :: st) σ Q ↔ PW sc mt is nb L (.ref 0 :: st) σ Q := PW_get_r (by decide +kernel) (by decide +kernel)
theorem PW_g713 : PW sc mt (.getfield 713 :: is) nb L (.ref 11 :: st) σ Q ↔ PW sc mt is nb L (.ref 2 :: st) σ Q := PW_get_r (by decide +kernel) (by decide +kernel)
theorem PW_g714 : PW sc mt (.getfield 714 :: is) nb L (.ref 11 :: st) σ Q ↔ PW sc mt is nb L (.ref 5 :: st) σ Q := PW_get_r (by decide +kernel) (by decide +kernel)
theorem PW_g715 : PW sc mt (.getfield 715 :: is) nb L (.ref 11 :: st) σ Q ↔ PW sc mt is nb L (.int (σ.1 11 11) :: st) σ Q := PW_get_i (by decide +kernel) (by decide +kernel) (by decide +kernel)
theorem PW_p715 {v : Int32} : PW sc mt (.putfield 715 :: is) nb L (.int v :: .ref 11 :: st) σ Q ↔ PW sc mt is nb L st (zuf σ 11 11 v) Q := PW_put_i (by decide +kernel) (by decide +kernel) (by decide +kernel)
theorem PW_g716 : PW sc mt (.getfield 716 :: is) nb L (.ref 11 :: st) σ Q ↔ PW sc mt is nb L (.int (σ.1 11 12) :: st) σ Q := PW_get_i (by decide +kernel) (by decide +kernel) (by decide +kernel)
theorem PW_p716 {v : Int32} : PW sc mt (.putfield 716 :: is) nb L (.int v :: .ref 11 :: st) σ Q ↔ PW sc mt is nb L st (zuf σ 11 12 v) Q := PW_put_i (by decide +kernel) (by decide +kernel) (by decide +kernel)
theorem PW_g768 : PW sc mt (.getfield 768 :: is) nb L (.ref 12 :: st) σ Q ↔ PW sc mt is nb L (.int (σ.1 12 0) :: st) σ Q := PW_get_i (by decide +kernel) (by decide +kernel) (by decide +kernel)
theorem PW_p768 {v : Int32} : PW sc mt (.putfield 768 :: is) nb L (.int v :: .ref 12 :: st) σ Q ↔ PW sc mt is nb L st (zuf σ 12 0 v) Q := PW_put_i (by decide +kernel) (by decide +kernel) (by decide +kernel)
theorem PW_g769 : PW sc mt (.getfield 769 :: is) nb L (.ref 12 :: st) σ Q ↔ PW sc mt is nb L (.int (σ.1 12 1) :: st) σ Q := PW_get_i (by decide +kernel) (by decide +kernel) (by decide +kernel)
theorem PW_p769 {v : Int32} : PW sc mt (.putfield 769 :: is) nb L (.int v :: .ref 12 :: st) σ Q ↔ PW sc mt is nb L st (zuf σ 12 1 v) Q := PW_put_i (by decide +kernel) (by decide +kernel) (by decide +kernel)
theorem PW_g770 : PW sc mt (.getfield 770 :: is) nb L (.ref 12 :: st) σ Q ↔ PW sc mt is nb L (.int (σ.1 12 2) :: st) σ Q := PW_get_i (by decide +kernel) (by decide +kernel) (by decide +kernel)
theorem PW_p770 {v : Int32} : PW sc mt (.putfield 770 :: is) nb L (.int v :: .ref 12 :: st) σ Q ↔ PW sc mt is nb L st (zuf σ 12 2 v) Q := PW_put_i (by decide +kernel) (by decide +kernel) (by decide +kernel)
theorem PW_g771 : PW sc mt (.getfield 771 :: is) nb L (.ref 12 :: st) σ Q ↔ PW sc mt is nb L (.ref 93 :: st) σ Q := PW_get_r (by decide +kernel) (by decide +kernel)
theorem PW_g772 : PW sc mt (.getfield 772 :: is) nb L (.ref 12 :: st) σ Q ↔ PW sc mt is nb L (.ref 94 :: st) σ Q := PW_get_r (by decide +kernel) (by decide +kernel)
theorem PW_g773 : PW sc mt (.getfield 773 :: is) nb L (.ref 12 :: st) σ Q ↔ PW sc mt is nb L (.ref 95 :: st) σ Q := PW_get_r (by decide +kernel) (by decide +kernel)
theorem PW_g774 : PW sc mt (.getfield 774 :: is) nb L (.ref 12 :: st) σ Q ↔ PW sc mt is nb L (.int (σ.1 12 6) :: st) σ Q := PW_get_i (by decide +kernel) (by decide +kernel) (by decide +kernel)
theorem PW_p774 {v : Int32} : PW sc mt (.putfield 774 :: is) nb L (.int v :: .ref 12 :: st) σ Q ↔ PW sc mt is nb L st (zuf σ 12 6 v) Q := PW_put_i (by decide +kernel) (by decide +kernel) (by decide +kernel)
theorem PW_g775 : PW sc mt (.getfield 775 :: is) nb L (.ref 12 :: st) σ Q ↔ PW sc mt is nb L (.ref 96 :: st) σ Q := PW_get_r (by decide +kernel) (by decide +kernel)
theorem PW_g776 : PW sc mt (.getfield 776 :: is) nb L (.ref 12 :: st) σ Q ↔ PW sc mt is nb L (.ref 97 :: st) σ Q := PW_get_r (by decide +kernel) (by decide +kernel)
theorem PW_g777 : PW sc mt (.getfield 777 :: is) nb L (.ref 12 :: st) σ Q ↔ PW sc mt is nb L (.ref 98 :: st) σ Q := PW_get_r (by decide +kernel) (by decide +kernel)
theorem PW_g778 : PW sc mt (.getfield 778 :: is) nb L (.ref 12 :: st) σ Q ↔ PW sc mt is nb L (.ref 99 :: st) σ Q := PW_get_r (by decide +kernel) (by decide +kernel)
theorem PW_g779 : PW sc mt (.getfield 779 :: is) nb L (.ref 12 :: st) σ Q ↔ PW sc mt is nb L (.ref 100 :: st) σ Q := PW_get_r (by decide +kernel) (by decide +kernel)
theorem PW_g780 : PW sc mt (.getfield 780 :: is) nb L (.ref 12 :: st) σ Q ↔ PW sc mt is nb L (.ref 101 :: st) σ Q := PW_get_r (by decide +kernel) (by decide +kernel)
theorem PW_g781 : PW sc mt (.getfield 781 :: is) nb L (.ref 12 :: st) σ Q ↔ PW sc mt is nb L (.ref 102 :: st) σ Q := PW_get_r (by decide +kernel) (by decide +kernel)
theorem PW_g782 : PW sc mt (.getfield 782 :: is) nb L (.ref 12 :: st) σ Q ↔ PW sc mt is nb L (.ref 103 :: st) σ Q := PW_get_r (by decide +kernel) (by decide +kernel)
theorem PW_g783 : PW sc mt (.getfield 783 :: is) nb L (.ref 12 :: st) σ Q ↔ PW sc mt is nb L (.ref 104 :: st) σ Q := PW_get_r (by decide +kernel) (by decide +kernel)
theorem PW_g784 : PW sc mt (.getfield 784 :: is) nb L (.ref 12 :: st) σ Q ↔ PW sc mt is nb L (.ref 105 :: st) σ Q := PW_get_r (by decide +kernel) (by decide +kernel)
theorem PW_g785 : PW sc mt (.getfield 785 :: is) nb L (.ref 12 :: st) σ Q ↔ PW sc mt is nb L (.ref 106 :: st) σ Q := PW_get_r (by decide +kernel) (by decide +kernel)
theorem PW_g786 : PW sc mt (.getfield 786 :: is) nb L (.ref 12 :: st) σ Q ↔ PW sc mt is nb L (.ref 107 :: st) σ Q := PW_get_r (by decide +kernel) (by decide +kernel)
theorem PW_g787 : PW sc mt (.getfield 787 :: is) nb L (.ref 12 :: st) σ Q ↔ PW sc mt is nb L (.int (σ.1 12 19) :: st) σ Q := PW_get_i (by decide +kernel) (by decide +kernel) (by decide +kernel)
theorem PW_p787 {v : Int32} : PW sc mt (.putfield 787 :: is) nb L (.int v :: .ref 12 :: st) σ Q ↔ PW sc mt is nb L st (zuf σ 12 19 v) Q := PW_put_i (by decide +kernel) (by decide +kernel) (by decide +kernel)
theorem PW_g788 : PW sc mt (.getfield 788 :: is) nb L (.ref 12 :: st) σ Q ↔ PW sc mt is nb L (.ref 108 :: st) σ Q := PW_get_r (by decide +kernel) (by decide +kernel)
theorem PW_g789 : PW sc mt (.getfield 789 :: is) nb L (.ref 12 :: st) σ Q ↔ PW sc mt is nb L (.ref 109 :: st) σ Q := PW_get_r (by decide +kernel) (by decide +kernel)
theorem PW_g790 : PW sc mt (.getfield 790 :: is) nb L (.ref 12 :: st) σ Q ↔ PW sc mt is nb L (.ref 110 :: st) σ Q := PW_get_r (by decide +kernel) (by decide +kernel)
theorem PW_g791 : PW sc mt (.getfield 791 :: is) nb L (.ref 12 :: st) σ Q ↔ PW sc mt is nb L (.ref 111 :: st) σ Q := PW_get_r (by decide +kernel) (by decide +kernel)
theorem PW_g792 : PW sc mt (.getfield 792 :: is) nb L (.ref 12 :: st) σ Q ↔ PW sc mt is nb L (.ref 112 :: st) σ Q := PW_get_r (by decide +kernel) (by decide +kernel)
theorem PW_g793 : PW sc mt (.getfield 793 :: is) nb L (.ref 12 :: st) σ Q ↔ PW sc mt is nb L (.int (σ.1 12 25) :: st) σ Q := PW_get_i (by decide +kernel) (by decide +kernel) (by decide +kernel)
theorem PW_p793 {v : Int32} : PW sc mt (.putfield 793 :: is) nb L (.int v :: .ref 12 :: st) σ Q ↔ PW sc mt is nb L st (zuf σ 12 25 v) Q := PW_put_i (by decide +kernel) (by decide +kernel) (by decide +kernel)
theorem PW_g794 : PW sc mt (.getfield 794 :: is) nb L (.ref 12 :: st) σ Q ↔ PW sc mt is nb L (.ref 113 :: st) σ Q := PW_get_r (by decide +kernel) (by decide +kernel)
theorem PW_g795 : PW sc mt (.getfield 795 :: is) nb L (.ref 12 :: st) σ Q ↔ PW sc mt is nb L (.ref 114 :: st) σ Q := PW_get_r (by decide +kernel) (by decide +kernel)
theorem PW_g796 : PW sc mt (.getfield 796 :: is) nb L (.ref 12 :: st) σ Q ↔ PW sc mt is nb L (.ref 115 :: st) σ Q := PW_get_r (by decide +kernel) (by decide +kernel)
theorem PW_g797 : PW sc mt (.getfield 797 :: is) nb L (.ref 12 :: st) σ Q ↔ PW sc mt is nb L (.int (σ.1 12 29) :: st) σ Q := PW_get_i (by decide +kernel) (by decide +kernel) (by decide +kernel)
theorem PW_p797 {v : Int32} : PW sc mt (.putfield 797 :: is) nb L (.int v :: .ref 12 :: st) σ Q ↔ PW sc mt is nb L st (zuf σ 12 29 v) Q := PW_put_i (by decide +kernel) (by decide +kernel) (by decide +kernel)
theorem PW_g798 : PW sc mt (.getfield 798 :: is) nb L (.ref 12 :: st) σ Q ↔ PW sc mt is nb L (.int (σ.1 12 30) :: st) σ Q := PW_get_i (by decide +kernel) (by decide +kernel) (by decide +kernel)
theorem PW_p798 {v : Int32} : PW sc mt (.putfield 798 :: is) nb L (.int v :: .ref 12 :: st) σ Q ↔ PW sc mt is nb L st (zuf σ 12 30 v) Q := PW_put_i (by decide +kernel) (by decide +kernel) (by decide +kernel)
theorem PW_g799 : PW sc mt (.getfield 799 :: is) nb L (.ref 12 :: st) σ Q ↔ PW sc mt is nb L (.ref 116 :: st) σ Q := PW_get_r (by decide +kernel) (by decide +kernel)
theorem PW_g800 : PW sc mt (.getfield 800 :: is) nb L (.ref 12 :: st) σ Q ↔ PW sc mt is nb L (.int (σ.1 12 32) :: st) σ Q := PW_get_i (by decide +kernel) (by decide +kernel) (by decide +kernel)
theorem PW_p800 {v : Int32} : PW sc mt (.putfield 800 :: is) nb L (.int v :: .ref 12 :: st) σ Q ↔ PW sc mt is nb L st (zuf σ 12 32 v) Q := PW_put_i (by decide +kernel) (by decide +kernel) (by decide +kernel)
theorem PW_g801 : PW sc mt (.getfield 801 :: is) nb L (.ref 12 :: st) σ Q ↔ PW sc mt is nb L (.ref 117 :: st) σ Q := PW_get_r (by decide +kernel) (by decide +kernel)
theorem PW_g802 : PW sc mt (.getfield 802 :: is) nb L (.ref 12 :: st) σ Q ↔ PW sc mt is nb L (.ref 118 :: st) σ Q := PW_get_r (by decide +kernel) (by decide +kernel)
theorem PW_g803 : PW sc mt (.getfield 803 :: is) nb L (.ref 12 :: st) σ Q ↔ PW sc mt is nb L (.ref 119 :: st) σ Q := PW_get_r (by decide +kernel) (by decide +kernel)
theorem PW_g804 : PW sc mt (.getfield 804 :: is) nb L (.ref 12 :: st) σ Q ↔ PW sc mt is nb L (.int (σ.1 12 36) :: st) σ Q := PW_get_i (by decide +kernel) (by decide +kernel) (by decide +kernel)
theorem PW_p804 {v : Int32} : PW sc mt (.putfield 804 :: is) nb L (.int v :: .ref 12 :: st) σ Q ↔ PW sc mt is nb L st (zuf σ 12 36 v) Q := PW_put_i (by decide +kernel) (by decide +kernel) (by decide +kernel)
theorem PW_g805 : PW sc mt (.getfield 805 :: is) nb L (.ref 12 :: st) σ Q ↔ PW sc mt is nb L (.ref 120 :: st) σ Q := PW_get_r (by decide +kernel) (by decide +kernel)
theorem PW_g806 : PW sc mt (.getfield 806 :: is) nb L (.ref 12 :: st) σ Q ↔ PW sc mt is nb L (.ref 121 :: st) σ Q := PW_get_r (by decide +kernel) (by decide +kernel)
theorem PW_g807 : PW sc mt (.getfield 807 :: is) nb L (.ref 12 :: st) σ Q ↔ PW sc mt is nb L (.ref 122 :: st) σ Q := PW_get_r (by decide +kernel) (by decide +kernel)
theorem PW_g808 : PW sc mt (.getfield 808 :: is) nb L (.ref 12 :: st) σ Q ↔ PW sc mt is nb L (.ref 123 :: st) σ Q := PW_get_r (by decide +kernel) (by decide +kernel)
theorem PW_g809 : PW sc mt (.getfield 809 :: is) nb L (.ref 12 :: st) σ Q ↔ PW sc mt is nb L (.int (σ.1 12 41) :: st) σ Q := PW_get_i (by decide +kernel) (by decide +kernel) (by decide +kernel)
theorem PW_p809 {v : Int32} : PW sc mt (.putfield 809 :: is) nb L (.int v :: .ref 12 :: st) σ Q ↔ PW sc mt is nb L st (zuf σ 12 41 v) Q := PW_put_i (by decide +kernel) (by decide +kernel) (by decide +kernel)
theorem PW_g810 : PW sc mt (.getfield 810 :: is) nb L (.ref 12 :: st) σ Q ↔ PW sc mt is nb L (.int (σ.1 12 42) :: st) σ Q := PW_get_i (by decide +kernel) (by decide +kernel) (by decide +kernel)
theorem PW_p810 {v : Int32} : PW sc mt (.putfield 810 :: is) nb L (.int v :: .ref 12 :: st) σ Q ↔ PW sc mt is nb L st (zuf σ 12 42 v) Q := PW_put_i (by decide +kernel) (by decide +kernel) (by decide +kernel)
theorem PW_g811 : PW sc mt (.getfield 811 :: is) nb L (.ref 12 :: st) σ Q ↔ PW sc mt is nb L (.int (σ.1 12 43) :: st) σ Q := PW_get_i (by decide +kernel) (by decide +kernel) (by decide +kernel)
theorem PW_p811 {v : Int32} : PW sc mt (.putfield 811 :: is) nb L (.int v :: .ref 12 :: st) σ Q ↔ PW sc mt is nb L st (zuf σ 12 43 v) Q := PW_put_i (by decide +kernel) (by decide +kernel) (by decide +kernel)
theorem PW_g812 : PW sc mt (.getfield 812 :: is) nb L (.ref 12 :: st) σ Q ↔ PW sc mt is nb L (.int (σ.1 12 44) :: st) σ Q := PW_get_i (by decide +kernel) (by decide +kernel) (by decide +kernel)
theorem PW_p812 {v : Int32} : PW sc mt (.putfield 812 :: is) nb L (.int v :: .ref 12 :: st) σ Q ↔ PW sc mt is nb L st (zuf σ 12 44 v) Q := PW_put_i (by decide +kernel) (by decide +kernel) (by decide +kernel)
theorem PW_g813 : PW sc mt (.getfield 813 :: is) nb L (.ref 12 :: st) σ Q ↔ PW sc mt is nb L (.int (σ.1 12 45) :: st) σ Q := PW_get_i (by decide +kernel) (by decide +kernel) (by decide +kernel)
theorem PW_p813 {v : Int32} : PW sc mt (.putfield 813 :: is) nb L (.int v :: .ref 12 :: st) σ Q ↔ PW sc mt is nb L st (zuf σ 12 45 v) Q := PW_put_i (by decide +kernel) (by decide +kernel) (by decide +kernel)
theorem PW_g814 : PW sc mt (.getfield 814 :: is) nb L (.ref 12 :: st) σ Q ↔ PW sc mt is nb L (.ref 124 :: st) σ Q := PW_get_r (by decide +kernel) (by decide +kernel)
theorem PW_g815 : PW sc mt (.getfield 815 :: is) nb L (.ref 12 :: st) σ Q ↔ PW sc mt is nb L (.ref 125 :: st) σ Q := PW_get_r (by decide +kernel) (by decide +kernel)
theorem PW_g816 : PW sc mt (.getfield 816 :: is) nb L (.ref 12 :: st) σ Q ↔ PW sc mt is nb L (.ref 126 :: st) σ Q := PW_get_r (by decide +kernel) (by decide +kernel)
theorem PW_g817 : PW sc mt (.getfield 817 :: is) nb L (.ref 12 :: st) σ Q ↔ PW sc mt is nb L (.int (σ.1 12 49) :: st) σ Q := PW_get_i (by decide +kernel) (by decide +kernel) (by decide +kernel)
theorem PW_p817 {v : Int32} : PW sc mt (.putfield 817 :: is) nb L (.int v :: .ref 12 :: st) σ Q ↔ PW sc mt is nb L st (zuf σ 12 49 v) Q := PW_put_i (by decide +kernel) (by decide +kernel) (by decide +kernel)
theorem PW_g818 : PW sc mt (.getfield 818 :: is) nb L (.ref 12 :: st) σ Q ↔ PW sc mt is nb L (.ref 127 :: st) σ Q := PW_get_r (by decide +kernel) (by decide +kernel)
theorem PW_g819 : PW sc mt (.getfield 819 :: is) nb L (.ref 12 :: st) σ Q ↔ PW sc mt is nb L (.int (σ.1 12 51) :: st) σ Q := PW_get_i (by decide +kernel) (by decide +kernel) (by decide +kernel)
theorem PW_p819 {v : Int32} : PW sc mt (.putfield 819 :: is) nb L (.int v :: .ref 12 :: st) σ Q ↔ PW sc mt is nb L st (zuf σ 12 51 v) Q := PW_put_i (by decide +kernel) (by decide +kernel) (by decide +kernel)
theorem PW_g820 : PW sc mt (.getfield 820 :: is) nb L (.ref 12 :: st) σ Q ↔ PW sc mt is nb L (.int (σ.1 12 52) :: st) σ Q := PW_get_i (by decide +kernel) (by decide +kernel) (by decide +kernel)
theorem PW_p820 {v : Int32} : PW sc mt (.putfield 820 :: is) nb L (.int v :: .ref 12 :: st) σ Q ↔ PW sc mt is nb L st (zuf σ 12 52 v) Q := PW_put_i (by decide +kernel) (by decide +kernel) (by decide +kernel)
theorem PW_g821 : PW sc mt (.getfield 821 :: is) nb L (.ref 12 :: st) σ Q ↔ PW sc mt is nb L (.int (σ.1 12 53) :: st) σ Q := PW_get_i (by decide +kernel) (by decide +kernel) (by decide +kernel)
theorem PW_p821 {v : Int32} : PW sc mt (.putfield 821 :: is) nb L (.int v :: .ref 12 :: st) σ Q ↔ PW sc mt is nb L st (zuf σ 12 53 v) Q := PW_put_i (by decide +kernel) (by decide +kernel) (by decide +kernel)
theorem PW_g822 : PW sc mt (.getfield 822 :: is) nb L (.ref 12 :: st) σ Q ↔ PW sc mt is nb L (.ref 128 :: st) σ Q := PW_get_r (by decide +kernel) (by decide +kernel)
theorem PW_g823 : PW sc mt (.getfield 823 :: is) nb L (.ref 12 :: st) σ Q ↔ PW sc mt is nb L (.ref 129 :: st) σ Q := PW_get_r (by decide +kernel) (by decide +kernel)
theorem PW_g824 : PW sc mt (.getfield 824 :: is) nb L (.ref 12 :: st) σ Q ↔ PW sc mt is nb L (.int (σ.1 12 56) :: st) σ Q := PW_get_i (by decide +kernel) (by decide +kernel) (by decide +kernel)
theorem PW_p824 {v : Int32} : PW sc mt (.putfield 824 :: is) nb L (.int v :: .ref 12 :: st) σ Q ↔ PW sc mt is nb L st (zuf σ 12 56 v) Q := PW_put_i (by decide +kernel) (by decide +kernel) (by decide +kernel)
theorem PW_g825 : PW sc mt (.getfield 825 :: is) nb L (.ref 12 :: st) σ Q ↔ PW sc mt is nb L (.ref 130 :: st) σ Q := PW_get_r (by decide +kernel) (by decide +kernel)
theorem PW_g826 : PW sc mt (.getfield 826 :: is) nb L (.ref 12 :: st) σ Q ↔ PW sc mt is nb L (.int (σ.1 12 58) :: st) σ Q := PW_get_i (by decide +kernel) (by decide +kernel) (by decide +kernel)
theorem PW_p826 {v : Int32} : PW sc mt (.putfield 826 :: is) nb L (.int v :: .ref 12 :: st) σ Q ↔ PW sc mt is nb L st (zuf σ 12 58 v) Q := PW_put_i (by decide +kernel) (by decide +kernel) (by decide +kernel)
theorem PW_g827 : PW sc mt (.getfield 827 :: is) nb L (.ref 12 :: st) σ Q ↔ PW sc mt is nb L (.int (σ.1 12 59) :: st) σ Q := PW_get_i (by decide +kernel) (by decide +kernel) (by decide +kernel)
theorem PW_p827 {v : Int32} : PW sc mt (.putfield 827 :: is) nb L (.int v :: .ref 12 :: st) σ Q ↔ PW sc mt is nb L st (zuf σ 12 59 v) Q := PW_put_i (by decide +kernel) (by decide +kernel) (by decide +kernel)
theorem PW_g828 : PW sc mt (.getfield 828 :: is) nb L (.ref 12 :: st) σ Q ↔ PW sc mt is nb L (.int (σ.1 12 60) :: st) σ Q := PW_get_i (by decide +kernel) (by decide +kernel) (by decide +kernel)
theorem PW_p828 {v : Int32} : PW sc mt (.putfield 828 :: is) nb L (.int v :: .ref 12 :: st) σ Q ↔ PW sc mt is nb L st (zuf σ 12 60 v) Q := PW_put_i (by decide +kernel) (by decide +kernel) (by decide +kernel)
theorem PW_g829 : PW sc mt (.getfield 829 :: is) nb L (.ref 12 :: st) σ Q ↔ PW sc mt is nb L (.ref 131 :: st) σ Q := PW_get_r (by decide +kernel) (by decide +kernel)
theorem PW_g830 : PW sc mt (.getfield 830 :: is) nb L (.ref 12 :: st) σ Q ↔ PW sc mt is nb L (.ref 132 :: st) σ Q := PW_get_r (by decide +kernel) (by decide +kernel)
theorem za_13 : zar 13 = some (0, 4, 0) := by decide +kernel
theorem PW_len13 : PW sc mt (.arraylength :: is) nb L (.ref 13 :: st) σ Q ↔ PW sc mt is nb L (.int 4 :: st) σ Q := PW_alen za_13
theorem PW_ia13 {i : Int32} : PW sc mt (.iaload :: is) nb L (.int i :: .ref 13 :: st) σ Q ↔ vp_in i 4 ∧ PW sc mt is nb L (.int (σ.2.1 13 i.toNatClampNeg) :: st) σ Q := PW_iald za_13
theorem PW_is13 {i x : Int32} : PW sc mt (.iastore :: is) nb L (.int x :: .int i :: .ref 13 :: st) σ Q ↔ vp_in i 4 ∧ PW sc mt is nb L st (zur σ 13 (upd (σ.2.1 13) i.toNatClampNeg x)) Q := PW_iast za_13
theorem za_14 : zar 14 = some (0, 4, 0) := by decide +kernel
theorem PW_len14 : PW sc mt (.arraylength :: is) nb L (.ref 14 :: st) σ Q ↔ PW sc mt is nb L (.int 4 :: st) σ Q := PW_alen za_14
theorem PW_ia14 {i : Int32} : PW sc mt (.iaload :: is) nb L (.int i :: .ref 14 :: st) σ Q ↔ vp_in i 4 ∧ PW sc mt is nb L (.int (σ.2.1 14 i.toNatClampNeg) :: st) σ Q := PW_iald za_14
theorem PW_is14 {i x : Int32} : PW sc mt (.iastore :: is) nb L (.int x :: .int i :: .ref 14 :: st) σ Q ↔ vp_in i 4 ∧ PW sc mt is nb L st (zur σ 14 (upd (σ.2.1 14) i.toNatClampNeg x)) Q := PW_iast za_14
theorem za_15 : zar 15 = some (0, 40, 0) := by decide +kernel
theorem PW_len15 : PW sc mt (.arraylength :: is) nb L (.ref 15 :: st) σ Q ↔ PW sc mt is nb L (.int 40 :: st) σ Q := PW_alen za_15
theorem PW_ia15 {i : Int32} : PW sc mt (.iaload :: is) nb L (.int i :: .ref 15 :: st) σ Q ↔ vp_in i 40 ∧ PW sc mt is nb L (.int (σ.2.1 15 i.toNatClampNeg) :: st) σ Q := PW_iald za_15
theorem PW_is15 {i x : Int32} : PW sc mt (.iastore :: is) nb L (.int x :: .int i :: .ref 15 :: st) σ Q ↔ vp_in i 40 ∧ PW sc mt is nb L st (zur σ 15 (upd (σ.2.1 15) i.toNatClampNeg x)) Q := PW_iast za_15
theorem za_16 : zar 16 = some (0, 40, 0) := by decide +kernel
theorem PW_len16 : PW sc mt (.arraylength :: is) nb L (.ref 16 :: st) σ Q ↔ PW sc mt is nb L (.int 40 :: st) σ Q := PW_alen za_16
theorem PW_ia16 {i : Int32} : PW sc mt (.iaload :: is) nb L (.int i :: .ref 16 :: st) σ Q ↔ vp_in i 40 ∧ PW sc mt is nb L (.int (σ.2.1 16 i.toNatClampNeg) :: st) σ Q := PW_iald za_16
theorem PW_is16 {i x : Int32} : PW sc mt (.iastore :: is) nb L (.int x :: .int i :: .ref 16 :: st) σ Q ↔ vp_in i 40 ∧ PW sc mt is nb L st (zur σ 16 (upd (σ.2.1 16) i.toNatClampNeg x)) Q := PW_iast za_16
theorem za_17 : zar 17 = some (0, 40, 0) := by decide +kernel
theorem PW_len17 : PW sc mt (.arraylength :: is) nb L (.ref 17 :: st) σ Q ↔ PW sc mt is nb L (.int 40 :: st) σ Q := PW_alen za_17
theorem PW_ia17 {i : Int32} : PW sc mt (.iaload :: is) nb L (.int i :: .ref 17 :: st) σ Q ↔ vp_in i 40 ∧ PW sc mt is nb L (.int (σ.2.1 17 i.toNatClampNeg) :: st) σ Q := PW_iald za_17
theorem PW_is17 {i x : Int32} : PW sc mt (.iastore :: is) nb L (.int x :: .int i :: .ref 17 :: st) σ Q ↔ vp_in i 40 ∧ PW sc mt is nb L st (zur σ 17 (upd (σ.2.1 17) i.toNatClampNeg x)) Q := PW_iast za_17
theorem za_18 : zar 18 = some (0, 40, 0) := by decide +kernel
theorem PW_len18 : PW sc mt (.arraylength :: is) nb L (.ref 18 :: st) σ Q ↔ PW sc mt is nb L (.int 40 :: st) σ Q := PW_alen za_18
theorem PW_ia18 {i : Int32} : PW sc mt (.iaload :: is) nb L (.int i :: .ref 18 :: st) σ Q ↔ vp_in i 40 ∧ PW sc mt is nb L (.int (σ.2.1 18 i.toNatClampNeg) :: st) σ Q := PW_iald za_18
theorem PW_is18 {i x : Int32} : PW sc mt (.iastore :: is) nb L (.int x :: .int i :: .ref 18 :: st) σ Q ↔ vp_in i 40 ∧ PW sc mt is nb L st (zur σ 18 (upd (σ.2.1 18) i.toNatClampNeg x)) Q := PW_iast za_18
theorem za_19 : zar 19 = some (0, 602, 0) := by decide +kernel
theorem PW_len19 : PW sc mt (.arraylength :: is) nb L (.ref 19 :: st) σ Q ↔ PW sc mt is nb L (.int 602 :: st) σ Q := PW_alen za_19
theorem PW_ia19 {i : Int32} : PW sc mt (.iaload :: is) nb L (.int i :: .ref 19 :: st) σ Q ↔ vp_in i 602 ∧ PW sc mt is nb L (.int (σ.2.1 19 i.toNatClampNeg) :: st) σ Q := PW_iald za_19
theorem PW_is19 {i x : Int32} : PW sc mt (.iastore :: is) nb L (.int x :: .int i :: .ref 19 :: st) σ Q ↔ vp_in i 602 ∧ PW sc mt is nb L st (zur σ 19 (upd (σ.2.1 19) i.toNatClampNeg x)) Q := PW_iast za_19
theorem za_20 : zar 20 = some (0, 10, 0) := by decide +kernel
theorem PW_len20 : PW sc mt (.arraylength :: is) nb L (.ref 20 :: st) σ Q ↔ PW sc mt is nb L (.int 10 :: st) σ Q := PW_alen za_20
theorem PW_ia20 {i : Int32} : PW sc mt (.iaload :: is) nb L (.int i :: .ref 20 :: st) σ Q ↔ vp_in i 10 ∧ PW sc mt is nb L (.int (σ.2.1 20 i.toNatClampNeg) :: st) σ Q := PW_iald za_20
theorem PW_is20 {i x : Int32} : PW sc mt (.iastore :: is) nb L (.int x :: .int i :: .ref 20 :: st) σ Q ↔ vp_in i 10 ∧ PW sc mt is nb L st (zur σ 20 (upd (σ.2.1 20) i.toNatClampNeg x)) Q := PW_iast za_20
theorem za_21 : zar 21 = some (3, 10, 22) := by decide +kernel
theorem PW_len21 : PW sc mt (.arraylength :: is) nb L (.ref 21 :: st) σ Q ↔ PW sc mt is nb L (.int 10 :: st) σ Q := PW_alen za_21
theorem PW_aa21 {i : Int32} : PW sc mt (.aaload :: is) nb L (.int i :: .ref 21 :: st) σ Q ↔ vp_in i 10 ∧ PW sc mt is nb L (.ref (22 + i.toNatClampNeg) :: st) σ Q := PW_aald za_21
theorem za_21_in : ∀ j, j < 10 → zar (22 + j) = some (0, 10, 0) := by decide +kernel
theorem PW_iar21 {i : Int32} {j : Nat} (h : j < 10) : PW sc mt (.iaload :: is) nb L (.int i :: .ref (22 + j) :: st) σ Q ↔ vp_in i 10 ∧ PW sc mt is nb L (.int (σ.2.1 (22 + j) i.toNatClampNeg) :: st) σ Q := PW_iald (za_21_in j h)
theorem PW_isr21 {i x : Int32} {j : Nat} (h : j < 10) : PW sc mt (.iastore :: is) nb L (.int x :: .int i :: .ref (22 + j) :: st) σ Q ↔ vp_in i 10 ∧ PW sc mt is nb L st (zur σ (22 + j) (upd (σ.2.1 (22 + j)) i.toNatClampNeg x)) Q := PW_iast (za_21_in j h)
theorem za_32 : zar 32 = some (0, 10, 0) := by decide +kernel
theorem PW_len32 : PW sc mt (.arraylength :: is) nb L (.ref 32 :: st) σ Q ↔ PW sc mt is nb L (.int 10 :: st) σ Q := PW_alen za_32
theorem PW_ia32 {i : Int32} : PW sc mt (.iaload :: is) nb L (.int i :: .ref 32 :: st) σ Q ↔ vp_in i 10 ∧ PW sc mt is nb L (.int (σ.2.1 32 i.toNatClampNeg) :: st) σ Q := PW_iald za_32
theorem PW_is32 {i x : Int32} : PW sc mt (.iastore :: is) nb L (.int x :: .int i :: .ref 32 :: st) σ Q ↔ vp_in i 10 ∧ PW sc mt is nb L st (zur σ 32 (upd (σ.2.1 32) i.toNatClampNeg x)) Q := PW_iast za_32
theorem za_33 : zar 33 = some (0, 10, 0) := by decide +kernel
theorem PW_len33 : PW sc mt (.arraylength :: is) nb L (.ref 33 :: st) σ Q ↔ PW sc mt is nb L (.int 10 :: st) σ Q := PW_alen za_33
theorem PW_ia33 {i : Int32} : PW sc mt (.iaload :: is) nb L (.int i :: .ref 33 :: st) σ Q ↔ vp_in i 10 ∧ PW sc mt is nb L (.int (σ.2.1 33 i.toNatClampNeg) :: st) σ Q := PW_iald za_33
theorem PW_is33 {i x : Int32} : PW sc mt (.iastore :: is) nb L (.int x :: .int i :: .ref 33 :: st) σ Q ↔ vp_in i 10 ∧ PW sc mt is nb L st (zur σ 33 (upd (σ.2.1 33) i.toNatClampNeg x)) Q := PW_iast za_33
theorem za_34 : zar 34 = some (0, 21, 0) := by decide +kernel
theorem PW_len34 : PW sc mt (.arraylength :: is) nb L (.ref 34 :: st) σ Q ↔ PW sc mt is nb L (.int 21 :: st) σ Q := PW_alen za_34
theorem PW_ia34 {i : Int32} : PW sc mt (.iaload :: is) nb L (.int i :: .ref 34 :: st) σ Q ↔ vp_in i 21 ∧ PW sc mt is nb L (.int (σ.2.1 34 i.toNatClampNeg) :: st) σ Q := PW_iald za_34
theorem PW_is34 {i x : Int32} : PW sc mt (.iastore :: is) nb L (.int x :: .int i :: .ref 34 :: st) σ Q ↔ vp_in i 21 ∧ PW sc mt is nb L st (zur σ 34 (upd (σ.2.1 34) i.toNatClampNeg x)) Q := PW_iast za_34
theorem za_35 : zar 35 = some (0, 21, 0) := by decide +kernel
theorem PW_len35 : PW sc mt (.arraylength :: is) nb L (.ref 35 :: st) σ Q ↔ PW sc mt is nb L (.int 21 :: st) σ Q := PW_alen za_35
theorem PW_ia35 {i : Int32} : PW sc mt (.iaload :: is) nb L (.int i :: .ref 35 :: st) σ Q ↔ vp_in i 21 ∧ PW sc mt is nb L (.int (σ.2.1 35 i.toNatClampNeg) :: st) σ Q := PW_iald za_35
theorem PW_is35 {i x : Int32} : PW sc mt (.iastore :: is) nb L (.int x :: .int i :: .ref 35 :: st) σ Q ↔ vp_in i 21 ∧ PW sc mt is nb L st (zur σ 35 (upd (σ.2.1 35) i.toNatClampNeg x)) Q := PW_iast za_35
theorem za_36 : zar 36 = some (2, 21, 0) := by decide +kernel
theorem PW_len36 : PW sc mt (.arraylength :: is) nb L (.ref 36 :: st) σ Q ↔ PW sc mt is nb L (.int 21 :: st) σ Q := PW_alen za_36
theorem PW_la36 {i : Int32} : PW sc mt (.laload :: is) nb L (.int i :: .ref 36 :: st) σ Q ↔ vp_in i 21 ∧ PW sc mt is nb L (.long (σ.2.2 36 i.toNatClampNeg) :: st) σ Q := PW_lald za_36
theorem PW_ls36 {i : Int32} {x : Int64} : PW sc mt (.lastore :: is) nb L (.long x :: .int i :: .ref 36 :: st) σ Q ↔ vp_in i 21 ∧ PW sc mt is nb L st (zul σ 36 (vp_updL (σ.2.2 36) i.toNatClampNeg x)) Q := PW_last za_36
theorem za_37 : zar 37 = some (2, 21, 0) := by decide +kernel
theorem PW_len37 : PW sc mt (.arraylength :: is) nb L (.ref 37 :: st) σ Q ↔ PW sc mt is nb L (.int 21 :: st) σ Q := PW_alen za_37
theorem PW_la37 {i : Int32} : PW sc mt (.laload :: is) nb L (.int i :: .ref 37 :: st) σ Q ↔ vp_in i 21 ∧ PW sc mt is nb L (.long (σ.2.2 37 i.toNatClampNeg) :: st) σ Q := PW_lald za_37
theorem PW_ls37 {i : Int32} {x : Int64} : PW sc mt (.lastore :: is) nb L (.long x :: .int i :: .ref 37 :: st) σ Q ↔ vp_in i 21 ∧ PW sc mt is nb L st (zul σ 37 (vp_updL (σ.2.2 37) i.toNatClampNeg x)) Q := PW_last za_37
theorem za_38 : zar 38 = some (2, 11, 0) := by decide +kernel
theorem PW_len38 : PW sc mt (.arraylength :: is) nb L (.ref 38 :: st) σ Q ↔ PW sc mt is nb L (.int 11 :: st) σ Q := PW_alen za_38
theorem PW_la38 {i : Int32} : PW sc mt (.laload :: is) nb L (.int i :: .ref 38 :: st) σ Q ↔ vp_in i 11 ∧ PW sc mt is nb L (.long (σ.2.2 38 i.toNatClampNeg) :: st) σ Q := PW_lald za_38
theorem PW_ls38 {i : Int32} {x : Int64} : PW sc mt (.lastore :: is) nb L (.long x :: .int i :: .ref 38 :: st) σ Q ↔ vp_in i 11 ∧ PW sc mt is nb L st (zul σ 38 (vp_updL (σ.2.2 38) i.toNatClampNeg x)) Q := PW_last za_38
theorem za_39 : zar 39 = some (0, 40, 0) := by decide +kernel
theorem PW_len39 : PW sc mt (.arraylength :: is) nb L (.ref 39 :: st) σ Q ↔ PW sc mt is nb L (.int 40 :: st) σ Q := PW_alen za_39
theorem PW_ia39 {i : Int32} : PW sc mt (.iaload :: is) nb L (.int i :: .ref 39 :: st) σ Q ↔ vp_in i 40 ∧ PW sc mt is nb L (.int (σ.2.1 39 i.toNatClampNeg) :: st) σ Q := PW_iald za_39
theorem PW_is39 {i x : Int32} : PW sc mt (.iastore :: is) nb L (.int x :: .int i :: .ref 39 :: st) σ Q ↔ vp_in i 40 ∧ PW sc mt is nb L st (zur σ 39 (upd (σ.2.1 39) i.toNatClampNeg x)) Q := PW_iast za_39
theorem za_40 : zar 40 = some (0, 40, 0) := by decide +kernel
theorem PW_len40 : PW sc mt (.arraylength :: is) nb L (.ref 40 :: st) σ Q ↔ PW sc mt is nb L (.int 40 :: st) σ Q := PW_alen za_40
theorem PW_ia40 {i : Int32} : PW sc mt (.iaload :: is) nb L (.int i :: .ref 40 :: st) σ Q ↔ vp_in i 40 ∧ PW sc mt is nb L (.int (σ.2.1 40 i.toNatClampNeg) :: st) σ Q := PW_iald za_40
theorem PW_is40 {i x : Int32} : PW sc mt (.iastore :: is) nb L (.int x :: .int i :: .ref 40 :: st) σ Q ↔ vp_in i 40 ∧ PW sc mt is nb L st (zur σ 40 (upd (σ.2.1 40) i.toNatClampNeg x)) Q := PW_iast za_40
theorem za_41 : zar 41 = some (0, 40, 0) := by decide +kernel
theorem PW_len41 : PW sc mt (.arraylength :: is) nb L (.ref 41 :: st) σ Q ↔ PW sc mt is nb L (.int 40 :: st) σ Q := PW_alen za_41
theorem PW_ia41 {i : Int32} : PW sc mt (.iaload :: is) nb L (.int i :: .ref 41 :: st) σ Q ↔ vp_in i 40 ∧ PW sc mt is nb L (.int (σ.2.1 41 i.toNatClampNeg) :: st) σ Q := PW_iald za_41
theorem PW_is41 {i x : Int32} : PW sc mt (.iastore :: is) nb L (.int x :: .int i :: .ref 41 :: st) σ Q ↔ vp_in i 40 ∧ PW sc mt is nb L st (zur σ 41 (upd (σ.2.1 41) i.toNatClampNeg x)) Q := PW_iast za_41
theorem za_42 : zar 42 = some (0, 40, 0) := by decide +kernel
theorem PW_len42 : PW sc mt (.arraylength :: is) nb L (.ref 42 :: st) σ Q ↔ PW sc mt is nb L (.int 40 :: st) σ Q := PW_alen za_42
theorem PW_ia42 {i : Int32} : PW sc mt (.iaload :: is) nb L (.int i :: .ref 42 :: st) σ Q ↔ vp_in i 40 ∧ PW sc mt is nb L (.int (σ.2.1 42 i.toNatClampNeg) :: st) σ Q := PW_iald za_42
theorem PW_is42 {i x : Int32} : PW sc mt (.iastore :: is) nb L (.int x :: .int i :: .ref 42 :: st) σ Q ↔ vp_in i 40 ∧ PW sc mt is nb L st (zur σ 42 (upd (σ.2.1 42) i.toNatClampNeg x)) Q := PW_iast za_42
theorem za_43 : zar 43 = some (0, 40, 0) := by decide +kernel
theorem PW_len43 : PW sc mt (.arraylength :: is) nb L (.ref 43 :: st) σ Q ↔ PW sc mt is nb L (.int 40 :: st) σ Q := PW_alen za_43
theorem PW_ia43 {i : Int32} : PW sc mt (.iaload :: is) nb L (.int i :: .ref 43 :: st) σ Q ↔ vp_in i 40 ∧ PW sc mt is nb L (.int (σ.2.1 43 i.toNatClampNeg) :: st) σ Q := PW_iald za_43
theorem PW_is43 {i x : Int32} : PW sc mt (.iastore :: is) nb L (.int x :: .int i :: .ref 43 :: st) σ Q ↔ vp_in i 40 ∧ PW sc mt is nb L st (zur σ 43 (upd (σ.2.1 43) i.toNatClampNeg x)) Q := PW_iast za_43
theorem za_44 : zar 44 = some (0, 40, 0) := by decide +kernel
theorem PW_len44 : PW sc mt (.arraylength :: is) nb L (.ref 44 :: st) σ Q ↔ PW sc mt is nb L (.int 40 :: st) σ Q := PW_alen za_44
theorem PW_ia44 {i : Int32} : PW sc mt (.iaload :: is) nb L (.int i :: .ref 44 :: st) σ Q ↔ vp_in i 40 ∧ PW sc mt is nb L (.int (σ.2.1 44 i.toNatClampNeg) :: st) σ Q := PW_iald za_44
theorem PW_is44 {i x : Int32} : PW sc mt (.iastore :: is) nb L (.int x :: .int i :: .ref 44 :: st) σ Q ↔ vp_in i 40 ∧ PW sc mt is nb L st (zur σ 44 (upd (σ.2.1 44) i.toNatClampNeg x)) Q := PW_iast za_44
theorem za_45 : zar 45 = some (0, 40, 0) := by decide +kernel
theorem PW_len45 : PW sc mt (.arraylength :: is) nb L (.ref 45 :: st) σ Q ↔ PW sc mt is nb L (.int 40 :: st) σ Q := PW_alen za_45
theorem PW_ia45 {i : Int32} : PW sc mt (.iaload :: is) nb L (.int i :: .ref 45 :: st) σ Q ↔ vp_in i 40 ∧ PW sc mt is nb L (.int (σ.2.1 45 i.toNatClampNeg) :: st) σ Q := PW_iald za_45
theorem PW_is45 {i x : Int32} : PW sc mt (.iastore :: is) nb L (.int x :: .int i :: .ref 45 :: st) σ Q ↔ vp_in i 40 ∧ PW sc mt is nb L st (zur σ 45 (upd (σ.2.1 45) i.toNatClampNeg x)) Q := PW_iast za_45
theorem za_46 : zar 46 = some (0, 40, 0) := by decide +kernel
theorem PW_len46 : PW sc mt (.arraylength :: is) nb L (.ref 46 :: st) σ Q ↔ PW sc mt is nb L (.int 40 :: st) σ Q := PW_alen za_46
theorem PW_ia46 {i : Int32} : PW sc mt (.iaload :: is) nb L (.int i :: .ref 46 :: st) σ Q ↔ vp_in i 40 ∧ PW sc mt is nb L (.int (σ.2.1 46 i.toNatClampNeg) :: st) σ Q := PW_iald za_46
theorem PW_is46 {i x : Int32} : PW sc mt (.iastore :: is) nb L (.int x :: .int i :: .ref 46 :: st) σ Q ↔ vp_in i 40 ∧ PW sc mt is nb L st (zur σ 46 (upd (σ.2.1 46) i.toNatClampNeg x)) Q := PW_iast za_46
theorem za_47 : zar 47 = some (0, 10, 0) := by decide +kernel
theorem PW_len47 : PW sc mt (.arraylength :: is) nb L (.ref 47 :: st) σ Q ↔ PW sc mt is nb L (.int 10 :: st) σ Q := PW_alen za_47
theorem PW_ia47 {i : Int32} : PW sc mt (.iaload :: is) nb L (.int i :: .ref 47 :: st) σ Q ↔ vp_in i 10 ∧ PW sc mt is nb L (.int (σ.2.1 47 i.toNatClampNeg) :: st) σ Q := PW_iald za_47
theorem PW_is47 {i x : Int32} : PW sc mt (.iastore :: is) nb L (.int x :: .int i :: .ref 47 :: st) σ Q ↔ vp_in i 10 ∧ PW sc mt is nb L st (zur σ 47 (upd (σ.2.1 47) i.toNatClampNeg x)) Q := PW_iast za_47
theorem za_48 : zar 48 = some (0, 10, 0) := by decide +kernel
theorem PW_len48 : PW sc mt (.arraylength :: is) nb L (.ref 48 :: st) σ Q ↔ PW sc mt is nb L (.int 10 :: st) σ Q := PW_alen za_48
theorem PW_ia48 {i : Int32} : PW sc mt (.iaload :: is) nb L (.int i :: .ref 48 :: st) σ Q ↔ vp_in i 10 ∧ PW sc mt is nb L (.int (σ.2.1 48 i.toNatClampNeg) :: st) σ Q := PW_iald za_48
theorem PW_is48 {i x : Int32} : PW sc mt (.iastore :: is) nb L (.int x :: .int i :: .ref 48 :: st) σ Q ↔ vp_in i 10 ∧ PW sc mt is nb L st (zur σ 48 (upd (σ.2.1 48) i.toNatClampNeg x)) Q := PW_iast za_48
theorem za_49 : zar 49 = some (0, 10, 0) := by decide +kernel
theorem PW_len49 : PW sc mt (.arraylength :: is) nb L (.ref 49 :: st) σ Q ↔ PW sc mt is nb L (.int 10 :: st) σ Q := PW_alen za_49
theorem PW_ia49 {i : Int32} : PW sc mt (.iaload :: is) nb L (.int i :: .ref 49 :: st) σ Q ↔ vp_in i 10 ∧ PW sc mt is nb L (.int (σ.2.1 49 i.toNatClampNeg) :: st) σ Q := PW_iald za_49
theorem PW_is49 {i x : Int32} : PW sc mt (.iastore :: is) nb L (.int x :: .int i :: .ref 49 :: st) σ Q ↔ vp_in i 10 ∧ PW sc mt is nb L st (zur σ 49 (upd (σ.2.1 49) i.toNatClampNeg x)) Q := PW_iast za_49
theorem za_50 : zar 50 = some (0, 60, 0) := by decide +kernel
theorem PW_len50 : PW sc mt (.arraylength :: is) nb L (.ref 50 :: st) σ Q ↔ PW sc mt is nb L (.int 60 :: st) σ Q := PW_alen za_50
theorem PW_ia50 {i : Int32} : PW sc mt (.iaload :: is) nb L (.int i :: .ref 50 :: st) σ Q ↔ vp_in i 60 ∧ PW sc mt is nb L (.int (σ.2.1 50 i.toNatClampNeg) :: st) σ Q := PW_iald za_50
theorem PW_is50 {i x : Int32} : PW sc mt (.iastore :: is) nb L (.int x :: .int i :: .ref 50 :: st) σ Q ↔ vp_in i 60 ∧ PW sc mt is nb L st (zur σ 50 (upd (σ.2.1 50) i.toNatClampNeg x)) Q := PW_iast za_50
theorem za_51 : zar 51 = some (0, 10, 0) := by decide +kernel
theorem PW_len51 : PW sc mt (.arraylength :: is) nb L (.ref 51 :: st) σ Q ↔ PW sc mt is nb L (.int 10 :: st) σ Q := PW_alen za_51
theorem PW_ia51 {i : Int32} : PW sc mt (.iaload :: is) nb L (.int i :: .ref 51 :: st) σ Q ↔ vp_in i 10 ∧ PW sc mt is nb L (.int (σ.2.1 51 i.toNatClampNeg) :: st) σ Q := PW_iald za_51
theorem PW_is51 {i x : Int32} : PW sc mt (.iastore :: is) nb L (.int x :: .int i :: .ref 51 :: st) σ Q ↔ vp_in i 10 ∧ PW sc mt is nb L st (zur σ 51 (upd (σ.2.1 51) i.toNatClampNeg x)) Q := PW_iast za_51
theorem za_52 : zar 52 = some (0, 10, 0) := by decide +kernel
theorem PW_len52 : PW sc mt (.arraylength :: is) nb L (.ref 52 :: st) σ Q ↔ PW sc mt is nb L (.int 10 :: st) σ Q := PW_alen za_52
theorem PW_ia52 {i : Int32} : PW sc mt (.iaload :: is) nb L (.int i :: .ref 52 :: st) σ Q ↔ vp_in i 10 ∧ PW sc mt is nb L (.int (σ.2.1 52 i.toNatClampNeg) :: st) σ Q := PW_iald za_52
theorem PW_is52 {i x : Int32} : PW sc mt (.iastore :: is) nb L (.int x :: .int i :: .ref 52 :: st) σ Q ↔ vp_in i 10 ∧ PW sc mt is nb L st (zur σ 52 (upd (σ.2.1 52) i.toNatClampNeg x)) Q := PW_iast za_52
theorem za_53 : zar 53 = some (0, 10, 0) := by decide +kernel
theorem PW_len53 : PW sc mt (.arraylength :: is) nb L (.ref 53 :: st) σ Q ↔ PW sc mt is nb L (.int 10 :: st) σ Q := PW_alen za_53
theorem PW_ia53 {i : Int32} : PW sc mt (.iaload :: is) nb L (.int i :: .ref 53 :: st) σ Q ↔ vp_in i 10 ∧ PW sc mt is nb L (.int (σ.2.1 53 i.toNatClampNeg) :: st) σ Q := PW_iald za_53
theorem PW_is53 {i x : Int32} : PW sc mt (.iastore :: is) nb L (.int x :: .int i :: .ref 53 :: st) σ Q ↔ vp_in i 10 ∧ PW sc mt is nb L st (zur σ 53 (upd (σ.2.1 53) i.toNatClampNeg x)) Q := PW_iast za_53
theorem za_54 : zar 54 = some (3, 10, 55) := by decide +kernel
theorem PW_len54 : PW sc mt (.arraylength :: is) nb L (.ref 54 :: st) σ Q ↔ PW sc mt is nb L (.int 10 :: st) σ Q := PW_alen za_54
theorem PW_aa54 {i : Int32} : PW sc mt (.aaload :: is) nb L (.int i :: .ref 54 :: st) σ Q ↔ vp_in i 10 ∧ PW sc mt is nb L (.ref (55 + i.toNatClampNeg) :: st) σ Q := PW_aald za_54
theorem za_54_in : ∀ j, j < 10 → zar (55 + j) = some (0, 10, 0) := by decide +kernel
theorem PW_iar54 {i : Int32} {j : Nat} (h : j < 10) : PW sc mt (.iaload :: is) nb L (.int i :: .ref (55 + j) :: st) σ Q ↔ vp_in i 10 ∧ PW sc mt is nb L (.int (σ.2.1 (55 + j) i.toNatClampNeg) :: st) σ Q := PW_iald (za_54_in j h)
theorem PW_isr54 {i x : Int32} {j : Nat} (h : j < 10) : PW sc mt (.iastore :: is) nb L (.int x :: .int i :: .ref (55 + j) :: st) σ Q ↔ vp_in i 10 ∧ PW sc mt is nb L st (zur σ (55 + j) (upd (σ.2.1 (55 + j)) i.toNatClampNeg x)) Q := PW_iast (za_54_in j h)
theorem za_65 : zar 65 = some (0, 4, 0) := by decide +kernel
theorem PW_len65 : PW sc mt (.arraylength :: is) nb L (.ref 65 :: st) σ Q ↔ PW sc mt is nb L (.int 4 :: st) σ Q := PW_alen za_65
theorem PW_ia65 {i : Int32} : PW sc mt (.iaload :: is) nb L (.int i :: .ref 65 :: st) σ Q ↔ vp_in i 4 ∧ PW sc mt is nb L (.int (σ.2.1 65 i.toNatClampNeg) :: st) σ Q := PW_iald za_65
theorem PW_is65 {i x : Int32} : PW sc mt (.iastore :: is) nb L (.int x :: .int i :: .ref 65 :: st) σ Q ↔ vp_in i 4 ∧ PW sc mt is nb L st (zur σ 65 (upd (σ.2.1 65) i.toNatClampNeg x)) Q := PW_iast za_65
theorem za_66 : zar 66 = some (0, 4, 0) := by decide +kernel
theorem PW_len66 : PW sc mt (.arraylength :: is) nb L (.ref 66 :: st) σ Q ↔ PW sc mt is nb L (.int 4 :: st) σ Q := PW_alen za_66
theorem PW_ia66 {i : Int32} : PW sc mt (.iaload :: is) nb L (.int i :: .ref 66 :: st) σ Q ↔ vp_in i 4 ∧ PW sc mt is nb L (.int (σ.2.1 66 i.toNatClampNeg) :: st) σ Q := PW_iald za_66
theorem PW_is66 {i x : Int32} : PW sc mt (.iastore :: is) nb L (.int x :: .int i :: .ref 66 :: st) σ Q ↔ vp_in i 4 ∧ PW sc mt is nb L st (zur σ 66 (upd (σ.2.1 66) i.toNatClampNeg x)) Q := PW_iast za_66
theorem za_67 : zar 67 = some (3, 4, 68) := by decide +kernel
theorem PW_len67 : PW sc mt (.arraylength :: is) nb L (.ref 67 :: st) σ Q ↔ PW sc mt is nb L (.int 4 :: st) σ Q := PW_alen za_67
theorem PW_aa67 {i : Int32} : PW sc mt (.aaload :: is) nb L (.int i :: .ref 67 :: st) σ Q ↔ vp_in i 4 ∧ PW sc mt is nb L (.ref (68 + i.toNatClampNeg) :: st) σ Q := PW_aald za_67
theorem za_67_in : ∀ j, j < 4 → zar (68 + j) = some (0, 60, 0) := by decide +kernel
theorem PW_iar67 {i : Int32} {j : Nat} (h : j < 4) : PW sc mt (.iaload :: is) nb L (.int i :: .ref (68 + j) :: st) σ Q ↔ vp_in i 60 ∧ PW sc mt is nb L (.int (σ.2.1 (68 + j) i.toNatClampNeg) :: st) σ Q := PW_iald (za_67_in j h)
theorem PW_isr67 {i x : Int32} {j : Nat} (h : j < 4) : PW sc mt (.iastore :: is) nb L (.int x :: .int i :: .ref (68 + j) :: st) σ Q ↔ vp_in i 60 ∧ PW sc mt is nb L st (zur σ (68 + j) (upd (σ.2.1 (68 + j)) i.toNatClampNeg x)) Q := PW_iast (za_67_in j h)
theorem za_72 : zar 72 = some (0, 60, 0) := by decide +kernel
theorem PW_len72 : PW sc mt (.arraylength :: is) nb L (.ref 72 :: st) σ Q ↔ PW sc mt is nb L (.int 60 :: st) σ Q := PW_alen za_72
theorem PW_ia72 {i : Int32} : PW sc mt (.iaload :: is) nb L (.int i :: .ref 72 :: st) σ Q ↔ vp_in i 60 ∧ PW sc mt is nb L (.int (σ.2.1 72 i.toNatClampNeg) :: st) σ Q := PW_iald za_72
theorem PW_is72 {i x : Int32} : PW sc mt (.iastore :: is) nb L (.int x :: .int i :: .ref 72 :: st) σ Q ↔ vp_in i 60 ∧ PW sc mt is nb L st (zur σ 72 (upd (σ.2.1 72) i.toNatClampNeg x)) Q := PW_iast za_72
theorem za_73 : zar 73 = some (0, 40, 0) := by decide +kernel
theorem PW_len73 : PW sc mt (.arraylength :: is) nb L (.ref 73 :: st) σ Q ↔ PW sc mt is nb L (.int 40 :: st) σ Q := PW_alen za_73
theorem PW_ia73 {i : Int32} : PW sc mt (.iaload :: is) nb L (.int i :: .ref 73 :: st) σ Q ↔ vp_in i 40 ∧ PW sc mt is nb L (.int (σ.2.1 73 i.toNatClampNeg) :: st) σ Q := PW_iald za_73
theorem PW_is73 {i x : Int32} : PW sc mt (.iastore :: is) nb L (.int x :: .int i :: .ref 73 :: st) σ Q ↔ vp_in i 40 ∧ PW sc mt is nb L st (zur σ 73 (upd (σ.2.1 73) i.toNatClampNeg x)) Q := PW_iast za_73
theorem za_74 : zar 74 = some (0, 40, 0) := by decide +kernel
theorem PW_len74 : PW sc mt (.arraylength :: is) nb L (.ref 74 :: st) σ Q ↔ PW sc mt is nb L (.int 40 :: st) σ Q := PW_alen za_74
theorem PW_ia74 {i : Int32} : PW sc mt (.iaload :: is) nb L (.int i :: .ref 74 :: st) σ Q ↔ vp_in i 40 ∧ PW sc mt is nb L (.int (σ.2.1 74 i.toNatClampNeg) :: st) σ Q := PW_iald za_74
theorem PW_is74 {i x : Int32} : PW sc mt (.iastore :: is) nb L (.int x :: .int i :: .ref 74 :: st) σ Q ↔ vp_in i 40 ∧ PW sc mt is nb L st (zur σ 74 (upd (σ.2.1 74) i.toNatClampNeg x)) Q := PW_iast za_74
theorem za_75 : zar 75 = some (0, 40, 0) := by decide +kernel
theorem PW_len75 : PW sc mt (.arraylength :: is) nb L (.ref 75 :: st) σ Q ↔ PW sc mt is nb L (.int 40 :: st) σ Q := PW_alen za_75
theorem PW_ia75 {i : Int32} : PW sc mt (.iaload :: is) nb L (.int i :: .ref 75 :: st) σ Q ↔ vp_in i 40 ∧ PW sc mt is nb L (.int (σ.2.1 75 i.toNatClampNeg) :: st) σ Q := PW_iald za_75
theorem PW_is75 {i x : Int32} : PW sc mt (.iastore :: is) nb L (.int x :: .int i :: .ref 75 :: st) σ Q ↔ vp_in i 40 ∧ PW sc mt is nb L st (zur σ 75 (upd (σ.2.1 75) i.toNatClampNeg x)) Q := PW_iast za_75
theorem za_76 : zar 76 = some (0, 1024, 0) := by decide +kernel
theorem PW_len76 : PW sc mt (.arraylength :: is) nb L (.ref 76 :: st) σ Q ↔ PW sc mt is nb L (.int 1024 :: st) σ Q := PW_alen za_76
theorem PW_ia76 {i : Int32} : PW sc mt (.iaload :: is) nb L (.int i :: .ref 76 :: st) σ Q ↔ vp_in i 1024 ∧ PW sc mt is nb L (.int (σ.2.1 76 i.toNatClampNeg) :: st) σ Q := PW_iald za_76
theorem PW_is76 {i x : Int32} : PW sc mt (.iastore :: is) nb L (.int x :: .int i :: .ref 76 :: st) σ Q ↔ vp_in i 1024 ∧ PW sc mt is nb L st (zur σ 76 (upd (σ.2.1 76) i.toNatClampNeg x)) Q := PW_iast za_76
theorem za_77 : zar 77 = some (0, 2, 0) := by decide +kernel
theorem PW_len77 : PW sc mt (.arraylength :: is) nb L (.ref 77 :: st) σ Q ↔ PW sc mt is nb L (.int 2 :: st) σ Q := PW_alen za_77
theorem PW_ia77 {i : Int32} : PW sc mt (.iaload :: is) nb L (.int i :: .ref 77 :: st) σ Q ↔ vp_in i 2 ∧ PW sc mt is nb L (.int (σ.2.1 77 i.toNatClampNeg) :: st) σ Q := PW_iald za_77
theorem PW_is77 {i x : Int32} : PW sc mt (.iastore :: is) nb L (.int x :: .int i :: .ref 77 :: st) σ Q ↔ vp_in i 2 ∧ PW sc mt is nb L st (zur σ 77 (upd (σ.2.1 77) i.toNatClampNeg x)) Q := PW_iast za_77
theorem za_78 : zar 78 = some (0, 10, 0) := by decide +kernel
theorem PW_len78 : PW sc mt (.arraylength :: is) nb L (.ref 78 :: st) σ Q ↔ PW sc mt is nb L (.int 10 :: st) σ Q := PW_alen za_78
theorem PW_ia78 {i : Int32} : PW sc mt (.iaload :: is) nb L (.int i :: .ref 78 :: st) σ Q ↔ vp_in i 10 ∧ PW sc mt is nb L (.int (σ.2.1 78 i.toNatClampNeg) :: st) σ Q := PW_iald za_78
theorem PW_is78 {i x : Int32} : PW sc mt (.iastore :: is) nb L (.int x :: .int i :: .ref 78 :: st) σ Q ↔ vp_in i 10 ∧ PW sc mt is nb L st (zur σ 78 (upd (σ.2.1 78) i.toNatClampNeg x)) Q := PW_iast za_78
theorem za_79 : zar 79 = some (0, 10, 0) := by decide +kernel
theorem PW_len79 : PW sc mt (.arraylength :: is) nb L (.ref 79 :: st) σ Q ↔ PW sc mt is nb L (.int 10 :: st) σ Q := PW_alen za_79
theorem PW_ia79 {i : Int32} : PW sc mt (.iaload :: is) nb L (.int i :: .ref 79 :: st) σ Q ↔ vp_in i 10 ∧ PW sc mt is nb L (.int (σ.2.1 79 i.toNatClampNeg) :: st) σ Q := PW_iald za_79
theorem PW_is79 {i x : Int32} : PW sc mt (.iastore :: is) nb L (.int x :: .int i :: .ref 79 :: st) σ Q ↔ vp_in i 10 ∧ PW sc mt is nb L st (zur σ 79 (upd (σ.2.1 79) i.toNatClampNeg x)) Q := PW_iast za_79
theorem za_80 : zar 80 = some (0, 10, 0) := by decide +kernel
theorem PW_len80 : PW sc mt (.arraylength :: is) nb L (.ref 80 :: st) σ Q ↔ PW sc mt is nb L (.int 10 :: st) σ Q := PW_alen za_80
theorem PW_ia80 {i : Int32} : PW sc mt (.iaload :: is) nb L (.int i :: .ref 80 :: st) σ Q ↔ vp_in i 10 ∧ PW sc mt is nb L (.int (σ.2.1 80 i.toNatClampNeg) :: st) σ Q := PW_iald za_80
theorem PW_is80 {i x : Int32} : PW sc mt (.iastore :: is) nb L (.int x :: .int i :: .ref 80 :: st) σ Q ↔ vp_in i 10 ∧ PW sc mt is nb L st (zur σ 80 (upd (σ.2.1 80) i.toNatClampNeg x)) Q := PW_iast za_80
theorem za_81 : zar 81 = some (0, 10, 0) := by decide +kernel
theorem PW_len81 : PW sc mt (.arraylength :: is) nb L (.ref 81 :: st) σ Q ↔ PW sc mt is nb L (.int 10 :: st) σ Q := PW_alen za_81
theorem PW_ia81 {i : Int32} : PW sc mt (.iaload :: is) nb L (.int i :: .ref 81 :: st) σ Q ↔ vp_in i 10 ∧ PW sc mt is nb L (.int (σ.2.1 81 i.toNatClampNeg) :: st) σ Q := PW_iald za_81
theorem PW_is81 {i x : Int32} : PW sc mt (.iastore :: is) nb L (.int x :: .int i :: .ref 81 :: st) σ Q ↔ vp_in i 10 ∧ PW sc mt is nb L st (zur σ 81 (upd (σ.2.1 81) i.toNatClampNeg x)) Q := PW_iast za_81
theorem za_82 : zar 82 = some (3, 10, 83) := by decide +kernel
theorem PW_len82 : PW sc mt (.arraylength :: is) nb L (.ref 82 :: st) σ Q ↔ PW sc mt is nb L (.int 10 :: st) σ Q := PW_alen za_82
theorem PW_aa82 {i : Int32} : PW sc mt (.aaload :: is) nb L (.int i :: .ref 82 :: st) σ Q ↔ vp_in i 10 ∧ PW sc mt is nb L (.ref (83 + i.toNatClampNeg) :: st) σ Q := PW_aald za_82
theorem za_82_in : ∀ j, j < 10 → zar (83 + j) = some (0, 20, 0) := by decide +kernel
theorem PW_iar82 {i : Int32} {j : Nat} (h : j < 10) : PW sc mt (.iaload :: is) nb L (.int i :: .ref (83 + j) :: st) σ Q ↔ vp_in i 20 ∧ PW sc mt is nb L (.int (σ.2.1 (83 + j) i.toNatClampNeg) :: st) σ Q := PW_iald (za_82_in j h)
theorem PW_isr82 {i x : Int32} {j : Nat} (h : j < 10) : PW sc mt (.iastore :: is) nb L (.int x :: .int i :: .ref (83 + j) :: st) σ Q ↔ vp_in i 20 ∧ PW sc mt is nb L st (zur σ (83 + j) (upd (σ.2.1 (83 + j)) i.toNatClampNeg x)) Q := PW_iast (za_82_in j h)
theorem za_93 : zar 93 = some (0, 10, 0) := by decide +kernel
theorem PW_len93 : PW sc mt (.arraylength :: is) nb L (.ref 93 :: st) σ Q ↔ PW sc mt is nb L (.int 10 :: st) σ Q := PW_alen za_93
theorem PW_ia93 {i : Int32} : PW sc mt (.iaload :: is) nb L (.int i :: .ref 93 :: st) σ Q ↔ vp_in i 10 ∧ PW sc mt is nb L (.int (σ.2.1 93 i.toNatClampNeg) :: st) σ Q := PW_iald za_93
theorem PW_is93 {i x : Int32} : PW sc mt (.iastore :: is) nb L (.int x :: .int i :: .ref 93 :: st) σ Q ↔ vp_in i 10 ∧ PW sc mt is nb L st (zur σ 93 (upd (σ.2.1 93) i.toNatClampNeg x)) Q := PW_iast za_93
theorem za_94 : zar 94 = some (0, 10, 0) := by decide +kernel
theorem PW_len94 : PW sc mt (.arraylength :: is) nb L (.ref 94 :: st) σ Q ↔ PW sc mt is nb L (.int 10 :: st) σ Q := PW_alen za_94
theorem PW_ia94 {i : Int32} : PW sc mt (.iaload :: is) nb L (.int i :: .ref 94 :: st) σ Q ↔ vp_in i 10 ∧ PW sc mt is nb L (.int (σ.2.1 94 i.toNatClampNeg) :: st) σ Q := PW_iald za_94
theorem PW_is94 {i x : Int32} : PW sc mt (.iastore :: is) nb L (.int x :: .int i :: .ref 94 :: st) σ Q ↔ vp_in i 10 ∧ PW sc mt is nb L st (zur σ 94 (upd (σ.2.1 94) i.toNatClampNeg x)) Q := PW_iast za_94
theorem za_95 : zar 95 = some (0, 10, 0) := by decide +kernel
theorem PW_len95 : PW sc mt (.arraylength :: is) nb L (.ref 95 :: st) σ Q ↔ PW sc mt is nb L (.int 10 :: st) σ Q := PW_alen za_95
theorem PW_ia95 {i : Int32} : PW sc mt (.iaload :: is) nb L (.int i :: .ref 95 :: st) σ Q ↔ vp_in i 10 ∧ PW sc mt is nb L (.int (σ.2.1 95 i.toNatClampNeg) :: st) σ Q := PW_iald za_95
theorem PW_is95 {i x : Int32} : PW sc mt (.iastore :: is) nb L (.int x :: .int i :: .ref 95 :: st) σ Q ↔ vp_in i 10 ∧ PW sc mt is nb L st (zur σ 95 (upd (σ.2.1 95) i.toNatClampNeg x)) Q := PW_iast za_95
theorem za_96 : zar 96 = some (0, 10, 0) := by decide +kernel
theorem PW_len96 : PW sc mt (.arraylength :: is) nb L (.ref 96 :: st) σ Q ↔ PW sc mt is nb L (.int 10 :: st) σ Q := PW_alen za_96
theorem PW_ia96 {i : Int32} : PW sc mt (.iaload :: is) nb L (.int i :: .ref 96 :: st) σ Q ↔ vp_in i 10 ∧ PW sc mt is nb L (.int (σ.2.1 96 i.toNatClampNeg) :: st) σ Q := PW_iald za_96
theorem PW_is96 {i x : Int32} : PW sc mt (.iastore :: is) nb L (.int x :: .int i :: .ref 96 :: st) σ Q ↔ vp_in i 10 ∧ PW sc mt is nb L st (zur σ 96 (upd (σ.2.1 96) i.toNatClampNeg x)) Q := PW_iast za_96
theorem za_97 : zar 97 = some (0, 100, 0) := by decide +kernel
theorem PW_len97 : PW sc mt (.arraylength :: is) nb L (.ref 97 :: st) σ Q ↔ PW sc mt is nb L (.int 100 :: st) σ Q := PW_alen za_97
theorem PW_ia97 {i : Int32} : PW sc mt (.iaload :: is) nb L (.int i :: .ref 97 :: st) σ Q ↔ vp_in i 100 ∧ PW sc mt is nb L (.int (σ.2.1 97 i.toNatClampNeg) :: st) σ Q := PW_iald za_97
theorem PW_is97 {i x : Int32} : PW sc mt (.iastore :: is) nb L (.int x :: .int i :: .ref 97 :: st) σ Q ↔ vp_in i 100 ∧ PW sc mt is nb L st (zur σ 97 (upd (σ.2.1 97) i.toNatClampNeg x)) Q := PW_iast za_97
theorem za_98 : zar 98 = some (1, 100, 0) := by decide +kernel
theorem PW_len98 : PW sc mt (.arraylength :: is) nb L (.ref 98 :: st) σ Q ↔ PW sc mt is nb L (.int 100 :: st) σ Q := PW_alen za_98
theorem PW_ba98 {i : Int32} : PW sc mt (.baload :: is) nb L (.int i :: .ref 98 :: st) σ Q ↔ vp_in i 100 ∧ PW sc mt is nb L (.int (σ.2.1 98 i.toNatClampNeg) :: st) σ Q := PW_bald za_98
theorem PW_bs98 {i x : Int32} : PW sc mt (.bastore :: is) nb L (.int x :: .int i :: .ref 98 :: st) σ Q ↔ vp_in i 100 ∧ PW sc mt is nb L st (zur σ 98 (upd (σ.2.1 98) i.toNatClampNeg (vp_nar .boolean x))) Q := PW_bast za_98
theorem za_99 : zar 99 = some (0, 11264, 0) := by decide +kernel
theorem PW_len99 : PW sc mt (.arraylength :: is) nb L (.ref 99 :: st) σ Q ↔ PW sc mt is nb L (.int 11264 :: st) σ Q := PW_alen za_99
theorem PW_ia99 {i : Int32} : PW sc mt (.iaload :: is) nb L (.int i :: .ref 99 :: st) σ Q ↔ vp_in i 11264 ∧ PW sc mt is nb L (.int (σ.2.1 99 i.toNatClampNeg) :: st) σ Q := PW_iald za_99
theorem PW_is99 {i x : Int32} : PW sc mt (.iastore :: is) nb L (.int x :: .int i :: .ref 99 :: st) σ Q ↔ vp_in i 11264 ∧ PW sc mt is nb L st (zur σ 99 (upd (σ.2.1 99) i.toNatClampNeg x)) Q := PW_iast za_99
theorem za_100 : zar 100 = some (1, 100, 0) := by decide +kernel
theorem PW_len100 : PW sc mt (.arraylength :: is) nb L (.ref 100 :: st) σ Q ↔ PW sc mt is nb L (.int 100 :: st) σ Q := PW_alen za_100
theorem PW_ba100 {i : Int32} : PW sc mt (.baload :: is) nb L (.int i :: .ref 100 :: st) σ Q ↔ vp_in i 100 ∧ PW sc mt is nb L (.int (σ.2.1 100 i.toNatClampNeg) :: st) σ Q := PW_bald za_100
theorem PW_bs100 {i x : Int32} : PW sc mt (.bastore :: is) nb L (.int x :: .int i :: .ref 100 :: st) σ Q ↔ vp_in i 100 ∧ PW sc mt is nb L st (zur σ 100 (upd (σ.2.1 100) i.toNatClampNeg (vp_nar .boolean x))) Q := PW_bast za_100
theorem za_101 : zar 101 = some (0, 10, 0) := by decide +kernel
theorem PW_len101 : PW sc mt (.arraylength :: is) nb L (.ref 101 :: st) σ Q ↔ PW sc mt is nb L (.int 10 :: st) σ Q := PW_alen za_101
theorem PW_ia101 {i : Int32} : PW sc mt (.iaload :: is) nb L (.int i :: .ref 101 :: st) σ Q ↔ vp_in i 10 ∧ PW sc mt is nb L (.int (σ.2.1 101 i.toNatClampNeg) :: st) σ Q := PW_iald za_101
theorem PW_is101 {i x : Int32} : PW sc mt (.iastore :: is) nb L (.int x :: .int i :: .ref 101 :: st) σ Q ↔ vp_in i 10 ∧ PW sc mt is nb L st (zur σ 101 (upd (σ.2.1 101) i.toNatClampNeg x)) Q := PW_iast za_101
theorem za_102 : zar 102 = some (1, 100, 0) := by decide +kernel
theorem PW_len102 : PW sc mt (.arraylength :: is) nb L (.ref 102 :: st) σ Q ↔ PW sc mt is nb L (.int 100 :: st) σ Q := PW_alen za_102
theorem PW_ba102 {i : Int32} : PW sc mt (.baload :: is) nb L (.int i :: .ref 102 :: st) σ Q ↔ vp_in i 100 ∧ PW sc mt is nb L (.int (σ.2.1 102 i.toNatClampNeg) :: st) σ Q := PW_bald za_102
theorem PW_bs102 {i x : Int32} : PW sc mt (.bastore :: is) nb L (.int x :: .int i :: .ref 102 :: st) σ Q ↔ vp_in i 100 ∧ PW sc mt is nb L st (zur σ 102 (upd (σ.2.1 102) i.toNatClampNeg (vp_nar .boolean x))) Q := PW_bast za_102
theorem za_103 : zar 103 = some (0, 10, 0) := by decide +kernel
theorem PW_len103 : PW sc mt (.arraylength :: is) nb L (.ref 103 :: st) σ Q ↔ PW sc mt is nb L (.int 10 :: st) σ Q := PW_alen za_103
theorem PW_ia103 {i : Int32} : PW sc mt (.iaload :: is) nb L (.int i :: .ref 103 :: st) σ Q ↔ vp_in i 10 ∧ PW sc mt is nb L (.int (σ.2.1 103 i.toNatClampNeg) :: st) σ Q := PW_iald za_103
theorem PW_is103 {i x : Int32} : PW sc mt (.iastore :: is) nb L (.int x :: .int i :: .ref 103 :: st) σ Q ↔ vp_in i 10 ∧ PW sc mt is nb L st (zur σ 103 (upd (σ.2.1 103) i.toNatClampNeg x)) Q := PW_iast za_103
theorem za_104 : zar 104 = some (0, 4, 0) := by decide +kernel
theorem PW_len104 : PW sc mt (.arraylength :: is) nb L (.ref 104 :: st) σ Q ↔ PW sc mt is nb L (.int 4 :: st) σ Q := PW_alen za_104
theorem PW_ia104 {i : Int32} : PW sc mt (.iaload :: is) nb L (.int i :: .ref 104 :: st) σ Q ↔ vp_in i 4 ∧ PW sc mt is nb L (.int (σ.2.1 104 i.toNatClampNeg) :: st) σ Q := PW_iald za_104
theorem PW_is104 {i x : Int32} : PW sc mt (.iastore :: is) nb L (.int x :: .int i :: .ref 104 :: st) σ Q ↔ vp_in i 4 ∧ PW sc mt is nb L st (zur σ 104 (upd (σ.2.1 104) i.toNatClampNeg x)) Q := PW_iast za_104
theorem za_105 : zar 105 = some (0, 4, 0) := by decide +kernel
theorem PW_len105 : PW sc mt (.arraylength :: is) nb L (.ref 105 :: st) σ Q ↔ PW sc mt is nb L (.int 4 :: st) σ Q := PW_alen za_105
theorem PW_ia105 {i : Int32} : PW sc mt (.iaload :: is) nb L (.int i :: .ref 105 :: st) σ Q ↔ vp_in i 4 ∧ PW sc mt is nb L (.int (σ.2.1 105 i.toNatClampNeg) :: st) σ Q := PW_iald za_105
theorem PW_is105 {i x : Int32} : PW sc mt (.iastore :: is) nb L (.int x :: .int i :: .ref 105 :: st) σ Q ↔ vp_in i 4 ∧ PW sc mt is nb L st (zur σ 105 (upd (σ.2.1 105) i.toNatClampNeg x)) Q := PW_iast za_105
theorem za_106 : zar 106 = some (0, 240, 0) := by decide +kernel
theorem PW_len106 : PW sc mt (.arraylength :: is) nb L (.ref 106 :: st) σ Q ↔ PW sc mt is nb L (.int 240 :: st) σ Q := PW_alen za_106
theorem PW_ia106 {i : Int32} : PW sc mt (.iaload :: is) nb L (.int i :: .ref 106 :: st) σ Q ↔ vp_in i 240 ∧ PW sc mt is nb L (.int (σ.2.1 106 i.toNatClampNeg) :: st) σ Q := PW_iald za_106
theorem PW_is106 {i x : Int32} : PW sc mt (.iastore :: is) nb L (.int x :: .int i :: .ref 106 :: st) σ Q ↔ vp_in i 240 ∧ PW sc mt is nb L st (zur σ 106 (upd (σ.2.1 106) i.toNatClampNeg x)) Q := PW_iast za_106
theorem za_107 : zar 107 = some (0, 10, 0) := by decide +kernel
theorem PW_len107 : PW sc mt (.arraylength :: is) nb L (.ref 107 :: st) σ Q ↔ PW sc mt is nb L (.int 10 :: st) σ Q := PW_alen za_107
theorem PW_ia107 {i : Int32} : PW sc mt (.iaload :: is) nb L (.int i :: .ref 107 :: st) σ Q ↔ vp_in i 10 ∧ PW sc mt is nb L (.int (σ.2.1 107 i.toNatClampNeg) :: st) σ Q := PW_iald za_107
theorem PW_is107 {i x : Int32} : PW sc mt (.iastore :: is) nb L (.int x :: .int i :: .ref 107 :: st) σ Q ↔ vp_in i 10 ∧ PW sc mt is nb L st (zur σ 107 (upd (σ.2.1 107) i.toNatClampNeg x)) Q := PW_iast za_107
theorem za_108 : zar 108 = some (0, 40, 0) := by decide +kernel
theorem PW_len108 : PW sc mt (.arraylength :: is) nb L (.ref 108 :: st) σ Q ↔ PW sc mt is nb L (.int 40 :: st) σ Q := PW_alen za_108
theorem PW_ia108 {i : Int32} : PW sc mt (.iaload :: is) nb L (.int i :: .ref 108 :: st) σ Q ↔ vp_in i 40 ∧ PW sc mt is nb L (.int (σ.2.1 108 i.toNatClampNeg) :: st) σ Q := PW_iald za_108
theorem PW_is108 {i x : Int32} : PW sc mt (.iastore :: is) nb L (.int x :: .int i :: .ref 108 :: st) σ Q ↔ vp_in i 40 ∧ PW sc mt is nb L st (zur σ 108 (upd (σ.2.1 108) i.toNatClampNeg x)) Q := PW_iast za_108
theorem za_109 : zar 109 = some (0, 40, 0) := by decide +kernel
theorem PW_len109 : PW sc mt (.arraylength :: is) nb L (.ref 109 :: st) σ Q ↔ PW sc mt is nb L (.int 40 :: st) σ Q := PW_alen za_109
theorem PW_ia109 {i : Int32} : PW sc mt (.iaload :: is) nb L (.int i :: .ref 109 :: st) σ Q ↔ vp_in i 40 ∧ PW sc mt is nb L (.int (σ.2.1 109 i.toNatClampNeg) :: st) σ Q := PW_iald za_109
theorem PW_is109 {i x : Int32} : PW sc mt (.iastore :: is) nb L (.int x :: .int i :: .ref 109 :: st) σ Q ↔ vp_in i 40 ∧ PW sc mt is nb L st (zur σ 109 (upd (σ.2.1 109) i.toNatClampNeg x)) Q := PW_iast za_109
theorem za_110 : zar 110 = some (0, 40, 0) := by decide +kernel
theorem PW_len110 : PW sc mt (.arraylength :: is) nb L (.ref 110 :: st) σ Q ↔ PW sc mt is nb L (.int 40 :: st) σ Q := PW_alen za_110
theorem PW_ia110 {i : Int32} : PW sc mt (.iaload :: is) nb L (.int i :: .ref 110 :: st) σ Q ↔ vp_in i 40 ∧ PW sc mt is nb L (.int (σ.2.1 110 i.toNatClampNeg) :: st) σ Q := PW_iald za_110
theorem PW_is110 {i x : Int32} : PW sc mt (.iastore :: is) nb L (.int x :: .int i :: .ref 110 :: st) σ Q ↔ vp_in i 40 ∧ PW sc mt is nb L st (zur σ 110 (upd (σ.2.1 110) i.toNatClampNeg x)) Q := PW_iast za_110
theorem za_111 : zar 111 = some (0, 40, 0) := by decide +kernel
theorem PW_len111 : PW sc mt (.arraylength :: is) nb L (.ref 111 :: st) σ Q ↔ PW sc mt is nb L (.int 40 :: st) σ Q := PW_alen za_111
theorem PW_ia111 {i : Int32} : PW sc mt (.iaload :: is) nb L (.int i :: .ref 111 :: st) σ Q ↔ vp_in i 40 ∧ PW sc mt is nb L (.int (σ.2.1 111 i.toNatClampNeg) :: st) σ Q := PW_iald za_111
theorem PW_is111 {i x : Int32} : PW sc mt (.iastore :: is) nb L (.int x :: .int i :: .ref 111 :: st) σ Q ↔ vp_in i 40 ∧ PW sc mt is nb L st (zur σ 111 (upd (σ.2.1 111) i.toNatClampNeg x)) Q := PW_iast za_111
theorem za_112 : zar 112 = some (0, 40, 0) := by decide +kernel
theorem PW_len112 : PW sc mt (.arraylength :: is) nb L (.ref 112 :: st) σ Q ↔ PW sc mt is nb L (.int 40 :: st) σ Q := PW_alen za_112
theorem PW_ia112 {i : Int32} : PW sc mt (.iaload :: is) nb L (.int i :: .ref 112 :: st) σ Q ↔ vp_in i 40 ∧ PW sc mt is nb L (.int (σ.2.1 112 i.toNatClampNeg) :: st) σ Q := PW_iald za_112
theorem PW_is112 {i x : Int32} : PW sc mt (.iastore :: is) nb L (.int x :: .int i :: .ref 112 :: st) σ Q ↔ vp_in i 40 ∧ PW sc mt is nb L st (zur σ 112 (upd (σ.2.1 112) i.toNatClampNeg x)) Q := PW_iast za_112
theorem za_113 : zar 113 = some (0, 40, 0) := by decide +kernel
theorem PW_len113 : PW sc mt (.arraylength :: is) nb L (.ref 113 :: st) σ Q ↔ PW sc mt is nb L (.int 40 :: st) σ Q := PW_alen za_113
theorem PW_ia113 {i : Int32} : PW sc mt (.iaload :: is) nb L (.int i :: .ref 113 :: st) σ Q ↔ vp_in i 40 ∧ PW sc mt is nb L (.int (σ.2.1 113 i.toNatClampNeg) :: st) σ Q := PW_iald za_113
theorem PW_is113 {i x : Int32} : PW sc mt (.iastore :: is) nb L (.int x :: .int i :: .ref 113 :: st) σ Q ↔ vp_in i 40 ∧ PW sc mt is nb L st (zur σ 113 (upd (σ.2.1 113) i.toNatClampNeg x)) Q := PW_iast za_113
theorem za_114 : zar 114 = some (0, 40, 0) := by decide +kernel
theorem PW_len114 : PW sc mt (.arraylength :: is) nb L (.ref 114 :: st) σ Q ↔ PW sc mt is nb L (.int 40 :: st) σ Q := PW_alen za_114
theorem PW_ia114 {i : Int32} : PW sc mt (.iaload :: is) nb L (.int i :: .ref 114 :: st) σ Q ↔ vp_in i 40 ∧ PW sc mt is nb L (.int (σ.2.1 114 i.toNatClampNeg) :: st) σ Q := PW_iald za_114
theorem PW_is114 {i x : Int32} : PW sc mt (.iastore :: is) nb L (.int x :: .int i :: .ref 114 :: st) σ Q ↔ vp_in i 40 ∧ PW sc mt is nb L st (zur σ 114 (upd (σ.2.1 114) i.toNatClampNeg x)) Q := PW_iast za_114
theorem za_115 : zar 115 = some (0, 40, 0) := by decide +kernel
theorem PW_len115 : PW sc mt (.arraylength :: is) nb L (.ref 115 :: st) σ Q ↔ PW sc mt is nb L (.int 40 :: st) σ Q := PW_alen za_115
theorem PW_ia115 {i : Int32} : PW sc mt (.iaload :: is) nb L (.int i :: .ref 115 :: st) σ Q ↔ vp_in i 40 ∧ PW sc mt is nb L (.int (σ.2.1 115 i.toNatClampNeg) :: st) σ Q := PW_iald za_115
theorem PW_is115 {i x : Int32} : PW sc mt (.iastore :: is) nb L (.int x :: .int i :: .ref 115 :: st) σ Q ↔ vp_in i 40 ∧ PW sc mt is nb L st (zur σ 115 (upd (σ.2.1 115) i.toNatClampNeg x)) Q := PW_iast za_115
theorem za_116 : zar 116 = some (0, 10, 0) := by decide +kernel
theorem PW_len116 : PW sc mt (.arraylength :: is) nb L (.ref 116 :: st) σ Q ↔ PW sc mt is nb L (.int 10 :: st) σ Q := PW_alen za_116
theorem PW_ia116 {i : Int32} : PW sc mt (.iaload :: is) nb L (.int i :: .ref 116 :: st) σ Q ↔ vp_in i 10 ∧ PW sc mt is nb L (.int (σ.2.1 116 i.toNatClampNeg) :: st) σ Q := PW_iald za_116
theorem PW_is116 {i x : Int32} : PW sc mt (.iastore :: is) nb L (.int x :: .int i :: .ref 116 :: st) σ Q ↔ vp_in i 10 ∧ PW sc mt is nb L st (zur σ 116 (upd (σ.2.1 116) i.toNatClampNeg x)) Q := PW_iast za_116
theorem za_117 : zar 117 = some (0, 1024, 0) := by decide +kernel
theorem PW_len117 : PW sc mt (.arraylength :: is) nb L (.ref 117 :: st) σ Q ↔ PW sc mt is nb L (.int 1024 :: st) σ Q := PW_alen za_117
theorem PW_ia117 {i : Int32} : PW sc mt (.iaload :: is) nb L (.int i :: .ref 117 :: st) σ Q ↔ vp_in i 1024 ∧ PW sc mt is nb L (.int (σ.2.1 117 i.toNatClampNeg) :: st) σ Q := PW_iald za_117
theorem PW_is117 {i x : Int32} : PW sc mt (.iastore :: is) nb L (.int x :: .int i :: .ref 117 :: st) σ Q ↔ vp_in i 1024 ∧ PW sc mt is nb L st (zur σ 117 (upd (σ.2.1 117) i.toNatClampNeg x)) Q := PW_iast za_117
theorem za_118 : zar 118 = some (0, 1024, 0) := by decide +kernel
theorem PW_len118 : PW sc mt (.arraylength :: is) nb L (.ref 118 :: st) σ Q ↔ PW sc mt is nb L (.int 1024 :: st) σ Q := PW_alen za_118
theorem PW_ia118 {i : Int32} : PW sc mt (.iaload :: is) nb L (.int i :: .ref 118 :: st) σ Q ↔ vp_in i 1024 ∧ PW sc mt is nb L (.int (σ.2.1 118 i.toNatClampNeg) :: st) σ Q := PW_iald za_118
theorem PW_is118 {i x : Int32} : PW sc mt (.iastore :: is) nb L (.int x :: .int i :: .ref 118 :: st) σ Q ↔ vp_in i 1024 ∧ PW sc mt is nb L st (zur σ 118 (upd (σ.2.1 118) i.toNatClampNeg x)) Q := PW_iast za_118
theorem za_119 : zar 119 = some (0, 1024, 0) := by decide +kernel
theorem PW_len119 : PW sc mt (.arraylength :: is) nb L (.ref 119 :: st) σ Q ↔ PW sc mt is nb L (.int 1024 :: st) σ Q := PW_alen za_119
theorem PW_ia119 {i : Int32} : PW sc mt (.iaload :: is) nb L (.int i :: .ref 119 :: st) σ Q ↔ vp_in i 1024 ∧ PW sc mt is nb L (.int (σ.2.1 119 i.toNatClampNeg) :: st) σ Q := PW_iald za_119
theorem PW_is119 {i x : Int32} : PW sc mt (.iastore :: is) nb L (.int x :: .int i :: .ref 119 :: st) σ Q ↔ vp_in i 1024 ∧ PW sc mt is nb L st (zur σ 119 (upd (σ.2.1 119) i.toNatClampNeg x)) Q := PW_iast za_119
theorem za_120 : zar 120 = some (0, 40, 0) := by decide +kernel
theorem PW_len120 : PW sc mt (.arraylength :: is) nb L (.ref 120 :: st) σ Q ↔ PW sc mt is nb L (.int 40 :: st) σ Q := PW_alen za_120
theorem PW_ia120 {i : Int32} : PW sc mt (.iaload :: is) nb L (.int i :: .ref 120 :: st) σ Q ↔ vp_in i 40 ∧ PW sc mt is nb L (.int (σ.2.1 120 i.toNatClampNeg) :: st) σ Q := PW_iald za_120
theorem PW_is120 {i x : Int32} : PW sc mt (.iastore :: is) nb L (.int x :: .int i :: .ref 120 :: st) σ Q ↔ vp_in i 40 ∧ PW sc mt is nb L st (zur σ 120 (upd (σ.2.1 120) i.toNatClampNeg x)) Q := PW_iast za_120
theorem za_121 : zar 121 = some (0, 40, 0) := by decide +kernel
theorem PW_len121 : PW sc mt (.arraylength :: is) nb L (.ref 121 :: st) σ Q ↔ PW sc mt is nb L (.int 40 :: st) σ Q := PW_alen za_121
theorem PW_ia121 {i : Int32} : PW sc mt (.iaload :: is) nb L (.int i :: .ref 121 :: st) σ Q ↔ vp_in i 40 ∧ PW sc mt is nb L (.int (σ.2.1 121 i.toNatClampNeg) :: st) σ Q := PW_iald za_121
theorem PW_is121 {i x : Int32} : PW sc mt (.iastore :: is) nb L (.int x :: .int i :: .ref 121 :: st) σ Q ↔ vp_in i 40 ∧ PW sc mt is nb L st (zur σ 121 (upd (σ.2.1 121) i.toNatClampNeg x)) Q := PW_iast za_121
theorem za_122 : zar 122 = some (0, 40, 0) := by decide +kernel
theorem PW_len122 : PW sc mt (.arraylength :: is) nb L (.ref 122 :: st) σ Q ↔ PW sc mt is nb L (.int 40 :: st) σ Q := PW_alen za_122
theorem PW_ia122 {i : Int32} : PW sc mt (.iaload :: is) nb L (.int i :: .ref 122 :: st) σ Q ↔ vp_in i 40 ∧ PW sc mt is nb L (.int (σ.2.1 122 i.toNatClampNeg) :: st) σ Q := PW_iald za_122
theorem PW_is122 {i x : Int32} : PW sc mt (.iastore :: is) nb L (.int x :: .int i :: .ref 122 :: st) σ Q ↔ vp_in i 40 ∧ PW sc mt is nb L st (zur σ 122 (upd (σ.2.1 122) i.toNatClampNeg x)) Q := PW_iast za_122
theorem za_123 : zar 123 = some (0, 40, 0) := by decide +kernel
theorem PW_len123 : PW sc mt (.arraylength :: is) nb L (.ref 123 :: st) σ Q ↔ PW sc mt is nb L (.int 40 :: st) σ Q := PW_alen za_123
theorem PW_ia123 {i : Int32} : PW sc mt (.iaload :: is) nb L (.int i :: .ref 123 :: st) σ Q ↔ vp_in i 40 ∧ PW sc mt is nb L (.int (σ.2.1 123 i.toNatClampNeg) :: st) σ Q := PW_iald za_123
theorem PW_is123 {i x : Int32} : PW sc mt (.iastore :: is) nb L (.int x :: .int i :: .ref 123 :: st) σ Q ↔ vp_in i 40 ∧ PW sc mt is nb L st (zur σ 123 (upd (σ.2.1 123) i.toNatClampNeg x)) Q := PW_iast za_123
theorem za_124 : zar 124 = some (0, 40, 0) := by decide +kernel
theorem PW_len124 : PW sc mt (.arraylength :: is) nb L (.ref 124 :: st) σ Q ↔ PW sc mt is nb L (.int 40 :: st) σ Q := PW_alen za_124
theorem PW_ia124 {i : Int32} : PW sc mt (.iaload :: is) nb L (.int i :: .ref 124 :: st) σ Q ↔ vp_in i 40 ∧ PW sc mt is nb L (.int (σ.2.1 124 i.toNatClampNeg) :: st) σ Q := PW_iald za_124
theorem PW_is124 {i x : Int32} : PW sc mt (.iastore :: is) nb L (.int x :: .int i :: .ref 124 :: st) σ Q ↔ vp_in i 40 ∧ PW sc mt is nb L st (zur σ 124 (upd (σ.2.1 124) i.toNatClampNeg x)) Q := PW_iast za_124
theorem za_125 : zar 125 = some (0, 40, 0) := by decide +kernel
theorem PW_len125 : PW sc mt (.arraylength :: is) nb L (.ref 125 :: st) σ Q ↔ PW sc mt is nb L (.int 40 :: st) σ Q := PW_alen za_125
theorem PW_ia125 {i : Int32} : PW sc mt (.iaload :: is) nb L (.int i :: .ref 125 :: st) σ Q ↔ vp_in i 40 ∧ PW sc mt is nb L (.int (σ.2.1 125 i.toNatClampNeg) :: st) σ Q := PW_iald za_125
theorem PW_is125 {i x : Int32} : PW sc mt (.iastore :: is) nb L (.int x :: .int i :: .ref 125 :: st) σ Q ↔ vp_in i 40 ∧ PW sc mt is nb L st (zur σ 125 (upd (σ.2.1 125) i.toNatClampNeg x)) Q := PW_iast za_125
theorem za_126 : zar 126 = some (0, 40, 0) := by decide +kernel
theorem PW_len126 : PW sc mt (.arraylength :: is) nb L (.ref 126 :: st) σ Q ↔ PW sc mt is nb L (.int 40 :: st) σ Q := PW_alen za_126
theorem PW_ia126 {i : Int32} : PW sc mt (.iaload :: is) nb L (.int i :: .ref 126 :: st) σ Q ↔ vp_in i 40 ∧ PW sc mt is nb L (.int (σ.2.1 126 i.toNatClampNeg) :: st) σ Q := PW_iald za_126
theorem PW_is126 {i x : Int32} : PW sc mt (.iastore :: is) nb L (.int x :: .int i :: .ref 126 :: st) σ Q ↔ vp_in i 40 ∧ PW sc mt is nb L st (zur σ 126 (upd (σ.2.1 126) i.toNatClampNeg x)) Q := PW_iast za_126
theorem za_127 : zar 127 = some (0, 10, 0) := by decide +kernel
theorem PW_len127 : PW sc mt (.arraylength :: is) nb L (.ref 127 :: st) σ Q ↔ PW sc mt is nb L (.int 10 :: st) σ Q := PW_alen za_127
theorem PW_ia127 {i : Int32} : PW sc mt (.iaload :: is) nb L (.int i :: .ref 127 :: st) σ Q ↔ vp_in i 10 ∧ PW sc mt is nb L (.int (σ.2.1 127 i.toNatClampNeg) :: st) σ Q := PW_iald za_127
theorem PW_is127 {i x : Int32} : PW sc mt (.iastore :: is) nb L (.int x :: .int i :: .ref 127 :: st) σ Q ↔ vp_in i 10 ∧ PW sc mt is nb L st (zur σ 127 (upd (σ.2.1 127) i.toNatClampNeg x)) Q := PW_iast za_127
theorem za_128 : zar 128 = some (0, 10, 0) := by decide +kernel
theorem PW_len128 : PW sc mt (.arraylength :: is) nb L (.ref 128 :: st) σ Q ↔ PW sc mt is nb L (.int 10 :: st) σ Q := PW_alen za_128
theorem PW_ia128 {i : Int32} : PW sc mt (.iaload :: is) nb L (.int i :: .ref 128 :: st) σ Q ↔ vp_in i 10 ∧ PW sc mt is nb L (.int (σ.2.1 128 i.toNatClampNeg) :: st) σ Q := PW_iald za_128
theorem PW_is128 {i x : Int32} : PW sc mt (.iastore :: is) nb L (.int x :: .int i :: .ref 128 :: st) σ Q ↔ vp_in i 10 ∧ PW sc mt is nb L st (zur σ 128 (upd (σ.2.1 128) i.toNatClampNeg x)) Q := PW_iast za_128
theorem za_129 : zar 129 = some (0, 200, 0) := by decide +kernel
theorem PW_len129 : PW sc mt (.arraylength :: is) nb L (.ref 129 :: st) σ Q ↔ PW sc mt is nb L (.int 200 :: st) σ Q := PW_alen za_129
theorem PW_ia129 {i : Int32} : PW sc mt (.iaload :: is) nb L (.int i :: .ref 129 :: st) σ Q ↔ vp_in i 200 ∧ PW sc mt is nb L (.int (σ.2.1 129 i.toNatClampNeg) :: st) σ Q := PW_iald za_129
theorem PW_is129 {i x : Int32} : PW sc mt (.iastore :: is) nb L (.int x :: .int i :: .ref 129 :: st) σ Q ↔ vp_in i 200 ∧ PW sc mt is nb L st (zur σ 129 (upd (σ.2.1 129) i.toNatClampNeg x)) Q := PW_iast za_129
theorem za_130 : zar 130 = some (0, 60, 0) := by decide +kernel
theorem PW_len130 : PW sc mt (.arraylength :: is) nb L (.ref 130 :: st) σ Q ↔ PW sc mt is nb L (.int 60 :: st) σ Q := PW_alen za_130
theorem PW_ia130 {i : Int32} : PW sc mt (.iaload :: is) nb L (.int i :: .ref 130 :: st) σ Q ↔ vp_in i 60 ∧ PW sc mt is nb L (.int (σ.2.1 130 i.toNatClampNeg) :: st) σ Q := PW_iald za_130
theorem PW_is130 {i x : Int32} : PW sc mt (.iastore :: is) nb L (.int x :: .int i :: .ref 130 :: st) σ Q ↔ vp_in i 60 ∧ PW sc mt is nb L st (zur σ 130 (upd (σ.2.1 130) i.toNatClampNeg x)) Q := PW_iast za_130
theorem za_131 : zar 131 = some (0, 4, 0) := by decide +kernel
theorem PW_len131 : PW sc mt (.arraylength :: is) nb L (.ref 131 :: st) σ Q ↔ PW sc mt is nb L (.int 4 :: st) σ Q := PW_alen za_131
theorem PW_ia131 {i : Int32} : PW sc mt (.iaload :: is) nb L (.int i :: .ref 131 :: st) σ Q ↔ vp_in i 4 ∧ PW sc mt is nb L (.int (σ.2.1 131 i.toNatClampNeg) :: st) σ Q := PW_iald za_131
theorem PW_is131 {i x : Int32} : PW sc mt (.iastore :: is) nb L (.int x :: .int i :: .ref 131 :: st) σ Q ↔ vp_in i 4 ∧ PW sc mt is nb L st (zur σ 131 (upd (σ.2.1 131) i.toNatClampNeg x)) Q := PW_iast za_131
theorem za_132 : zar 132 = some (0, 4, 0) := by decide +kernel
theorem PW_len132 : PW sc mt (.arraylength :: is) nb L (.ref 132 :: st) σ Q ↔ PW sc mt is nb L (.int 4 :: st) σ Q := PW_alen za_132
theorem PW_ia132 {i : Int32} : PW sc mt (.iaload :: is) nb L (.int i :: .ref 132 :: st) σ Q ↔ vp_in i 4 ∧ PW sc mt is nb L (.int (σ.2.1 132 i.toNatClampNeg) :: st) σ Q := PW_iald za_132
theorem PW_is132 {i x : Int32} : PW sc mt (.iastore :: is) nb L (.int x :: .int i :: .ref 132 :: st) σ Q ↔ vp_in i 4 ∧ PW sc mt is nb L st (zur σ 132 (upd (σ.2.1 132) i.toNatClampNeg x)) Q := PW_iast za_132
theorem PW_cv0 {k c : Nat} (h1 : znp k = 0) (h2 : zown k = c) (h3 : c < 13) (h : st.length ≤ 4) : PW sc mt (.invokevirtual k :: is) nb L (.ref c :: st) σ Q ↔ PC sc k [.ref c] σ (fun r σ' => PW sc mt is nb L (r.toList ++ st) σ' Q) := PW_ca (by simp [zcal, h1, h2, h3, h])
theorem PW_cs0 {k : Nat} (h1 : znp k = 0) (h3 : k < 997) (h : st.length ≤ 4) : PW sc mt (.invokestatic k :: is) nb L (st) σ Q ↔ PC sc k [] σ (fun r σ' => PW sc mt is nb L (r.toList ++ st) σ' Q) := PW_ca (by simp [zcal, h1, h, show ¬ 997 ≤ k by omega])
theorem PW_cv1 {k c : Nat} {x1 : Value} (h1 : znp k = 1) (h2 : zown k = c) (h3 : c < 13) (h : st.length ≤ 4) : PW sc mt (.invokevirtual k :: is) nb L (x1 :: .ref c :: st) σ Q ↔ PC sc k [.ref c, x1] σ (fun r σ' => PW sc mt is nb L (r.toList ++ st) σ' Q) := PW_ca (by simp [zcal, h1, h2, h3, h])
theorem PW_cs1 {k : Nat} {x1 : Value} (h1 : znp k = 1) (h3 : k < 997) (h : st.length ≤ 4) : PW sc mt (.invokestatic k :: is) nb L (x1 :: st) σ Q ↔ PC sc k [x1] σ (fun r σ' => PW sc mt is nb L (r.toList ++ st) σ' Q) := PW_ca (by simp [zcal, h1, h, show ¬ 997 ≤ k by omega])
theorem PW_cv2 {k c : Nat} {x1 x2 : Value} (h1 : znp k = 2) (h2 : zown k = c) (h3 : c < 13) (h : st.length ≤ 4) : PW sc mt (.invokevirtual k :: is) nb L (x2 :: x1 :: .ref c :: st) σ Q ↔ PC sc k [.ref c, x1, x2] σ (fun r σ' => PW sc mt is nb L (r.toList ++ st) σ' Q) := PW_ca (by simp [zcal, h1, h2, h3, h])
theorem PW_cs2 {k : Nat} {x1 x2 : Value} (h1 : znp k = 2) (h3 : k < 997) (h : st.length ≤ 4) : PW sc mt (.invokestatic k :: is) nb L (x2 :: x1 :: st) σ Q ↔ PC sc k [x1, x2] σ (fun r σ' => PW sc mt is nb L (r.toList ++ st) σ' Q) := PW_ca (by simp [zcal, h1, h, show ¬ 997 ≤ k by omega])
theorem PW_cv3 {k c : Nat} {x1 x2 x3 : Value} (h1 : znp k = 3) (h2 : zown k = c) (h3 : c < 13) (h : st.length ≤ 4) : PW sc mt (.invokevirtual k :: is) nb L (x3 :: x2 :: x1 :: .ref c :: st) σ Q ↔ PC sc k [.ref c, x1, x2, x3] σ (fun r σ' => PW sc mt is nb L (r.toList ++ st) σ' Q) := PW_ca (by simp [zcal, h1, h2, h3, h])
theorem PW_cs3 {k : Nat} {x1 x2 x3 : Value} (h1 : znp k = 3) (h3 : k < 997) (h : st.length ≤ 4) : PW sc mt (.invokestatic k :: is) nb L (x3 :: x2 :: x1 :: st) σ Q ↔ PC sc k [x1, x2, x3] σ (fun r σ' => PW sc mt is nb L (r.toList ++ st) σ' Q) := PW_ca (by simp [zcal, h1, h, show ¬ 997 ≤ k by omega])
theorem PW_cv4 {k c : Nat} {x1 x2 x3 x4 : Value} (h1 : znp k = 4) (h2 : zown k = c) (h3 : c < 13) (h : st.length ≤ 4) : PW sc mt (.invokevirtual k :: is) nb L (x4 :: x3 :: x2 :: x1 :: .ref c :: st) σ Q ↔ PC sc k [.ref c, x1, x2, x3, x4] σ (fun r σ' => PW sc mt is nb L (r.toList ++ st) σ' Q) := PW_ca (by simp [zcal, h1, h2, h3, h])
theorem PW_cs4 {k : Nat} {x1 x2 x3 x4 : Value} (h1 : znp k = 4) (h3 : k < 997) (h : st.length ≤ 4) : PW sc mt (.invokestatic k :: is) nb L (x4 :: x3 :: x2 :: x1 :: st) σ Q ↔ PC sc k [x1, x2, x3, x4] σ (fun r σ' => PW sc mt is nb L (r.toList ++ st) σ' Q) := PW_ca (by simp [zcal, h1, h, show ¬ 997 ≤ k by omega])
theorem PW_cv5 {k c : Nat} {x1 x2 x3 x4 x5 : Value} (h1 : znp k = 5) (h2 : zown k = c) (h3 : c < 13) (h : st.length ≤ 4) : PW sc mt (.invokevirtual k :: is) nb L (x5 :: x4 :: x3 :: x2 :: x1 :: .ref c :: st) σ Q ↔ PC sc k [.ref c, x1, x2, x3, x4, x5] σ (fun r σ' => PW sc mt is nb L (r.toList ++ st) σ' Q) := PW_ca (by simp [zcal, h1, h2, h3, h])
theorem PW_cs5 {k : Nat} {x1 x2 x3 x4 x5 : Value} (h1 : znp k = 5) (h3 : k < 997) (h : st.length ≤ 4) : PW sc mt (.invokestatic k :: is) nb L (x5 :: x4 :: x3 :: x2 :: x1 :: st) σ Q ↔ PC sc k [x1, x2, x3, x4, x5] σ (fun r σ' => PW sc mt is nb L (r.toList ++ st) σ' Q) := PW_ca (by simp [zcal, h1, h, show ¬ 997 ≤ k by omega])
theorem PW_cv6 {k c : Nat} {x1 x2 x3 x4 x5 x6 : Value} (h1 : znp k = 6) (h2 : zown k = c) (h3 : c < 13) (h : st.length ≤ 4) : PW sc mt (.invokevirtual k :: is) nb L (x6 :: x5 :: x4 :: x3 :: x2 :: x1 :: .ref c :: st) σ Q ↔ PC sc k [.ref c, x1, x2, x3, x4, x5, x6] σ (fun r σ' => PW sc mt is nb L (r.toList ++ st) σ' Q) := PW_ca (by simp [zcal, h1, h2, h3, h])
theorem PW_cs6 {k : Nat} {x1 x2 x3 x4 x5 x6 : Value} (h1 : znp k = 6) (h3 : k < 997) (h : st.length ≤ 4) : PW sc mt (.invokestatic k :: is) nb L (x6 :: x5 :: x4 :: x3 :: x2 :: x1 :: st) σ Q ↔ PC sc k [x1, x2, x3, x4, x5, x6] σ (fun r σ' => PW sc mt is nb L (r.toList ++ st) σ' Q) := PW_ca (by simp [zcal, h1, h, show ¬ 997 ≤ k by omega])
theorem PW_cv7 {k c : Nat} {x1 x2 x3 x4 x5 x6 x7 : Value} (h1 : znp k = 7) (h2 : zown k = c) (h3 : c < 13) (h : st.length ≤ 4) : PW sc mt (.invokevirtual k :: is) nb L (x7 :: x6 :: x5 :: x4 :: x3 :: x2 :: x1 :: .ref c :: st) σ Q ↔ PC sc k [.ref c, x1, x2, x3, x4, x5, x6, x7] σ (fun r σ' => PW sc mt is nb L (r.toList ++ st) σ' Q) := PW_ca (by simp [zcal, h1, h2, h3, h])
theorem PW_cs7 {k : Nat} {x1 x2 x3 x4 x5 x6 x7 : Value} (h1 : znp k = 7) (h3 : k < 997) (h : st.length ≤ 4) : PW sc mt (.invokestatic k :: is) nb L (x7 :: x6 :: x5 :: x4 :: x3 :: x2 :: x1 :: st) σ Q ↔ PC sc k [x1, x2, x3, x4, x5, x6, x7] σ (fun r σ' => PW sc mt is nb L (r.toList ++ st) σ' Q) := PW_ca (by simp [zcal, h1, h, show ¬ 997 ≤ k by omega])
theorem PW_c0 {x1 x2 : Value} (h : st.length ≤ 4) : PW sc mt (.invokevirtual 0 :: is) nb L (x2 :: x1 :: .ref 0 :: st) σ Q ↔ PC sc 0 [.ref 0, x1, x2] σ (fun r σ' => PW sc mt is nb L (r.toList ++ st) σ' Q) := PW_cv2 (by decide +kernel) (by decide +kernel) (by decide +kernel) h
theorem zml_0 : zml 0 = 4 := by decide +kernel
theorem zret_0 : zret 0 = some .int := by decide +kernel
theorem PC_0 {x1 : Nat} {x2 : Int32} : PC sc 0 [.ref 0, .ref x1, .int x2] σ Q ↔ PW sc 0 (zblk 0 0) 1 [some (.ref 0), some (.ref x1), some (.int x2), none] [] σ Q := by
  unfold PC zini
  rw [zml_0]
  simp [zsl, Value.category]
theorem PW_c1 {x1 : Value} (h : st.length ≤ 4) : PW sc mt (.invokevirtual 1 :: is) nb L (x1 :: .ref 0 :: st) σ Q ↔ PC sc 1 [.ref 0, x1] σ (fun r σ' => PW sc mt is nb L (r.toList ++ st) σ' Q) := PW_cv1 (by decide +kernel) (by decide +kernel) (by decide +kernel) h
theorem zml_1 : zml 1 = 2 := by decide +kernel
theorem zret_1 : zret 1 = some .boolean := by decide +kernel
theorem PC_1 {x1 : Int32} : PC sc 1 [.ref 0, .int x1] σ Q ↔ PW sc 1 (zblk 1 0) 1 [some (.ref 0), some (.int x1)] [] σ Q := by
  unfold PC zini
  rw [zml_1]
  simp [zsl, Value.category]
theorem PW_c2 {x1 : Value} (h : st.length ≤ 4) : PW sc mt (.invokevirtual 2 :: is) nb L (x1 :: .ref 0 :: st) σ Q ↔ PC sc 2 [.ref 0, x1] σ (fun r σ' => PW sc mt is nb L (r.toList ++ st) σ' Q) := PW_cv1 (by decide +kernel) (by decide +kernel) (by decide +kernel) h
theorem zml_2 : zml 2 = 2 := by decide +kernel
theorem zret_2 : zret 2 = some .boolean := by decide +kernel
theorem PC_2 {x1 : Int32} : PC sc 2 [.ref 0, .int x1] σ Q ↔ PW sc 2 (zblk 2 0) 1 [some (.ref 0), some (.int x1)] [] σ Q := by
  unfold PC zini
  rw [zml_2]
  simp [zsl, Value.category]
theorem PW_c3 (h : st.length ≤ 4) : PW sc mt (.invokevirtual 3 :: is) nb L (.ref 0 :: st) σ Q ↔ PC sc 3 [.ref 0] σ (fun r σ' => PW sc mt is nb L (r.toList ++ st) σ' Q) := PW_cv0 (by decide +kernel) (by decide +kernel) (by decide +kernel) h
theorem zml_3 : zml 3 = 1 := by decide +kernel
theorem zret_3 : zret 3 = some .boolean := by decide +kernel
theorem PC_3  : PC sc 3 [.ref 0] σ Q ↔ PW sc 3 (zblk 3 0) 1 [some (.ref 0)] [] σ Q := by
  unfold PC zini
  rw [zml_3]
  simp [zsl, Value.category]
theorem PW_c4 {x1 : Value} (h : st.length ≤ 4) : PW sc mt (.invokevirtual 4 :: is) nb L (x1 :: .ref 0 :: st) σ Q ↔ PC sc 4 [.ref 0, x1] σ (fun r σ' => PW sc mt is nb L (r.toList ++ st) σ' Q) := PW_cv1 (by decide +kernel) (by decide +kernel) (by decide +kernel) h
theorem zml_4 : zml 4 = 2 := by decide +kernel
theorem zret_4 : zret 4 = some .boolean := by decide +kernel
theorem PC_4 {x1 : Int32} : PC sc 4 [.ref 0, .int x1] σ Q ↔ PW sc 4 (zblk 4 0) 1 [some (.ref 0), some (.int x1)] [] σ Q := by
  unfold PC zini
  rw [zml_4]
  simp [zsl, Value.category]
theorem PW_c5 {x1 : Value} (h : st.length ≤ 4) : PW sc mt (.invokestatic 5 :: is) nb L (x1 :: st) σ Q ↔ PC sc 5 [x1] σ (fun r σ' => PW sc mt is nb L (r.toList ++ st) σ' Q) := PW_cs1 (by decide +kernel) (by decide +kernel) h
theorem zml_5 : zml 5 = 1 := by decide +kernel
theorem zret_5 : zret 5 = some .int := by decide +kernel
theorem PC_5 {x1 : Int32} : PC sc 5 [.int x1] σ Q ↔ PW sc 5 (zblk 5 0) 1 [some (.int x1)] [] σ Q := by
  unfold PC zini
  rw [zml_5]
  simp [zsl, Value.category]
theorem PW_c6 {x1 x2 x3 x4 : Value} (h : st.length ≤ 4) : PW sc mt (.invokevirtual 6 :: is) nb L (x4 :: x3 :: x2 :: x1 :: .ref 0 :: st) σ Q ↔ PC sc 6 [.ref 0, x1, x2, x3, x4] σ (fun r σ' => PW sc mt is nb L (r.toList ++ st) σ' Q) := PW_cv4 (by decide +kernel) (by decide +kernel) (by decide +kernel) h
theorem zml_6 : zml 6 = 6 := by decide +kernel
theorem zret_6 : zret 6 = some .int := by decide +kernel
theorem PC_6 {x1 : Nat} {x2 : Int32} {x3 : Int32} {x4 : Int32} : PC sc 6 [.ref 0, .ref x1, .int x2, .int x3, .int x4] σ Q ↔ PW sc 6 (zblk 6 0) 1 [some (.ref 0), some (.ref x1), some (.int x2), some (.int x3), some (.int x4), none] [] σ Q := by
  unfold PC zini
  rw [zml_6]
  simp [zsl, Value.category]
theorem PW_c7 {x1 x2 x3 x4 : Value} (h : st.length ≤ 4) : PW sc mt (.invokevirtual 7 :: is) nb L (x4 :: x3 :: x2 :: x1 :: .ref 1 :: st) σ Q ↔ PC sc 7 [.ref 1, x1, x2, x3, x4] σ (fun r σ' => PW sc mt is nb L (r.toList ++ st) σ' Q) := PW_cv4 (by decide +kernel) (by decide +kernel) (by decide +kernel) h
theorem zml_7 : zml 7 = 5 := by decide +kernel
theorem zret_7 : zret 7 = some .int := by decide +kernel
theorem PC_7 {x1 : Int32} {x2 : Int32} {x3 : Int32} {x4 : Int32} : PC sc 7 [.ref 1, .int x1, .int x2, .int x3, .int x4] σ Q ↔ PW sc 7 (zblk 7 0) 1 [some (.ref 1), some (.int x1), some (.int x2), some (.int x3), some (.int x4)] [] σ Q := by
  unfold PC zini
  rw [zml_7]
  simp [zsl, Value.category]
theorem PW_c8 {x1 x2 : Value} (h : st.length ≤ 4) : PW sc mt (.invokevirtual 8 :: is) nb L (x2 :: x1 :: .ref 1 :: st) σ Q ↔ PC sc 8 [.ref 1, x1, x2] σ (fun r σ' => PW sc mt is nb L (r.toList ++ st) σ' Q) := PW_cv2 (by decide +kernel) (by decide +kernel) (by decide +kernel) h
theorem zml_8 : zml 8 = 3 := by decide +kernel
theorem zret_8 : zret 8 = some .boolean := by decide +kernel
theorem PC_8 {x1 : Int32} {x2 : Int32} : PC sc 8 [.ref 1, .int x1, .int x2] σ Q ↔ PW sc 8 (zblk 8 0) 1 [some (.ref 1), some (.int x1), some (.int x2)] [] σ Q := by
  unfold PC zini
  rw [zml_8]
  simp [zsl, Value.category]
theorem PW_c9 {x1 x2 : Value} (h : st.length ≤ 4) : PW sc mt (.invokevirtual 9 :: is) nb L (x2 :: x1 :: .ref 1 :: st) σ Q ↔ PC sc 9 [.ref 1, x1, x2] σ (fun r σ' => PW sc mt is nb L (r.toList ++ st) σ' Q) := PW_cv2 (by decide +kernel) (by decide +kernel) (by decide +kernel) h
theorem zml_9 : zml 9 = 4 := by decide +kernel
theorem zret_9 : zret 9 = some .boolean := by decide +kernel
theorem PC_9 {x1 : Int32} {x2 : Int32} : PC sc 9 [.ref 1, .int x1, .int x2] σ Q ↔ PW sc 9 (zblk 9 0) 1 [some (.ref 1), some (.int x1), some (.int x2), none] [] σ Q := by
  unfold PC zini
  rw [zml_9]
  simp [zsl, Value.category]
theorem PW_c10 {x1 : Value} (h : st.length ≤ 4) : PW sc mt (.invokevirtual 10 :: is) nb L (x1 :: .ref 1 :: st) σ Q ↔ PC sc 10 [.ref 1, x1] σ (fun r σ' => PW sc mt is nb L (r.toList ++ st) σ' Q) := PW_cv1 (by decide +kernel) (by decide +kernel) (by decide +kernel) h
theorem zml_10 : zml 10 = 3 := by decide +kernel
theorem zret_10 : zret 10 = none := by decide +kernel
theorem PC_10 {x1 : Int32} : PC sc 10 [.ref 1, .int x1] σ Q ↔ PW sc 10 (zblk 10 0) 1 [some (.ref 1), some (.int x1), none] [] σ Q := by
  unfold PC zini
  rw [zml_10]
  simp [zsl, Value.category]
theorem PW_c11 {x1 : Value} (h : st.length ≤ 4) : PW sc mt (.invokevirtual 11 :: is) nb L (x1 :: .ref 1 :: st) σ Q ↔ PC sc 11 [.ref 1, x1] σ (fun r σ' => PW sc mt is nb L (r.toList ++ st) σ' Q) := PW_cv1 (by decide +kernel) (by decide +kernel) (by decide +kernel) h
theorem zml_11 : zml 11 = 2 := by decide +kernel
theorem zret_11 : zret 11 = some .int := by decide +kernel
theorem PC_11 {x1 : Int32} : PC sc 11 [.ref 1, .int x1] σ Q ↔ PW sc 11 (zblk 11 0) 1 [some (.ref 1), some (.int x1)] [] σ Q := by
  unfold PC zini
  rw [zml_11]
  simp [zsl, Value.category]
theorem PW_c12 {x1 x2 : Value} (h : st.length ≤ 4) : PW sc mt (.invokevirtual 12 :: is) nb L (x2 :: x1 :: .ref 1 :: st) σ Q ↔ PC sc 12 [.ref 1, x1, x2] σ (fun r σ' => PW sc mt is nb L (r.toList ++ st) σ' Q) := PW_cv2 (by decide +kernel) (by decide +kernel) (by decide +kernel) h
theorem zml_12 : zml 12 = 6 := by decide +kernel
theorem zret_12 : zret 12 = some .boolean := by decide +kernel
theorem PC_12 {x1 : Int32} {x2 : Int32} : PC sc 12 [.ref 1, .int x1, .int x2] σ Q ↔ PW sc 12 (zblk 12 0) 1 [some (.ref 1), some (.int x1), some (.int x2), none, none, none] [] σ Q := by
  unfold PC zini
  rw [zml_12]
  simp [zsl, Value.category]
theorem PW_c13 {x1 x2 x3 : Value} (h : st.length ≤ 4) : PW sc mt (.invokevirtual 13 :: is) nb L (x3 :: x2 :: x1 :: .ref 1 :: st) σ Q ↔ PC sc 13 [.ref 1, x1, x2, x3] σ (fun r σ' => PW sc mt is nb L (r.toList ++ st) σ' Q) := PW_cv3 (by decide +kernel) (by decide +kernel) (by decide +kernel) h
theorem zml_13 : zml 13 = 4 := by decide +kernel
theorem zret_13 : zret 13 = none := by decide +kernel
theorem PC_13 {x1 : Int32} {x2 : Int32} {x3 : Int32} : PC sc 13 [.ref 1, .int x1, .int x2, .int x3] σ Q ↔ PW sc 13 (zblk 13 0) 1 [some (.ref 1), some (.int x1), some (.int x2), some (.int x3)] [] σ Q := by
  unfold PC zini
  rw [zml_13]
  simp [zsl, Value.category]
theorem PW_c14 {x1 : Value} (h : st.length ≤ 4) : PW sc mt (.invokevirtual 14 :: is) nb L (x1 :: .ref 1 :: st) σ Q ↔ PC sc 14 [.ref 1, x1] σ (fun r σ' => PW sc mt is nb L (r.toList ++ st) σ' Q) := PW_cv1 (by decide +kernel) (by decide +kernel) (by decide +kernel) h
theorem zml_14 : zml 14 = 5 := by decide +kernel
theorem zret_14 : zret 14 = some .int := by decide +kernel
theorem PC_14 {x1 : Int32} : PC sc 14 [.ref 1, .int x1] σ Q ↔ PW sc 14 (zblk 14 0) 1 [some (.ref 1), some (.int x1), none, none, none] [] σ Q := by
  unfold PC zini
  rw [zml_14]
  simp [zsl, Value.category]
theorem PW_c15 {x1 x2 x3 : Value} (h : st.length ≤ 4) : PW sc mt (.invokevirtual 15 :: is) nb L (x3 :: x2 :: x1 :: .ref 1 :: st) σ Q ↔ PC sc 15 [.ref 1, x1, x2, x3] σ (fun r σ' => PW sc mt is nb L (r.toList ++ st) σ' Q) := PW_cv3 (by decide +kernel) (by decide +kernel) (by decide +kernel) h
theorem zml_15 : zml 15 = 6 := by decide +kernel
theorem zret_15 : zret 15 = some .boolean := by decide +kernel
theorem PC_15 {x1 : Int32} {x2 : Int32} {x3 : Int32} : PC sc 15 [.ref 1, .int x1, .int x2, .int x3] σ Q ↔ PW sc 15 (zblk 15 0) 1 [some (.ref 1), some (.int x1), some (.int x2), some (.int x3), none, none] [] σ Q := by
  unfold PC zini
  rw [zml_15]
  simp [zsl, Value.category]
theorem PW_c16 {x1 x2 x3 : Value} (h : st.length ≤ 4) : PW sc mt (.invokevirtual 16 :: is) nb L (x3 :: x2 :: x1 :: .ref 1 :: st) σ Q ↔ PC sc 16 [.ref 1, x1, x2, x3] σ (fun r σ' => PW sc mt is nb L (r.toList ++ st) σ' Q) := PW_cv3 (by decide +kernel) (by decide +kernel) (by decide +kernel) h
theorem zml_16 : zml 16 = 5 := by decide +kernel
theorem zret_16 : zret 16 = some .int := by decide +kernel
theorem PC_16 {x1 : Int32} {x2 : Int32} {x3 : Int32} : PC sc 16 [.ref 1, .int x1, .int x2, .int x3] σ Q ↔ PW sc 16 (zblk 16 0) 1 [some (.ref 1), some (.int x1), some (.int x2), some (.int x3), none] [] σ Q := by
  unfold PC zini
  rw [zml_16]
  simp [zsl, Value.category]
theorem PW_c17 {x1 x2 : Value} (h : st.length ≤ 4) : PW sc mt (.invokevirtual 17 :: is) nb L (x2 :: x1 :: .ref 1 :: st) σ Q ↔ PC sc 17 [.ref 1, x1, x2] σ (fun r σ' => PW sc mt is nb L (r.toList ++ st) σ' Q) := PW_cv2 (by decide +kernel) (by decide +kernel) (by decide +kernel) h
theorem zml_17 : zml 17 = 5 := by decide +kernel
theorem zret_17 : zret 17 = some .int := by decide +kernel
theorem PC_17 {x1 : Int32} {x2 : Int32} : PC sc 17 [.ref 1, .int x1, .int x2] σ Q ↔ PW sc 17 (zblk 17 0) 1 [some (.ref 1), some (.int x1), some (.int x2), none, none] [] σ Q := by
  unfold PC zini
  rw [zml_17]
  simp [zsl, Value.category]
theorem PW_c18 {x1 x2 x3 : Value} (h : st.length ≤ 4) : PW sc mt (.invokevirtual 18 :: is) nb L (x3 :: x2 :: x1 :: .ref 1 :: st) σ Q ↔ PC sc 18 [.ref 1, x1, x2, x3] σ (fun r σ' => PW sc mt is nb L (r.toList ++ st) σ' Q) := PW_cv3 (by decide +kernel) (by decide +kernel) (by decide +kernel) h
theorem zml_18 : zml 18 = 4 := by decide +kernel
theorem zret_18 : zret 18 = some .boolean := by decide +kernel
theorem PC_18 {x1 : Int32} {x2 : Int32} {x3 : Int32} : PC sc 18 [.ref 1, .int x1, .int x2, .int x3] σ Q ↔ PW sc 18 (zblk 18 0) 1 [some (.ref 1), some (.int x1), some (.int x2), some (.int x3)] [] σ Q := by
  unfold PC zini
  rw [zml_18]
  simp [zsl, Value.category]
theorem PW_c19 {x1 x2 : Value} (h : st.length ≤ 4) : PW sc mt (.invokevirtual 19 :: is) nb L (x2 :: x1 :: .ref 1 :: st) σ Q ↔ PC sc 19 [.ref 1, x1, x2] σ (fun r σ' => PW sc mt is nb L (r.toList ++ st) σ' Q) := PW_cv2 (by decide +kernel) (by decide +kernel) (by decide +kernel) h
theorem zml_19 : zml 19 = 6 := by decide +kernel
theorem zret_19 : zret 19 = some .boolean := by decide +kernel
theorem PC_19 {x1 : Int32} {x2 : Int32} : PC sc 19 [.ref 1, .int x1, .int x2] σ Q ↔ PW sc 19 (zblk 19 0) 1 [some (.ref 1), some (.int x1), some (.int x2), none, none, none] [] σ Q := by
  unfold PC zini
  rw [zml_19]
  simp [zsl, Value.category]
theorem PW_c20 {x1 x2 x3 : Value} (h : st.length ≤ 4) : PW sc mt (.invokevirtual 20 :: is) nb L (x3 :: x2 :: x1 :: .ref 1 :: st) σ Q ↔ PC sc 20 [.ref 1, x1, x2, x3] σ (fun r σ' => PW sc mt is nb L (r.toList ++ st) σ' Q) := PW_cv3 (by decide +kernel) (by decide +kernel) (by decide +kernel) h
theorem zml_20 : zml 20 = 5 := by decide +kernel
theorem zret_20 : zret 20 = some .boolean := by decide +kernel
theorem PC_20 {x1 : Int32} {x2 : Int32} {x3 : Int32} : PC sc 20 [.ref 1, .int x1, .int x2, .int x3] σ Q ↔ PW sc 20 (zblk 20 0) 1 [some (.ref 1), some (.int x1), some (.int x2), some (.int x3), none] [] σ Q := by
  unfold PC zini
  rw [zml_20]
  simp [zsl, Value.category]
theorem PW_c21 {x1 x2 : Value} (h : st.length ≤ 4) : PW sc mt (.invokevirtual 21 :: is) nb L (x2 :: x1 :: .ref 2 :: st) σ Q ↔ PC sc 21 [.ref 2, x1, x2] σ (fun r σ' => PW sc mt is nb L (r.toList ++ st) σ' Q) := PW_cv2 (by decide +kernel) (by decide +kernel) (by decide +kernel) h
theorem zml_21 : zml 21 = 5 := by decide +kernel
theorem zret_21 : zret 21 = none := by decide +kernel
theorem PC_21 {x1 : Nat} {x2 : Nat} : PC sc 21 [.ref 2, .ref x1, .ref x2] σ Q ↔ PW sc 21 (zblk 21 0) 1 [some (.ref 2), some (.ref x1), some (.ref x2), none, none] [] σ Q := by
  unfold PC zini
  rw [zml_21]
  simp [zsl, Value.category]
theorem PW_c22 {x1 x2 : Value} (h : st.length ≤ 4) : PW sc mt (.invokevirtual 22 :: is) nb L (x2 :: x1 :: .ref 2 :: st) σ Q ↔ PC sc 22 [.ref 2, x1, x2] σ (fun r σ' => PW sc mt is nb L (r.toList ++ st) σ' Q) := PW_cv2 (by decide +kernel) (by decide +kernel) (by decide +kernel) h
theorem zml_22 : zml 22 = 3 := by decide +kernel
theorem zret_22 : zret 22 = none := by decide +kernel
theorem PC_22 {x1 : Int32} {x2 : Int32} : PC sc 22 [.ref 2, .int x1, .int x2] σ Q ↔ PW sc 22 (zblk 22 0) 1 [some (.ref 2), some (.int x1), some (.int x2)] [] σ Q := by
  unfold PC zini
  rw [zml_22]
  simp [zsl, Value.category]
theorem PW_c23 (h : st.length ≤ 4) : PW sc mt (.invokevirtual 23 :: is) nb L (.ref 2 :: st) σ Q ↔ PC sc 23 [.ref 2] σ (fun r σ' => PW sc mt is nb L (r.toList ++ st) σ' Q) := PW_cv0 (by decide +kernel) (by decide +kernel) (by decide +kernel) h
theorem zml_23 : zml 23 = 3 := by decide +kernel
theorem zret_23 : zret 23 = some .int := by decide +kernel
theorem PC_23  : PC sc 23 [.ref 2] σ Q ↔ PW sc 23 (zblk 23 0) 1 [some (.ref 2), none, none] [] σ Q := by
  unfold PC zini
  rw [zml_23]
  simp [zsl, Value.category]
theorem PW_c24 (h : st.length ≤ 4) : PW sc mt (.invokevirtual 24 :: is) nb L (.ref 2 :: st) σ Q ↔ PC sc 24 [.ref 2] σ (fun r σ' => PW sc mt is nb L (r.toList ++ st) σ' Q) := PW_cv0 (by decide +kernel) (by decide +kernel) (by decide +kernel) h
theorem zml_24 : zml 24 = 2 := by decide +kernel
theorem zret_24 : zret 24 = none := by decide +kernel
theorem PC_24  : PC sc 24 [.ref 2] σ Q ↔ PW sc 24 (zblk 24 0) 1 [some (.ref 2), none] [] σ Q := by
  unfold PC zini
  rw [zml_24]
  simp [zsl, Value.category]
theorem PW_c25 {x1 : Value} (h : st.length ≤ 4) : PW sc mt (.invokevirtual 25 :: is) nb L (x1 :: .ref 2 :: st) σ Q ↔ PC sc 25 [.ref 2, x1] σ (fun r σ' => PW sc mt is nb L (r.toList ++ st) σ' Q) := PW_cv1 (by decide +kernel) (by decide +kernel) (by decide +kernel) h
theorem zml_25 : zml 25 = 6 := by decide +kernel
theorem zret_25 : zret 25 = none := by decide +kernel
theorem PC_25 {x1 : Int32} : PC sc 25 [.ref 2, .int x1] σ Q ↔ PW sc 25 (zblk 25 0) 1 [some (.ref 2), some (.int x1), none, none, none, none] [] σ Q := by
  unfold PC zini
  rw [zml_25]
  simp [zsl, Value.category]
theorem PW_c26 {x1 x2 : Value} (h : st.length ≤ 4) : PW sc mt (.invokevirtual 26 :: is) nb L (x2 :: x1 :: .ref 2 :: st) σ Q ↔ PC sc 26 [.ref 2, x1, x2] σ (fun r σ' => PW sc mt is nb L (r.toList ++ st) σ' Q) := PW_cv2 (by decide +kernel) (by decide +kernel) (by decide +kernel) h
theorem zml_26 : zml 26 = 7 := by decide +kernel
theorem zret_26 : zret 26 = none := by decide +kernel
theorem PC_26 {x1 : Int32} {x2 : Int32} : PC sc 26 [.ref 2, .int x1, .int x2] σ Q ↔ PW sc 26 (zblk 26 0) 1 [some (.ref 2), some (.int x1), some (.int x2), none, none, none, none] [] σ Q := by
  unfold PC zini
  rw [zml_26]
  simp [zsl, Value.category]
theorem PW_c27 {x1 : Value} (h : st.length ≤ 4) : PW sc mt (.invokevirtual 27 :: is) nb L (x1 :: .ref 2 :: st) σ Q ↔ PC sc 27 [.ref 2, x1] σ (fun r σ' => PW sc mt is nb L (r.toList ++ st) σ' Q) := PW_cv1 (by decide +kernel) (by decide +kernel) (by decide +kernel) h
theorem zml_27 : zml 27 = 4 := by decide +kernel
theorem zret_27 : zret 27 = some .int := by decide +kernel
theorem PC_27 {x1 : Int32} : PC sc 27 [.ref 2, .int x1] σ Q ↔ PW sc 27 (zblk 27 0) 1 [some (.ref 2), some (.int x1), none, none] [] σ Q := by
  unfold PC zini
  rw [zml_27]
  simp [zsl, Value.category]
theorem PW_c28 {x1 x2 : Value} (h : st.length ≤ 4) : PW sc mt (.invokevirtual 28 :: is) nb L (x2 :: x1 :: .ref 2 :: st) σ Q ↔ PC sc 28 [.ref 2, x1, x2] σ (fun r σ' => PW sc mt is nb L (r.toList ++ st) σ' Q) := PW_cv2 (by decide +kernel) (by decide +kernel) (by decide +kernel) h
theorem zml_28 : zml 28 = 5 := by decide +kernel
theorem zret_28 : zret 28 = none := by decide +kernel
theorem PC_28 {x1 : Int64} {x2 : Int32} : PC sc 28 [.ref 2, .long x1, .int x2] σ Q ↔ PW sc 28 (zblk 28 0) 1 [some (.ref 2), some (.long x1), none, some (.int x2), none] [] σ Q := by
  unfold PC zini
  rw [zml_28]
  simp [zsl, Value.category]
theorem PW_c29 {x1 x2 : Value} (h : st.length ≤ 4) : PW sc mt (.invokevirtual 29 :: is) nb L (x2 :: x1 :: .ref 2 :: st) σ Q ↔ PC sc 29 [.ref 2, x1, x2] σ (fun r σ' => PW sc mt is nb L (r.toList ++ st) σ' Q) := PW_cv2 (by decide +kernel) (by decide +kernel) (by decide +kernel) h
theorem zml_29 : zml 29 = 6 := by decide +kernel
theorem zret_29 : zret 29 = some .long := by decide +kernel
theorem PC_29 {x1 : Int32} {x2 : Int32} : PC sc 29 [.ref 2, .int x1, .int x2] σ Q ↔ PW sc 29 (zblk 29 0) 1 [some (.ref 2), some (.int x1), some (.int x2), none, none, none] [] σ Q := by
  unfold PC zini
  rw [zml_29]
  simp [zsl, Value.category]
theorem PW_c30 (h : st.length ≤ 4) : PW sc mt (.invokevirtual 30 :: is) nb L (.ref 2 :: st) σ Q ↔ PC sc 30 [.ref 2] σ (fun r σ' => PW sc mt is nb L (r.toList ++ st) σ' Q) := PW_cv0 (by decide +kernel) (by decide +kernel) (by decide +kernel) h
theorem zml_30 : zml 30 = 5 := by decide +kernel
theorem zret_30 : zret 30 = none := by decide +kernel
theorem PC_30  : PC sc 30 [.ref 2] σ Q ↔ PW sc 30 (zblk 30 0) 1 [some (.ref 2), none, none, none, none] [] σ Q := by
  unfold PC zini
  rw [zml_30]
  simp [zsl, Value.category]
theorem PW_c31 {x1 : Value} (h : st.length ≤ 4) : PW sc mt (.invokevirtual 31 :: is) nb L (x1 :: .ref 2 :: st) σ Q ↔ PC sc 31 [.ref 2, x1] σ (fun r σ' => PW sc mt is nb L (r.toList ++ st) σ' Q) := PW_cv1 (by decide +kernel) (by decide +kernel) (by decide +kernel) h
theorem zml_31 : zml 31 = 4 := by decide +kernel
theorem zret_31 : zret 31 = some .int := by decide +kernel
theorem PC_31 {x1 : Int32} : PC sc 31 [.ref 2, .int x1] σ Q ↔ PW sc 31 (zblk 31 0) 1 [some (.ref 2), some (.int x1), none, none] [] σ Q := by
  unfold PC zini
  rw [zml_31]
  simp [zsl, Value.category]
theorem PW_c32 {x1 : Value} (h : st.length ≤ 4) : PW sc mt (.invokevirtual 32 :: is) nb L (x1 :: .ref 2 :: st) σ Q ↔ PC sc 32 [.ref 2, x1] σ (fun r σ' => PW sc mt is nb L (r.toList ++ st) σ' Q) := PW_cv1 (by decide +kernel) (by decide +kernel) (by decide +kernel) h
theorem zml_32 : zml 32 = 5 := by decide +kernel
theorem zret_32 : zret 32 = some .int := by decide +kernel
theorem PC_32 {x1 : Int32} : PC sc 32 [.ref 2, .int x1] σ Q ↔ PW sc 32 (zblk 32 0) 1 [some (.ref 2), some (.int x1), none, none, none] [] σ Q := by
  unfold PC zini
  rw [zml_32]
  simp [zsl, Value.category]
theorem PW_c33 {x1 x2 : Value} (h : st.length ≤ 4) : PW sc mt (.invokevirtual 33 :: is) nb L (x2 :: x1 :: .ref 2 :: st) σ Q ↔ PC sc 33 [.ref 2, x1, x2] σ (fun r σ' => PW sc mt is nb L (r.toList ++ st) σ' Q) := PW_cv2 (by decide +kernel) (by decide +kernel) (by decide +kernel) h
theorem zml_33 : zml 33 = 3 := by decide +kernel
theorem zret_33 : zret 33 = some .boolean := by decide +kernel
theorem PC_33 {x1 : Int32} {x2 : Int32} : PC sc 33 [.ref 2, .int x1, .int x2] σ Q ↔ PW sc 33 (zblk 33 0) 1 [some (.ref 2), some (.int x1), some (.int x2)] [] σ Q := by
  unfold PC zini
  rw [zml_33]
  simp [zsl, Value.category]
theorem PW_c34 {x1 : Value} (h : st.length ≤ 4) : PW sc mt (.invokevirtual 34 :: is) nb L (x1 :: .ref 2 :: st) σ Q ↔ PC sc 34 [.ref 2, x1] σ (fun r σ' => PW sc mt is nb L (r.toList ++ st) σ' Q) := PW_cv1 (by decide +kernel) (by decide +kernel) (by decide +kernel) h
theorem zml_34 : zml 34 = 4 := by decide +kernel
theorem zret_34 : zret 34 = some .boolean := by decide +kernel
theorem PC_34 {x1 : Nat} : PC sc 34 [.ref 2, .ref x1] σ Q ↔ PW sc 34 (zblk 34 0) 1 [some (.ref 2), some (.ref x1), none, none] [] σ Q := by
  unfold PC zini
  rw [zml_34]
  simp [zsl, Value.category]
theorem PW_c35 {x1 x2 : Value} (h : st.length ≤ 4) : PW sc mt (.invokevirtual 35 :: is) nb L (x2 :: x1 :: .ref 2 :: st) σ Q ↔ PC sc 35 [.ref 2, x1, x2] σ (fun r σ' => PW sc mt is nb L (r.toList ++ st) σ' Q) := PW_cv2 (by decide +kernel) (by decide +kernel) (by decide +kernel) h
theorem zml_35 : zml 35 = 4 := by decide +kernel
theorem zret_35 : zret 35 = some .boolean := by decide +kernel
theorem PC_35 {x1 : Int32} {x2 : Int32} : PC sc 35 [.ref 2, .int x1, .int x2] σ Q ↔ PW sc 35 (zblk 35 0) 1 [some (.ref 2), some (.int x1), some (.int x2), none] [] σ Q := by
  unfold PC zini
  rw [zml_35]
  simp [zsl, Value.category]
theorem PW_c36 (h : st.length ≤ 4) : PW sc mt (.invokevirtual 36 :: is) nb L (.ref 2 :: st) σ Q ↔ PC sc 36 [.ref 2] σ (fun r σ' => PW sc mt is nb L (r.toList ++ st) σ' Q) := PW_cv0 (by decide +kernel) (by decide +kernel) (by decide +kernel) h
theorem zml_36 : zml 36 = 4 := by decide +kernel
theorem zret_36 : zret 36 = some .int := by decide +kernel
theorem PC_36  : PC sc 36 [.ref 2] σ Q ↔ PW sc 36 (zblk 36 0) 1 [some (.ref 2), none, none, none] [] σ Q := by
  unfold PC zini
  rw [zml_36]
  simp [zsl, Value.category]
theorem PW_c37 {x1 : Value} (h : st.length ≤ 4) : PW sc mt (.invokevirtual 37 :: is) nb L (x1 :: .ref 2 :: st) σ Q ↔ PC sc 37 [.ref 2, x1] σ (fun r σ' => PW sc mt is nb L (r.toList ++ st) σ' Q) := PW_cv1 (by decide +kernel) (by decide +kernel) (by decide +kernel) h
theorem zml_37 : zml 37 = 5 := by decide +kernel
theorem zret_37 : zret 37 = some .int := by decide +kernel
theorem PC_37 {x1 : Int32} : PC sc 37 [.ref 2, .int x1] σ Q ↔ PW sc 37 (zblk 37 0) 1 [some (.ref 2), some (.int x1), none, none, none] [] σ Q := by
  unfold PC zini
  rw [zml_37]
  simp [zsl, Value.category]
theorem PW_c38 {x1 : Value} (h : st.length ≤ 4) : PW sc mt (.invokevirtual 38 :: is) nb L (x1 :: .ref 3 :: st) σ Q ↔ PC sc 38 [.ref 3, x1] σ (fun r σ' => PW sc mt is nb L (r.toList ++ st) σ' Q) := PW_cv1 (by decide +kernel) (by decide +kernel) (by decide +kernel) h
theorem zml_38 : zml 38 = 2 := by decide +kernel
theorem zret_38 : zret 38 = some .boolean := by decide +kernel
theorem PC_38 {x1 : Int32} : PC sc 38 [.ref 3, .int x1] σ Q ↔ PW sc 38 (zblk 38 0) 1 [some (.ref 3), some (.int x1)] [] σ Q := by
  unfold PC zini
  rw [zml_38]
  simp [zsl, Value.category]
theorem PW_c39 {x1 x2 x3 x4 : Value} (h : st.length ≤ 4) : PW sc mt (.invokevirtual 39 :: is) nb L (x4 :: x3 :: x2 :: x1 :: .ref 3 :: st) σ Q ↔ PC sc 39 [.ref 3, x1, x2, x3, x4] σ (fun r σ' => PW sc mt is nb L (r.toList ++ st) σ' Q) := PW_cv4 (by decide +kernel) (by decide +kernel) (by decide +kernel) h
theorem zml_39 : zml 39 = 5 := by decide +kernel
theorem zret_39 : zret 39 = some .int := by decide +kernel
theorem PC_39 {x1 : Int32} {x2 : Int32} {x3 : Int32} {x4 : Int32} : PC sc 39 [.ref 3, .int x1, .int x2, .int x3, .int x4] σ Q ↔ PW sc 39 (zblk 39 0) 1 [some (.ref 3), some (.int x1), some (.int x2), some (.int x3), some (.int x4)] [] σ Q := by
  unfold PC zini
  rw [zml_39]
  simp [zsl, Value.category]
theorem PW_c40 {x1 x2 x3 x4 : Value} (h : st.length ≤ 4) : PW sc mt (.invokevirtual 40 :: is) nb L (x4 :: x3 :: x2 :: x1 :: .ref 3 :: st) σ Q ↔ PC sc 40 [.ref 3, x1, x2, x3, x4] σ (fun r σ' => PW sc mt is nb L (r.toList ++ st) σ' Q) := PW_cv4 (by decide +kernel) (by decide +kernel) (by decide +kernel) h
theorem zml_40 : zml 40 = 6 := by decide +kernel
theorem zret_40 : zret 40 = some .boolean := by decide +kernel
theorem PC_40 {x1 : Int32} {x2 : Int32} {x3 : Int32} {x4 : Int32} : PC sc 40 [.ref 3, .int x1, .int x2, .int x3, .int x4] σ Q ↔ PW sc 40 (zblk 40 0) 1 [some (.ref 3), some (.int x1), some (.int x2), some (.int x3), some (.int x4), none] [] σ Q := by
  unfold PC zini
  rw [zml_40]
  simp [zsl, Value.category]
theorem PW_c41 {x1 x2 x3 : Value} (h : st.length ≤ 4) : PW sc mt (.invokevirtual 41 :: is) nb L (x3 :: x2 :: x1 :: .ref 3 :: st) σ Q ↔ PC sc 41 [.ref 3, x1, x2, x3] σ (fun r σ' => PW sc mt is nb L (r.toList ++ st) σ' Q) := PW_cv3 (by decide +kernel) (by decide +kernel) (by decide +kernel) h
theorem zml_41 : zml 41 = 5 := by decide +kernel
theorem zret_41 : zret 41 = some .int := by decide +kernel
theorem PC_41 {x1 : Nat} {x2 : Int32} {x3 : Int32} : PC sc 41 [.ref 3, .ref x1, .int x2, .int x3] σ Q ↔ PW sc 41 (zblk 41 0) 1 [some (.ref 3), some (.ref x1), some (.int x2), some (.int x3), none] [] σ Q := by
  unfold PC zini
  rw [zml_41]
  simp [zsl, Value.category]
theorem PW_c42 {x1 x2 x3 : Value} (h : st.length ≤ 4) : PW sc mt (.invokevirtual 42 :: is) nb L (x3 :: x2 :: x1 :: .ref 3 :: st) σ Q ↔ PC sc 42 [.ref 3, x1, x2, x3] σ (fun r σ' => PW sc mt is nb L (r.toList ++ st) σ' Q) := PW_cv3 (by decide +kernel) (by decide +kernel) (by decide +kernel) h
theorem zml_42 : zml 42 = 5 := by decide +kernel
theorem zret_42 : zret 42 = some .int := by decide +kernel
theorem PC_42 {x1 : Int32} {x2 : Int32} {x3 : Int32} : PC sc 42 [.ref 3, .int x1, .int x2, .int x3] σ Q ↔ PW sc 42 (zblk 42 0) 1 [some (.ref 3), some (.int x1), some (.int x2), some (.int x3), none] [] σ Q := by
  unfold PC zini
  rw [zml_42]
  simp [zsl, Value.category]
theorem PW_c43 {x1 x2 x3 : Value} (h : st.length ≤ 4) : PW sc mt (.invokevirtual 43 :: is) nb L (x3 :: x2 :: x1 :: .ref 4 :: st) σ Q ↔ PC sc 43 [.ref 4, x1, x2, x3] σ (fun r σ' => PW sc mt is nb L (r.toList ++ st) σ' Q) := PW_cv3 (by decide +kernel) (by decide +kernel) (by decide +kernel) h
theorem zml_43 : zml 43 = 4 := by decide +kernel
theorem zret_43 : zret 43 = some .int := by decide +kernel
theorem PC_43 {x1 : Int32} {x2 : Int32} {x3 : Int32} : PC sc 43 [.ref 4, .int x1, .int x2, .int x3] σ Q ↔ PW sc 43 (zblk 43 0) 1 [some (.ref 4), some (.int x1), some (.int x2), some (.int x3)] [] σ Q := by
  unfold PC zini
  rw [zml_43]
  simp [zsl, Value.category]
theorem PW_c44 {x1 x2 : Value} (h : st.length ≤ 4) : PW sc mt (.invokevirtual 44 :: is) nb L (x2 :: x1 :: .ref 4 :: st) σ Q ↔ PC sc 44 [.ref 4, x1, x2] σ (fun r σ' => PW sc mt is nb L (r.toList ++ st) σ' Q) := PW_cv2 (by decide +kernel) (by decide +kernel) (by decide +kernel) h
theorem zml_44 : zml 44 = 4 := by decide +kernel
theorem zret_44 : zret 44 = some .boolean := by decide +kernel
theorem PC_44 {x1 : Int32} {x2 : Int32} : PC sc 44 [.ref 4, .int x1, .int x2] σ Q ↔ PW sc 44 (zblk 44 0) 1 [some (.ref 4), some (.int x1), some (.int x2), none] [] σ Q := by
  unfold PC zini
  rw [zml_44]
  simp [zsl, Value.category]
theorem PW_c45 {x1 x2 : Value} (h : st.length ≤ 4) : PW sc mt (.invokevirtual 45 :: is) nb L (x2 :: x1 :: .ref 4 :: st) σ Q ↔ PC sc 45 [.ref 4, x1, x2] σ (fun r σ' => PW sc mt is nb L (r.toList ++ st) σ' Q) := PW_cv2 (by decide +kernel) (by decide +kernel) (by decide +kernel) h
theorem zml_45 : zml 45 = 5 := by decide +kernel
theorem zret_45 : zret 45 = some .int := by decide +kernel
theorem PC_45 {x1 : Int32} {x2 : Int32} : PC sc 45 [.ref 4, .int x1, .int x2] σ Q ↔ PW sc 45 (zblk 45 0) 1 [some (.ref 4), some (.int x1), some (.int x2), none, none] [] σ Q := by
  unfold PC zini
  rw [zml_45]
  simp [zsl, Value.category]
theorem PW_c46 {x1 x2 : Value} (h : st.length ≤ 4) : PW sc mt (.invokevirtual 46 :: is) nb L (x2 :: x1 :: .ref 4 :: st) σ Q ↔ PC sc 46 [.ref 4, x1, x2] σ (fun r σ' => PW sc mt is nb L (r.toList ++ st) σ' Q) := PW_cv2 (by decide +kernel) (by decide +kernel) (by decide +kernel) h
theorem zml_46 : zml 46 = 5 := by decide +kernel
theorem zret_46 : zret 46 = some .int := by decide +kernel
theorem PC_46 {x1 : Int32} {x2 : Int32} : PC sc 46 [.ref 4, .int x1, .int x2] σ Q ↔ PW sc 46 (zblk 46 0) 1 [some (.ref 4), some (.int x1), some (.int x2), none, none] [] σ Q := by
  unfold PC zini
  rw [zml_46]
  simp [zsl, Value.category]
theorem PW_c47 {x1 : Value} (h : st.length ≤ 4) : PW sc mt (.invokevirtual 47 :: is) nb L (x1 :: .ref 4 :: st) σ Q ↔ PC sc 47 [.ref 4, x1] σ (fun r σ' => PW sc mt is nb L (r.toList ++ st) σ' Q) := PW_cv1 (by decide +kernel) (by decide +kernel) (by decide +kernel) h
theorem zml_47 : zml 47 = 4 := by decide +kernel
theorem zret_47 : zret 47 = some .int := by decide +kernel
theorem PC_47 {x1 : Int32} : PC sc 47 [.ref 4, .int x1] σ Q ↔ PW sc 47 (zblk 47 0) 1 [some (.ref 4), some (.int x1), none, none] [] σ Q := by
  unfold PC zini
  rw [zml_47]
  simp [zsl, Value.category]
theorem PW_c48 {x1 x2 : Value} (h : st.length ≤ 4) : PW sc mt (.invokevirtual 48 :: is) nb L (x2 :: x1 :: .ref 4 :: st) σ Q ↔ PC sc 48 [.ref 4, x1, x2] σ (fun r σ' => PW sc mt is nb L (r.toList ++ st) σ' Q) := PW_cv2 (by decide +kernel) (by decide +kernel) (by decide +kernel) h
theorem zml_48 : zml 48 = 5 := by decide +kernel
theorem zret_48 : zret 48 = some .int := by decide +kernel
theorem PC_48 {x1 : Int32} {x2 : Int32} : PC sc 48 [.ref 4, .int x1, .int x2] σ Q ↔ PW sc 48 (zblk 48 0) 1 [some (.ref 4), some (.int x1), some (.int x2), none, none] [] σ Q := by
  unfold PC zini
  rw [zml_48]
  simp [zsl, Value.category]
theorem PW_c49 {x1 x2 : Value} (h : st.length ≤ 4) : PW sc mt (.invokevirtual 49 :: is) nb L (x2 :: x1 :: .ref 5 :: st) σ Q ↔ PC sc 49 [.ref 5, x1, x2] σ (fun r σ' => PW sc mt is nb L (r.toList ++ st) σ' Q) := PW_cv2 (by decide +kernel) (by decide +kernel) (by decide +kernel) h
theorem zml_49 : zml 49 = 4 := by decide +kernel
theorem zret_49 : zret 49 = none := by decide +kernel
theorem PC_49 {x1 : Nat} {x2 : Int32} : PC sc 49 [.ref 5, .ref x1, .int x2] σ Q ↔ PW sc 49 (zblk 49 0) 1 [some (.ref 5), some (.ref x1), some (.int x2), none] [] σ Q := by
  unfold PC zini
  rw [zml_49]
  simp [zsl, Value.category]
theorem PW_c50 {x1 x2 x3 : Value} (h : st.length ≤ 4) : PW sc mt (.invokevirtual 50 :: is) nb L (x3 :: x2 :: x1 :: .ref 5 :: st) σ Q ↔ PC sc 50 [.ref 5, x1, x2, x3] σ (fun r σ' => PW sc mt is nb L (r.toList ++ st) σ' Q) := PW_cv3 (by decide +kernel) (by decide +kernel) (by decide +kernel) h
theorem zml_50 : zml 50 = 7 := by decide +kernel
theorem zret_50 : zret 50 = some .boolean := by decide +kernel
theorem PC_50 {x1 : Nat} {x2 : Int32} {x3 : Int32} : PC sc 50 [.ref 5, .ref x1, .int x2, .int x3] σ Q ↔ PW sc 50 (zblk 50 0) 1 [some (.ref 5), some (.ref x1), some (.int x2), some (.int x3), none, none, none] [] σ Q := by
  unfold PC zini
  rw [zml_50]
  simp [zsl, Value.category]
theorem PW_c51 {x1 x2 : Value} (h : st.length ≤ 4) : PW sc mt (.invokevirtual 51 :: is) nb L (x2 :: x1 :: .ref 5 :: st) σ Q ↔ PC sc 51 [.ref 5, x1, x2] σ (fun r σ' => PW sc mt is nb L (r.toList ++ st) σ' Q) := PW_cv2 (by decide +kernel) (by decide +kernel) (by decide +kernel) h
theorem zml_51 : zml 51 = 5 := by decide +kernel
theorem zret_51 : zret 51 = none := by decide +kernel
theorem PC_51 {x1 : Int32} {x2 : Int32} : PC sc 51 [.ref 5, .int x1, .int x2] σ Q ↔ PW sc 51 (zblk 51 0) 1 [some (.ref 5), some (.int x1), some (.int x2), none, none] [] σ Q := by
  unfold PC zini
  rw [zml_51]
  simp [zsl, Value.category]
theorem PW_c52 {x1 : Value} (h : st.length ≤ 4) : PW sc mt (.invokevirtual 52 :: is) nb L (x1 :: .ref 5 :: st) σ Q ↔ PC sc 52 [.ref 5, x1] σ (fun r σ' => PW sc mt is nb L (r.toList ++ st) σ' Q) := PW_cv1 (by decide +kernel) (by decide +kernel) (by decide +kernel) h
theorem zml_52 : zml 52 = 6 := by decide +kernel
theorem zret_52 : zret 52 = some .int := by decide +kernel
theorem PC_52 {x1 : Int32} : PC sc 52 [.ref 5, .int x1] σ Q ↔ PW sc 52 (zblk 52 0) 1 [some (.ref 5), some (.int x1), none, none, none, none] [] σ Q := by
  unfold PC zini
  rw [zml_52]
  simp [zsl, Value.category]
theorem PW_c53 {x1 x2 : Value} (h : st.length ≤ 4) : PW sc mt (.invokestatic 53 :: is) nb L (x2 :: x1 :: st) σ Q ↔ PC sc 53 [x1, x2] σ (fun r σ' => PW sc mt is nb L (r.toList ++ st) σ' Q) := PW_cs2 (by decide +kernel) (by decide +kernel) h
theorem zml_53 : zml 53 = 2 := by decide +kernel
theorem zret_53 : zret 53 = some .int := by decide +kernel
theorem PC_53 {x1 : Int32} {x2 : Int32} : PC sc 53 [.int x1, .int x2] σ Q ↔ PW sc 53 (zblk 53 0) 1 [some (.int x1), some (.int x2)] [] σ Q := by
  unfold PC zini
  rw [zml_53]
  simp [zsl, Value.category]
theorem PW_c54 {x1 : Value} (h : st.length ≤ 4) : PW sc mt (.invokevirtual 54 :: is) nb L (x1 :: .ref 5 :: st) σ Q ↔ PC sc 54 [.ref 5, x1] σ (fun r σ' => PW sc mt is nb L (r.toList ++ st) σ' Q) := PW_cv1 (by decide +kernel) (by decide +kernel) (by decide +kernel) h
theorem zml_54 : zml 54 = 4 := by decide +kernel
theorem zret_54 : zret 54 = some .int := by decide +kernel
theorem PC_54 {x1 : Int32} : PC sc 54 [.ref 5, .int x1] σ Q ↔ PW sc 54 (zblk 54 0) 1 [some (.ref 5), some (.int x1), none, none] [] σ Q := by
  unfold PC zini
  rw [zml_54]
  simp [zsl, Value.category]
theorem PW_c55 {x1 : Value} (h : st.length ≤ 4) : PW sc mt (.invokevirtual 55 :: is) nb L (x1 :: .ref 5 :: st) σ Q ↔ PC sc 55 [.ref 5, x1] σ (fun r σ' => PW sc mt is nb L (r.toList ++ st) σ' Q) := PW_cv1 (by decide +kernel) (by decide +kernel) (by decide +kernel) h
theorem zml_55 : zml 55 = 4 := by decide +kernel
theorem zret_55 : zret 55 = some .int := by decide +kernel
theorem PC_55 {x1 : Int32} : PC sc 55 [.ref 5, .int x1] σ Q ↔ PW sc 55 (zblk 55 0) 1 [some (.ref 5), some (.int x1), none, none] [] σ Q := by
  unfold PC zini
  rw [zml_55]
  simp [zsl, Value.category]
theorem PW_c56 {x1 x2 x3 : Value} (h : st.length ≤ 4) : PW sc mt (.invokevirtual 56 :: is) nb L (x3 :: x2 :: x1 :: .ref 6 :: st) σ Q ↔ PC sc 56 [.ref 6, x1, x2, x3] σ (fun r σ' => PW sc mt is nb L (r.toList ++ st) σ' Q) := PW_cv3 (by decide +kernel) (by decide +kernel) (by decide +kernel) h
theorem zml_56 : zml 56 = 4 := by decide +kernel
theorem zret_56 : zret 56 = none := by decide +kernel
theorem PC_56 {x1 : Nat} {x2 : Int32} {x3 : Int32} : PC sc 56 [.ref 6, .ref x1, .int x2, .int x3] σ Q ↔ PW sc 56 (zblk 56 0) 1 [some (.ref 6), some (.ref x1), some (.int x2), some (.int x3)] [] σ Q := by
  unfold PC zini
  rw [zml_56]
  simp [zsl, Value.category]
theorem PW_c57 {x1 x2 x3 x4 x5 : Value} (h : st.length ≤ 4) : PW sc mt (.invokevirtual 57 :: is) nb L (x5 :: x4 :: x3 :: x2 :: x1 :: .ref 6 :: st) σ Q ↔ PC sc 57 [.ref 6, x1, x2, x3, x4, x5] σ (fun r σ' => PW sc mt is nb L (r.toList ++ st) σ' Q) := PW_cv5 (by decide +kernel) (by decide +kernel) (by decide +kernel) h
theorem zml_57 : zml 57 = 8 := by decide +kernel
theorem zret_57 : zret 57 = none := by decide +kernel
theorem PC_57 {x1 : Nat} {x2 : Int32} {x3 : Int32} {x4 : Nat} {x5 : Int32} : PC sc 57 [.ref 6, .ref x1, .int x2, .int x3, .ref x4, .int x5] σ Q ↔ PW sc 57 (zblk 57 0) 1 [some (.ref 6), some (.ref x1), some (.int x2), some (.int x3), some (.ref x4), some (.int x5), none, none] [] σ Q := by
  unfold PC zini
  rw [zml_57]
  simp [zsl, Value.category]
theorem PW_c58 {x1 x2 : Value} (h : st.length ≤ 4) : PW sc mt (.invokestatic 58 :: is) nb L (x2 :: x1 :: st) σ Q ↔ PC sc 58 [x1, x2] σ (fun r σ' => PW sc mt is nb L (r.toList ++ st) σ' Q) := PW_cs2 (by decide +kernel) (by decide +kernel) h
theorem zml_58 : zml 58 = 2 := by decide +kernel
theorem zret_58 : zret 58 = some .int := by decide +kernel
theorem PC_58 {x1 : Nat} {x2 : Int32} : PC sc 58 [.ref x1, .int x2] σ Q ↔ PW sc 58 (zblk 58 0) 1 [some (.ref x1), some (.int x2)] [] σ Q := by
  unfold PC zini
  rw [zml_58]
  simp [zsl, Value.category]
theorem PW_c59 {x1 x2 : Value} (h : st.length ≤ 4) : PW sc mt (.invokevirtual 59 :: is) nb L (x2 :: x1 :: .ref 6 :: st) σ Q ↔ PC sc 59 [.ref 6, x1, x2] σ (fun r σ' => PW sc mt is nb L (r.toList ++ st) σ' Q) := PW_cv2 (by decide +kernel) (by decide +kernel) (by decide +kernel) h
theorem zml_59 : zml 59 = 5 := by decide +kernel
theorem zret_59 : zret 59 = some .boolean := by decide +kernel
theorem PC_59 {x1 : Nat} {x2 : Int32} : PC sc 59 [.ref 6, .ref x1, .int x2] σ Q ↔ PW sc 59 (zblk 59 0) 1 [some (.ref 6), some (.ref x1), some (.int x2), none, none] [] σ Q := by
  unfold PC zini
  rw [zml_59]
  simp [zsl, Value.category]
theorem PW_c60 {x1 x2 x3 : Value} (h : st.length ≤ 4) : PW sc mt (.invokevirtual 60 :: is) nb L (x3 :: x2 :: x1 :: .ref 6 :: st) σ Q ↔ PC sc 60 [.ref 6, x1, x2, x3] σ (fun r σ' => PW sc mt is nb L (r.toList ++ st) σ' Q) := PW_cv3 (by decide +kernel) (by decide +kernel) (by decide +kernel) h
theorem zml_60 : zml 60 = 7 := by decide +kernel
theorem zret_60 : zret 60 = some .boolean := by decide +kernel
theorem PC_60 {x1 : Nat} {x2 : Int32} {x3 : Int32} : PC sc 60 [.ref 6, .ref x1, .int x2, .int x3] σ Q ↔ PW sc 60 (zblk 60 0) 1 [some (.ref 6), some (.ref x1), some (.int x2), some (.int x3), none, none, none] [] σ Q := by
  unfold PC zini
  rw [zml_60]
  simp [zsl, Value.category]
theorem PW_c61 {x1 : Value} (h : st.length ≤ 4) : PW sc mt (.invokevirtual 61 :: is) nb L (x1 :: .ref 7 :: st) σ Q ↔ PC sc 61 [.ref 7, x1] σ (fun r σ' => PW sc mt is nb L (r.toList ++ st) σ' Q) := PW_cv1 (by decide +kernel) (by decide +kernel) (by decide +kernel) h
theorem zml_61 : zml 61 = 2 := by decide +kernel
theorem zret_61 : zret 61 = some .boolean := by decide +kernel
theorem PC_61 {x1 : Int32} : PC sc 61 [.ref 7, .int x1] σ Q ↔ PW sc 61 (zblk 61 0) 1 [some (.ref 7), some (.int x1)] [] σ Q := by
  unfold PC zini
  rw [zml_61]
  simp [zsl, Value.category]
theorem PW_c62 {x1 : Value} (h : st.length ≤ 4) : PW sc mt (.invokevirtual 62 :: is) nb L (x1 :: .ref 7 :: st) σ Q ↔ PC sc 62 [.ref 7, x1] σ (fun r σ' => PW sc mt is nb L (r.toList ++ st) σ' Q) := PW_cv1 (by decide +kernel) (by decide +kernel) (by decide +kernel) h
theorem zml_62 : zml 62 = 2 := by decide +kernel
theorem zret_62 : zret 62 = some .int := by decide +kernel
theorem PC_62 {x1 : Int32} : PC sc 62 [.ref 7, .int x1] σ Q ↔ PW sc 62 (zblk 62 0) 1 [some (.ref 7), some (.int x1)] [] σ Q := by
  unfold PC zini
  rw [zml_62]
  simp [zsl, Value.category]
theorem PW_c63 {x1 : Value} (h : st.length ≤ 4) : PW sc mt (.invokevirtual 63 :: is) nb L (x1 :: .ref 7 :: st) σ Q ↔ PC sc 63 [.ref 7, x1] σ (fun r σ' => PW sc mt is nb L (r.toList ++ st) σ' Q) := PW_cv1 (by decide +kernel) (by decide +kernel) (by decide +kernel) h
theorem zml_63 : zml 63 = 2 := by decide +kernel
theorem zret_63 : zret 63 = some .int := by decide +kernel
theorem PC_63 {x1 : Int32} : PC sc 63 [.ref 7, .int x1] σ Q ↔ PW sc 63 (zblk 63 0) 1 [some (.ref 7), some (.int x1)] [] σ Q := by
  unfold PC zini
  rw [zml_63]
  simp [zsl, Value.category]
theorem PW_c64 {x1 x2 x3 : Value} (h : st.length ≤ 4) : PW sc mt (.invokevirtual 64 :: is) nb L (x3 :: x2 :: x1 :: .ref 7 :: st) σ Q ↔ PC sc 64 [.ref 7, x1, x2, x3] σ (fun r σ' => PW sc mt is nb L (r.toList ++ st) σ' Q) := PW_cv3 (by decide +kernel) (by decide +kernel) (by decide +kernel) h
theorem zml_64 : zml 64 = 4 := by decide +kernel
theorem zret_64 : zret 64 = some .boolean := by decide +kernel
theorem PC_64 {x1 : Int32} {x2 : Int32} {x3 : Int32} : PC sc 64 [.ref 7, .int x1, .int x2, .int x3] σ Q ↔ PW sc 64 (zblk 64 0) 1 [some (.ref 7), some (.int x1), some (.int x2), some (.int x3)] [] σ Q := by
  unfold PC zini
  rw [zml_64]
  simp [zsl, Value.category]
theorem PW_c65 {x1 : Value} (h : st.length ≤ 4) : PW sc mt (.invokevirtual 65 :: is) nb L (x1 :: .ref 8 :: st) σ Q ↔ PC sc 65 [.ref 8, x1] σ (fun r σ' => PW sc mt is nb L (r.toList ++ st) σ' Q) := PW_cv1 (by decide +kernel) (by decide +kernel) (by decide +kernel) h
theorem zml_65 : zml 65 = 2 := by decide +kernel
theorem zret_65 : zret 65 = some .boolean := by decide +kernel
theorem PC_65 {x1 : Int32} : PC sc 65 [.ref 8, .int x1] σ Q ↔ PW sc 65 (zblk 65 0) 1 [some (.ref 8), some (.int x1)] [] σ Q := by
  unfold PC zini
  rw [zml_65]
  simp [zsl, Value.category]
theorem PW_c66 {x1 x2 x3 : Value} (h : st.length ≤ 4) : PW sc mt (.invokevirtual 66 :: is) nb L (x3 :: x2 :: x1 :: .ref 8 :: st) σ Q ↔ PC sc 66 [.ref 8, x1, x2, x3] σ (fun r σ' => PW sc mt is nb L (r.toList ++ st) σ' Q) := PW_cv3 (by decide +kernel) (by decide +kernel) (by decide +kernel) h
theorem zml_66 : zml 66 = 4 := by decide +kernel
theorem zret_66 : zret 66 = none := by decide +kernel
theorem PC_66 {x1 : Int32} {x2 : Int32} {x3 : Int32} : PC sc 66 [.ref 8, .int x1, .int x2, .int x3] σ Q ↔ PW sc 66 (zblk 66 0) 1 [some (.ref 8), some (.int x1), some (.int x2), some (.int x3)] [] σ Q := by
  unfold PC zini
  rw [zml_66]
  simp [zsl, Value.category]
theorem PW_c67 {x1 x2 : Value} (h : st.length ≤ 4) : PW sc mt (.invokestatic 67 :: is) nb L (x2 :: x1 :: st) σ Q ↔ PC sc 67 [x1, x2] σ (fun r σ' => PW sc mt is nb L (r.toList ++ st) σ' Q) := PW_cs2 (by decide +kernel) (by decide +kernel) h
theorem zml_67 : zml 67 = 2 := by decide +kernel
theorem zret_67 : zret 67 = some .int := by decide +kernel
theorem PC_67 {x1 : Int32} {x2 : Int32} : PC sc 67 [.int x1, .int x2] σ Q ↔ PW sc 67 (zblk 67 0) 1 [some (.int x1), some (.int x2)] [] σ Q := by
  unfold PC zini
  rw [zml_67]
  simp [zsl, Value.category]
theorem PW_c68 {x1 x2 x3 : Value} (h : st.length ≤ 4) : PW sc mt (.invokevirtual 68 :: is) nb L (x3 :: x2 :: x1 :: .ref 8 :: st) σ Q ↔ PC sc 68 [.ref 8, x1, x2, x3] σ (fun r σ' => PW sc mt is nb L (r.toList ++ st) σ' Q) := PW_cv3 (by decide +kernel) (by decide +kernel) (by decide +kernel) h
theorem zml_68 : zml 68 = 4 := by decide +kernel
theorem zret_68 : zret 68 = some .int := by decide +kernel
theorem PC_68 {x1 : Int32} {x2 : Int32} {x3 : Int32} : PC sc 68 [.ref 8, .int x1, .int x2, .int x3] σ Q ↔ PW sc 68 (zblk 68 0) 1 [some (.ref 8), some (.int x1), some (.int x2), some (.int x3)] [] σ Q := by
  unfold PC zini
  rw [zml_68]
  simp [zsl, Value.category]
theorem PW_c69 {x1 x2 x3 x4 : Value} (h : st.length ≤ 4) : PW sc mt (.invokevirtual 69 :: is) nb L (x4 :: x3 :: x2 :: x1 :: .ref 8 :: st) σ Q ↔ PC sc 69 [.ref 8, x1, x2, x3, x4] σ (fun r σ' => PW sc mt is nb L (r.toList ++ st) σ' Q) := PW_cv4 (by decide +kernel) (by decide +kernel) (by decide +kernel) h
theorem zml_69 : zml 69 = 6 := by decide +kernel
theorem zret_69 : zret 69 = some .int := by decide +kernel
theorem PC_69 {x1 : Int32} {x2 : Int32} {x3 : Int32} {x4 : Int32} : PC sc 69 [.ref 8, .int x1, .int x2, .int x3, .int x4] σ Q ↔ PW sc 69 (zblk 69 0) 1 [some (.ref 8), some (.int x1), some (.int x2), some (.int x3), some (.int x4), none] [] σ Q := by
  unfold PC zini
  rw [zml_69]
  simp [zsl, Value.category]
theorem PW_c70 {x1 x2 x3 : Value} (h : st.length ≤ 4) : PW sc mt (.invokevirtual 70 :: is) nb L (x3 :: x2 :: x1 :: .ref 8 :: st) σ Q ↔ PC sc 70 [.ref 8, x1, x2, x3] σ (fun r σ' => PW sc mt is nb L (r.toList ++ st) σ' Q) := PW_cv3 (by decide +kernel) (by decide +kernel) (by decide +kernel) h
theorem zml_70 : zml 70 = 5 := by decide +kernel
theorem zret_70 : zret 70 = some .boolean := by decide +kernel
theorem PC_70 {x1 : Int32} {x2 : Int32} {x3 : Int32} : PC sc 70 [.ref 8, .int x1, .int x2, .int x3] σ Q ↔ PW sc 70 (zblk 70 0) 1 [some (.ref 8), some (.int x1), some (.int x2), some (.int x3), none] [] σ Q := by
  unfold PC zini
  rw [zml_70]
  simp [zsl, Value.category]
theorem PW_c71 {x1 x2 x3 x4 : Value} (h : st.length ≤ 4) : PW sc mt (.invokevirtual 71 :: is) nb L (x4 :: x3 :: x2 :: x1 :: .ref 8 :: st) σ Q ↔ PC sc 71 [.ref 8, x1, x2, x3, x4] σ (fun r σ' => PW sc mt is nb L (r.toList ++ st) σ' Q) := PW_cv4 (by decide +kernel) (by decide +kernel) (by decide +kernel) h
theorem zml_71 : zml 71 = 10 := by decide +kernel
theorem zret_71 : zret 71 = some .int := by decide +kernel
theorem PC_71 {x1 : Int32} {x2 : Int32} {x3 : Int32} {x4 : Int32} : PC sc 71 [.ref 8, .int x1, .int x2, .int x3, .int x4] σ Q ↔ PW sc 71 (zblk 71 0) 1 [some (.ref 8), some (.int x1), some (.int x2), some (.int x3), some (.int x4), none, none, none, none, none] [] σ Q := by
  unfold PC zini
  rw [zml_71]
  simp [zsl, Value.category]
theorem PW_c72 {x1 : Value} (h : st.length ≤ 4) : PW sc mt (.invokevirtual 72 :: is) nb L (x1 :: .ref 9 :: st) σ Q ↔ PC sc 72 [.ref 9, x1] σ (fun r σ' => PW sc mt is nb L (r.toList ++ st) σ' Q) := PW_cv1 (by decide +kernel) (by decide +kernel) (by decide +kernel) h
theorem zml_72 : zml 72 = 2 := by decide +kernel
theorem zret_72 : zret 72 = some .boolean := by decide +kernel
theorem PC_72 {x1 : Int32} : PC sc 72 [.ref 9, .int x1] σ Q ↔ PW sc 72 (zblk 72 0) 1 [some (.ref 9), some (.int x1)] [] σ Q := by
  unfold PC zini
  rw [zml_72]
  simp [zsl, Value.category]
theorem PW_c73 {x1 x2 x3 : Value} (h : st.length ≤ 4) : PW sc mt (.invokevirtual 73 :: is) nb L (x3 :: x2 :: x1 :: .ref 9 :: st) σ Q ↔ PC sc 73 [.ref 9, x1, x2, x3] σ (fun r σ' => PW sc mt is nb L (r.toList ++ st) σ' Q) := PW_cv3 (by decide +kernel) (by decide +kernel) (by decide +kernel) h
theorem zml_73 : zml 73 = 4 := by decide +kernel
theorem zret_73 : zret 73 = some .int := by decide +kernel
theorem PC_73 {x1 : Int32} {x2 : Int32} {x3 : Int32} : PC sc 73 [.ref 9, .int x1, .int x2, .int x3] σ Q ↔ PW sc 73 (zblk 73 0) 1 [some (.ref 9), some (.int x1), some (.int x2), some (.int x3)] [] σ Q := by
  unfold PC zini
  rw [zml_73]
  simp [zsl, Value.category]
theorem PW_c74 {x1 x2 x3 : Value} (h : st.length ≤ 4) : PW sc mt (.invokevirtual 74 :: is) nb L (x3 :: x2 :: x1 :: .ref 9 :: st) σ Q ↔ PC sc 74 [.ref 9, x1, x2, x3] σ (fun r σ' => PW sc mt is nb L (r.toList ++ st) σ' Q) := PW_cv3 (by decide +kernel) (by decide +kernel) (by decide +kernel) h
theorem zml_74 : zml 74 = 6 := by decide +kernel
theorem zret_74 : zret 74 = some .int := by decide +kernel
theorem PC_74 {x1 : Int32} {x2 : Int32} {x3 : Int32} : PC sc 74 [.ref 9, .int x1, .int x2, .int x3] σ Q ↔ PW sc 74 (zblk 74 0) 1 [some (.ref 9), some (.int x1), some (.int x2), some (.int x3), none, none] [] σ Q := by
  unfold PC zini
  rw [zml_74]
  simp [zsl, Value.category]
theorem PW_c75 {x1 x2 : Value} (h : st.length ≤ 4) : PW sc mt (.invokevirtual 75 :: is) nb L (x2 :: x1 :: .ref 9 :: st) σ Q ↔ PC sc 75 [.ref 9, x1, x2] σ (fun r σ' => PW sc mt is nb L (r.toList ++ st) σ' Q) := PW_cv2 (by decide +kernel) (by decide +kernel) (by decide +kernel) h
theorem zml_75 : zml 75 = 5 := by decide +kernel
theorem zret_75 : zret 75 = none := by decide +kernel
theorem PC_75 {x1 : Int32} {x2 : Nat} : PC sc 75 [.ref 9, .int x1, .ref x2] σ Q ↔ PW sc 75 (zblk 75 0) 1 [some (.ref 9), some (.int x1), some (.ref x2), none, none] [] σ Q := by
  unfold PC zini
  rw [zml_75]
  simp [zsl, Value.category]
theorem PW_c76 {x1 : Value} (h : st.length ≤ 4) : PW sc mt (.invokevirtual 76 :: is) nb L (x1 :: .ref 9 :: st) σ Q ↔ PC sc 76 [.ref 9, x1] σ (fun r σ' => PW sc mt is nb L (r.toList ++ st) σ' Q) := PW_cv1 (by decide +kernel) (by decide +kernel) (by decide +kernel) h
theorem zml_76 : zml 76 = 4 := by decide +kernel
theorem zret_76 : zret 76 = none := by decide +kernel
theorem PC_76 {x1 : Int32} : PC sc 76 [.ref 9, .int x1] σ Q ↔ PW sc 76 (zblk 76 0) 1 [some (.ref 9), some (.int x1), none, none] [] σ Q := by
  unfold PC zini
  rw [zml_76]
  simp [zsl, Value.category]
theorem PW_c77 (h : st.length ≤ 4) : PW sc mt (.invokevirtual 77 :: is) nb L (.ref 9 :: st) σ Q ↔ PC sc 77 [.ref 9] σ (fun r σ' => PW sc mt is nb L (r.toList ++ st) σ' Q) := PW_cv0 (by decide +kernel) (by decide +kernel) (by decide +kernel) h
theorem zml_77 : zml 77 = 3 := by decide +kernel
theorem zret_77 : zret 77 = none := by decide +kernel
theorem PC_77  : PC sc 77 [.ref 9] σ Q ↔ PW sc 77 (zblk 77 0) 1 [some (.ref 9), none, none] [] σ Q := by
  unfold PC zini
  rw [zml_77]
  simp [zsl, Value.category]
theorem PW_c78 {x1 : Value} (h : st.length ≤ 4) : PW sc mt (.invokevirtual 78 :: is) nb L (x1 :: .ref 9 :: st) σ Q ↔ PC sc 78 [.ref 9, x1] σ (fun r σ' => PW sc mt is nb L (r.toList ++ st) σ' Q) := PW_cv1 (by decide +kernel) (by decide +kernel) (by decide +kernel) h
theorem zml_78 : zml 78 = 2 := by decide +kernel
theorem zret_78 : zret 78 = some .int := by decide +kernel
theorem PC_78 {x1 : Int32} : PC sc 78 [.ref 9, .int x1] σ Q ↔ PW sc 78 (zblk 78 0) 1 [some (.ref 9), some (.int x1)] [] σ Q := by
  unfold PC zini
  rw [zml_78]
  simp [zsl, Value.category]
theorem PW_c79 {x1 : Value} (h : st.length ≤ 4) : PW sc mt (.invokevirtual 79 :: is) nb L (x1 :: .ref 9 :: st) σ Q ↔ PC sc 79 [.ref 9, x1] σ (fun r σ' => PW sc mt is nb L (r.toList ++ st) σ' Q) := PW_cv1 (by decide +kernel) (by decide +kernel) (by decide +kernel) h
theorem zml_79 : zml 79 = 4 := by decide +kernel
theorem zret_79 : zret 79 = some .int := by decide +kernel
theorem PC_79 {x1 : Int32} : PC sc 79 [.ref 9, .int x1] σ Q ↔ PW sc 79 (zblk 79 0) 1 [some (.ref 9), some (.int x1), none, none] [] σ Q := by
  unfold PC zini
  rw [zml_79]
  simp [zsl, Value.category]
theorem PW_c80 {x1 : Value} (h : st.length ≤ 4) : PW sc mt (.invokevirtual 80 :: is) nb L (x1 :: .ref 9 :: st) σ Q ↔ PC sc 80 [.ref 9, x1] σ (fun r σ' => PW sc mt is nb L (r.toList ++ st) σ' Q) := PW_cv1 (by decide +kernel) (by decide +kernel) (by decide +kernel) h
theorem zml_80 : zml 80 = 4 := by decide +kernel
theorem zret_80 : zret 80 = some .int := by decide +kernel
theorem PC_80 {x1 : Nat} : PC sc 80 [.ref 9, .ref x1] σ Q ↔ PW sc 80 (zblk 80 0) 1 [some (.ref 9), some (.ref x1), none, none] [] σ Q := by
  unfold PC zini
  rw [zml_80]
  simp [zsl, Value.category]
theorem PW_c81 {x1 : Value} (h : st.length ≤ 4) : PW sc mt (.invokevirtual 81 :: is) nb L (x1 :: .ref 9 :: st) σ Q ↔ PC sc 81 [.ref 9, x1] σ (fun r σ' => PW sc mt is nb L (r.toList ++ st) σ' Q) := PW_cv1 (by decide +kernel) (by decide +kernel) (by decide +kernel) h
theorem zml_81 : zml 81 = 3 := by decide +kernel
theorem zret_81 : zret 81 = some .boolean := by decide +kernel
theorem PC_81 {x1 : Int32} : PC sc 81 [.ref 9, .int x1] σ Q ↔ PW sc 81 (zblk 81 0) 1 [some (.ref 9), some (.int x1), none] [] σ Q := by
  unfold PC zini
  rw [zml_81]
  simp [zsl, Value.category]
theorem PW_c82 {x1 : Value} (h : st.length ≤ 4) : PW sc mt (.invokevirtual 82 :: is) nb L (x1 :: .ref 10 :: st) σ Q ↔ PC sc 82 [.ref 10, x1] σ (fun r σ' => PW sc mt is nb L (r.toList ++ st) σ' Q) := PW_cv1 (by decide +kernel) (by decide +kernel) (by decide +kernel) h
theorem zml_82 : zml 82 = 2 := by decide +kernel
theorem zret_82 : zret 82 = some .boolean := by decide +kernel
theorem PC_82 {x1 : Int32} : PC sc 82 [.ref 10, .int x1] σ Q ↔ PW sc 82 (zblk 82 0) 1 [some (.ref 10), some (.int x1)] [] σ Q := by
  unfold PC zini
  rw [zml_82]
  simp [zsl, Value.category]
theorem PW_c83 {x1 x2 x3 : Value} (h : st.length ≤ 4) : PW sc mt (.invokevirtual 83 :: is) nb L (x3 :: x2 :: x1 :: .ref 10 :: st) σ Q ↔ PC sc 83 [.ref 10, x1, x2, x3] σ (fun r σ' => PW sc mt is nb L (r.toList ++ st) σ' Q) := PW_cv3 (by decide +kernel) (by decide +kernel) (by decide +kernel) h
theorem zml_83 : zml 83 = 4 := by decide +kernel
theorem zret_83 : zret 83 = some .int := by decide +kernel
theorem PC_83 {x1 : Int32} {x2 : Int32} {x3 : Int32} : PC sc 83 [.ref 10, .int x1, .int x2, .int x3] σ Q ↔ PW sc 83 (zblk 83 0) 1 [some (.ref 10), some (.int x1), some (.int x2), some (.int x3)] [] σ Q := by
  unfold PC zini
  rw [zml_83]
  simp [zsl, Value.category]
theorem PW_c84 {x1 x2 x3 : Value} (h : st.length ≤ 4) : PW sc mt (.invokevirtual 84 :: is) nb L (x3 :: x2 :: x1 :: .ref 11 :: st) σ Q ↔ PC sc 84 [.ref 11, x1, x2, x3] σ (fun r σ' => PW sc mt is nb L (r.toList ++ st) σ' Q) := PW_cv3 (by decide +kernel) (by decide +kernel) (by decide +kernel) h
theorem zml_84 : zml 84 = 4 := by decide +kernel
theorem zret_84 : zret 84 = some .int := by decide +kernel
theorem PC_84 {x1 : Int32} {x2 : Int32} {x3 : Int32} : PC sc 84 [.ref 11, .int x1, .int x2, .int x3] σ Q ↔ PW sc 84 (zblk 84 0) 1 [some (.ref 11), some (.int x1), some (.int x2), some (.int x3)] [] σ Q := by
  unfold PC zini
  rw [zml_84]
  simp [zsl, Value.category]
theorem PW_c85 {x1 : Value} (h : st.length ≤ 4) : PW sc mt (.invokevirtual 85 :: is) nb L (x1 :: .ref 11 :: st) σ Q ↔ PC sc 85 [.ref 11, x1] σ (fun r σ' => PW sc mt is nb L (r.toList ++ st) σ' Q) := PW_cv1 (by decide +kernel) (by decide +kernel) (by decide +kernel) h
theorem zml_85 : zml 85 = 2 := by decide +kernel
theorem zret_85 : zret 85 = some .int := by decide +kernel
theorem PC_85 {x1 : Int32} : PC sc 85 [.ref 11, .int x1] σ Q ↔ PW sc 85 (zblk 85 0) 1 [some (.ref 11), some (.int x1)] [] σ Q := by
  unfold PC zini
  rw [zml_85]
  simp [zsl, Value.category]
theorem PW_c86 {x1 x2 x3 : Value} (h : st.length ≤ 4) : PW sc mt (.invokevirtual 86 :: is) nb L (x3 :: x2 :: x1 :: .ref 11 :: st) σ Q ↔ PC sc 86 [.ref 11, x1, x2, x3] σ (fun r σ' => PW sc mt is nb L (r.toList ++ st) σ' Q) := PW_cv3 (by decide +kernel) (by decide +kernel) (by decide +kernel) h
theorem zml_86 : zml 86 = 5 := by decide +kernel
theorem zret_86 : zret 86 = some .int := by decide +kernel
theorem PC_86 {x1 : Int32} {x2 : Int32} {x3 : Int32} : PC sc 86 [.ref 11, .int x1, .int x2, .int x3] σ Q ↔ PW sc 86 (zblk 86 0) 1 [some (.ref 11), some (.int x1), some (.int x2), some (.int x3), none] [] σ Q := by
  unfold PC zini
  rw [zml_86]
  simp [zsl, Value.category]
theorem PW_c87 {x1 x2 x3 : Value} (h : st.length ≤ 4) : PW sc mt (.invokevirtual 87 :: is) nb L (x3 :: x2 :: x1 :: .ref 11 :: st) σ Q ↔ PC sc 87 [.ref 11, x1, x2, x3] σ (fun r σ' => PW sc mt is nb L (r.toList ++ st) σ' Q) := PW_cv3 (by decide +kernel) (by decide +kernel) (by decide +kernel) h
theorem zml_87 : zml 87 = 5 := by decide +kernel
theorem zret_87 : zret 87 = some .int := by decide +kernel
theorem PC_87 {x1 : Int32} {x2 : Int32} {x3 : Int32} : PC sc 87 [.ref 11, .int x1, .int x2, .int x3] σ Q ↔ PW sc 87 (zblk 87 0) 1 [some (.ref 11), some (.int x1), some (.int x2), some (.int x3), none] [] σ Q := by
  unfold PC zini
  rw [zml_87]
  simp [zsl, Value.category]
theorem PW_c88 {x1 x2 : Value} (h : st.length ≤ 4) : PW sc mt (.invokevirtual 88 :: is) nb L (x2 :: x1 :: .ref 11 :: st) σ Q ↔ PC sc 88 [.ref 11, x1, x2] σ (fun r σ' => PW sc mt is nb L (r.toList ++ st) σ' Q) := PW_cv2 (by decide +kernel) (by decide +kernel) (by decide +kernel) h
theorem zml_88 : zml 88 = 3 := by decide +kernel
theorem zret_88 : zret 88 = some .int := by decide +kernel
theorem PC_88 {x1 : Int32} {x2 : Int32} : PC sc 88 [.ref 11, .int x1, .int x2] σ Q ↔ PW sc 88 (zblk 88 0) 1 [some (.ref 11), some (.int x1), some (.int x2)] [] σ Q := by
  unfold PC zini
  rw [zml_88]
  simp [zsl, Value.category]
theorem PW_c89 {x1 x2 : Value} (h : st.length ≤ 4) : PW sc mt (.invokevirtual 89 :: is) nb L (x2 :: x1 :: .ref 11 :: st) σ Q ↔ PC sc 89 [.ref 11, x1, x2] σ (fun r σ' => PW sc mt is nb L (r.toList ++ st) σ' Q) := PW_cv2 (by decide +kernel) (by decide +kernel) (by decide +kernel) h
theorem zml_89 : zml 89 = 3 := by decide +kernel
theorem zret_89 : zret 89 = some .int := by decide +kernel
theorem PC_89 {x1 : Int32} {x2 : Int32} : PC sc 89 [.ref 11, .int x1, .int x2] σ Q ↔ PW sc 89 (zblk 89 0) 1 [some (.ref 11), some (.int x1), some (.int x2)] [] σ Q := by
  unfold PC zini
  rw [zml_89]
  simp [zsl, Value.category]
theorem PW_c90 {x1 x2 : Value} (h : st.length ≤ 4) : PW sc mt (.invokevirtual 90 :: is) nb L (x2 :: x1 :: .ref 11 :: st) σ Q ↔ PC sc 90 [.ref 11, x1, x2] σ (fun r σ' => PW sc mt is nb L (r.toList ++ st) σ' Q) := PW_cv2 (by decide +kernel) (by decide +kernel) (by decide +kernel) h
theorem zml_90 : zml 90 = 3 := by decide +kernel
theorem zret_90 : zret 90 = some .int := by decide +kernel
theorem PC_90 {x1 : Int32} {x2 : Int32} : PC sc 90 [.ref 11, .int x1, .int x2] σ Q ↔ PW sc 90 (zblk 90 0) 1 [some (.ref 11), some (.int x1), some (.int x2)] [] σ Q := by
  unfold PC zini
  rw [zml_90]
  simp [zsl, Value.category]
theorem PW_c91 (h : st.length ≤ 4) : PW sc mt (.invokevirtual 91 :: is) nb L (.ref 11 :: st) σ Q ↔ PC sc 91 [.ref 11] σ (fun r σ' => PW sc mt is nb L (r.toList ++ st) σ' Q) := PW_cv0 (by decide +kernel) (by decide +kernel) (by decide +kernel) h
theorem zml_91 : zml 91 = 1 := by decide +kernel
theorem zret_91 : zret 91 = some .int := by decide +kernel
theorem PC_91  : PC sc 91 [.ref 11] σ Q ↔ PW sc 91 (zblk 91 0) 1 [some (.ref 11)] [] σ Q := by
  unfold PC zini
  rw [zml_91]
  simp [zsl, Value.category]
theorem PW_c92 {x1 x2 : Value} (h : st.length ≤ 4) : PW sc mt (.invokevirtual 92 :: is) nb L (x2 :: x1 :: .ref 11 :: st) σ Q ↔ PC sc 92 [.ref 11, x1, x2] σ (fun r σ' => PW sc mt is nb L (r.toList ++ st) σ' Q) := PW_cv2 (by decide +kernel) (by decide +kernel) (by decide +kernel) h
theorem zml_92 : zml 92 = 4 := by decide +kernel
theorem zret_92 : zret 92 = some .int := by decide +kernel
theorem PC_92 {x1 : Int32} {x2 : Int32} : PC sc 92 [.ref 11, .int x1, .int x2] σ Q ↔ PW sc 92 (zblk 92 0) 1 [some (.ref 11), some (.int x1), some (.int x2), none] [] σ Q := by
  unfold PC zini
  rw [zml_92]
  simp [zsl, Value.category]
theorem PW_c93 {x1 x2 x3 : Value} (h : st.length ≤ 4) : PW sc mt (.invokevirtual 93 :: is) nb L (x3 :: x2 :: x1 :: .ref 11 :: st) σ Q ↔ PC sc 93 [.ref 11, x1, x2, x3] σ (fun r σ' => PW sc mt is nb L (r.toList ++ st) σ' Q) := PW_cv3 (by decide +kernel) (by decide +kernel) (by decide +kernel) h
theorem zml_93 : zml 93 = 5 := by decide +kernel
theorem zret_93 : zret 93 = some .int := by decide +kernel
theorem PC_93 {x1 : Int32} {x2 : Int32} {x3 : Int32} : PC sc 93 [.ref 11, .int x1, .int x2, .int x3] σ Q ↔ PW sc 93 (zblk 93 0) 1 [some (.ref 11), some (.int x1), some (.int x2), some (.int x3), none] [] σ Q := by
  unfold PC zini
  rw [zml_93]
  simp [zsl, Value.category]
theorem PW_c94 {x1 x2 x3 x4 : Value} (h : st.length ≤ 4) : PW sc mt (.invokevirtual 94 :: is) nb L (x4 :: x3 :: x2 :: x1 :: .ref 11 :: st) σ Q ↔ PC sc 94 [.ref 11, x1, x2, x3, x4] σ (fun r σ' => PW sc mt is nb L (r.toList ++ st) σ' Q) := PW_cv4 (by decide +kernel) (by decide +kernel) (by decide +kernel) h
theorem zml_94 : zml 94 = 6 := by decide +kernel
theorem zret_94 : zret 94 = some .int := by decide +kernel
theorem PC_94 {x1 : Int32} {x2 : Int32} {x3 : Int32} {x4 : Int32} : PC sc 94 [.ref 11, .int x1, .int x2, .int x3, .int x4] σ Q ↔ PW sc 94 (zblk 94 0) 1 [some (.ref 11), some (.int x1), some (.int x2), some (.int x3), some (.int x4), none] [] σ Q := by
  unfold PC zini
  rw [zml_94]
  simp [zsl, Value.category]
theorem PW_c95 {x1 x2 x3 x4 : Value} (h : st.length ≤ 4) : PW sc mt (.invokevirtual 95 :: is) nb L (x4 :: x3 :: x2 :: x1 :: .ref 11 :: st) σ Q ↔ PC sc 95 [.ref 11, x1, x2, x3, x4] σ (fun r σ' => PW sc mt is nb L (r.toList ++ st) σ' Q) := PW_cv4 (by decide +kernel) (by decide +kernel) (by decide +kernel) h
theorem zml_95 : zml 95 = 6 := by decide +kernel
theorem zret_95 : zret 95 = some .int := by decide +kernel
theorem PC_95 {x1 : Int32} {x2 : Int32} {x3 : Int32} {x4 : Int32} : PC sc 95 [.ref 11, .int x1, .int x2, .int x3, .int x4] σ Q ↔ PW sc 95 (zblk 95 0) 1 [some (.ref 11), some (.int x1), some (.int x2), some (.int x3), some (.int x4), none] [] σ Q := by
  unfold PC zini
  rw [zml_95]
  simp [zsl, Value.category]
theorem PW_c96 {x1 x2 : Value} (h : st.length ≤ 4) : PW sc mt (.invokevirtual 96 :: is) nb L (x2 :: x1 :: .ref 11 :: st) σ Q ↔ PC sc 96 [.ref 11, x1, x2] σ (fun r σ' => PW sc mt is nb L (r.toList ++ st) σ' Q) := PW_cv2 (by decide +kernel) (by decide +kernel) (by decide +kernel) h
theorem zml_96 : zml 96 = 4 := by decide +kernel
theorem zret_96 : zret 96 = some .int := by decide +kernel
theorem PC_96 {x1 : Int32} {x2 : Int32} : PC sc 96 [.ref 11, .int x1, .int x2] σ Q ↔ PW sc 96 (zblk 96 0) 1 [some (.ref 11), some (.int x1), some (.int x2), none] [] σ Q := by
  unfold PC zini
  rw [zml_96]
  simp [zsl, Value.category]
theorem PW_c97 {x1 x2 : Value} (h : st.length ≤ 4) : PW sc mt (.invokevirtual 97 :: is) nb L (x2 :: x1 :: .ref 11 :: st) σ Q ↔ PC sc 97 [.ref 11, x1, x2] σ (fun r σ' => PW sc mt is nb L (r.toList ++ st) σ' Q) := PW_cv2 (by decide +kernel) (by decide +kernel) (by decide +kernel) h
theorem zml_97 : zml 97 = 3 := by decide +kernel
theorem zret_97 : zret 97 = some .int := by decide +kernel
theorem PC_97 {x1 : Int32} {x2 : Int32} : PC sc 97 [.ref 11, .int x1, .int x2] σ Q ↔ PW sc 97 (zblk 97 0) 1 [some (.ref 11), some (.int x1), some (.int x2)] [] σ Q := by
  unfold PC zini
  rw [zml_97]
  simp [zsl, Value.category]
theorem PW_c98 {x1 x2 : Value} (h : st.length ≤ 4) : PW sc mt (.invokevirtual 98 :: is) nb L (x2 :: x1 :: .ref 11 :: st) σ Q ↔ PC sc 98 [.ref 11, x1, x2] σ (fun r σ' => PW sc mt is nb L (r.toList ++ st) σ' Q) := PW_cv2 (by decide +kernel) (by decide +kernel) (by decide +kernel) h
theorem zml_98 : zml 98 = 3 := by decide +kernel
theorem zret_98 : zret 98 = some .int := by decide +kernel
theorem PC_98 {x1 : Int32} {x2 : Int32} : PC sc 98 [.ref 11, .int x1, .int x2] σ Q ↔ PW sc 98 (zblk 98 0) 1 [some (.ref 11), some (.int x1), some (.int x2)] [] σ Q := by
  unfold PC zini
  rw [zml_98]
  simp [zsl, Value.category]
theorem PW_c99 {x1 x2 x3 : Value} (h : st.length ≤ 4) : PW sc mt (.invokevirtual 99 :: is) nb L (x3 :: x2 :: x1 :: .ref 11 :: st) σ Q ↔ PC sc 99 [.ref 11, x1, x2, x3] σ (fun r σ' => PW sc mt is nb L (r.toList ++ st) σ' Q) := PW_cv3 (by decide +kernel) (by decide +kernel) (by decide +kernel) h
theorem zml_99 : zml 99 = 4 := by decide +kernel
theorem zret_99 : zret 99 = some .int := by decide +kernel
theorem PC_99 {x1 : Int32} {x2 : Int32} {x3 : Int32} : PC sc 99 [.ref 11, .int x1, .int x2, .int x3] σ Q ↔ PW sc 99 (zblk 99 0) 1 [some (.ref 11), some (.int x1), some (.int x2), some (.int x3)] [] σ Q := by
  unfold PC zini
  rw [zml_99]
  simp [zsl, Value.category]
theorem PW_c100 {x1 x2 x3 : Value} (h : st.length ≤ 4) : PW sc mt (.invokevirtual 100 :: is) nb L (x3 :: x2 :: x1 :: .ref 11 :: st) σ Q ↔ PC sc 100 [.ref 11, x1, x2, x3] σ (fun r σ' => PW sc mt is nb L (r.toList ++ st) σ' Q) := PW_cv3 (by decide +kernel) (by decide +kernel) (by decide +kernel) h
theorem zml_100 : zml 100 = 4 := by decide +kernel
theorem zret_100 : zret 100 = some .int := by decide +kernel
theorem PC_100 {x1 : Int32} {x2 : Int32} {x3 : Int32} : PC sc 100 [.ref 11, .int x1, .int x2, .int x3] σ Q ↔ PW sc 100 (zblk 100 0) 1 [some (.ref 11), some (.int x1), some (.int x2), some (.int x3)] [] σ Q := by
  unfold PC zini
  rw [zml_100]
  simp [zsl, Value.category]
theorem PW_c101 {x1 x2 x3 : Value} (h : st.length ≤ 4) : PW sc mt (.invokevirtual 101 :: is) nb L (x3 :: x2 :: x1 :: .ref 11 :: st) σ Q ↔ PC sc 101 [.ref 11, x1, x2, x3] σ (fun r σ' => PW sc mt is nb L (r.toList ++ st) σ' Q) := PW_cv3 (by decide +kernel) (by decide +kernel) (by decide +kernel) h
theorem zml_101 : zml 101 = 5 := by decide +kernel
theorem zret_101 : zret 101 = some .int := by decide +kernel
theorem PC_101 {x1 : Int32} {x2 : Int32} {x3 : Int32} : PC sc 101 [.ref 11, .int x1, .int x2, .int x3] σ Q ↔ PW sc 101 (zblk 101 0) 1 [some (.ref 11), some (.int x1), some (.int x2), some (.int x3), none] [] σ Q := by
  unfold PC zini
  rw [zml_101]
  simp [zsl, Value.category]
theorem PW_c102 {x1 x2 : Value} (h : st.length ≤ 4) : PW sc mt (.invokevirtual 102 :: is) nb L (x2 :: x1 :: .ref 11 :: st) σ Q ↔ PC sc 102 [.ref 11, x1, x2] σ (fun r σ' => PW sc mt is nb L (r.toList ++ st) σ' Q) := PW_cv2 (by decide +kernel) (by decide +kernel) (by decide +kernel) h
theorem zml_102 : zml 102 = 4 := by decide +kernel
theorem zret_102 : zret 102 = some .int := by decide +kernel
theorem PC_102 {x1 : Int32} {x2 : Int32} : PC sc 102 [.ref 11, .int x1, .int x2] σ Q ↔ PW sc 102 (zblk 102 0) 1 [some (.ref 11), some (.int x1), some (.int x2), none] [] σ Q := by
  unfold PC zini
  rw [zml_102]
  simp [zsl, Value.category]
theorem PW_c103 {x1 : Value} (h : st.length ≤ 4) : PW sc mt (.invokevirtual 103 :: is) nb L (x1 :: .ref 11 :: st) σ Q ↔ PC sc 103 [.ref 11, x1] σ (fun r σ' => PW sc mt is nb L (r.toList ++ st) σ' Q) := PW_cv1 (by decide +kernel) (by decide +kernel) (by decide +kernel) h
theorem zml_103 : zml 103 = 2 := by decide +kernel
theorem zret_103 : zret 103 = some .int := by decide +kernel
theorem PC_103 {x1 : Int32} : PC sc 103 [.ref 11, .int x1] σ Q ↔ PW sc 103 (zblk 103 0) 1 [some (.ref 11), some (.int x1)] [] σ Q := by
  unfold PC zini
  rw [zml_103]
  simp [zsl, Value.category]
theorem PW_c104 {x1 x2 x3 x4 x5 : Value} (h : st.length ≤ 4) : PW sc mt (.invokevirtual 104 :: is) nb L (x5 :: x4 :: x3 :: x2 :: x1 :: .ref 11 :: st) σ Q ↔ PC sc 104 [.ref 11, x1, x2, x3, x4, x5] σ (fun r σ' => PW sc mt is nb L (r.toList ++ st) σ' Q) := PW_cv5 (by decide +kernel) (by decide +kernel) (by decide +kernel) h
theorem zml_104 : zml 104 = 7 := by decide +kernel
theorem zret_104 : zret 104 = some .int := by decide +kernel
theorem PC_104 {x1 : Int32} {x2 : Int32} {x3 : Int32} {x4 : Int32} {x5 : Int32} : PC sc 104 [.ref 11, .int x1, .int x2, .int x3, .int x4, .int x5] σ Q ↔ PW sc 104 (zblk 104 0) 1 [some (.ref 11), some (.int x1), some (.int x2), some (.int x3), some (.int x4), some (.int x5), none] [] σ Q := by
  unfold PC zini
  rw [zml_104]
  simp [zsl, Value.category]
theorem PW_c105 {x1 x2 x3 x4 : Value} (h : st.length ≤ 4) : PW sc mt (.invokevirtual 105 :: is) nb L (x4 :: x3 :: x2 :: x1 :: .ref 11 :: st) σ Q ↔ PC sc 105 [.ref 11, x1, x2, x3, x4] σ (fun r σ' => PW sc mt is nb L (r.toList ++ st) σ' Q) := PW_cv4 (by decide +kernel) (by decide +kernel) (by decide +kernel) h
theorem zml_105 : zml 105 = 5 := by decide +kernel
theorem zret_105 : zret 105 = some .int := by decide +kernel
theorem PC_105 {x1 : Int32} {x2 : Int32} {x3 : Int32} {x4 : Int32} : PC sc 105 [.ref 11, .int x1, .int x2, .int x3, .int x4] σ Q ↔ PW sc 105 (zblk 105 0) 1 [some (.ref 11), some (.int x1), some (.int x2), some (.int x3), some (.int x4)] [] σ Q := by
  unfold PC zini
  rw [zml_105]
  simp [zsl, Value.category]
theorem PW_c106 {x1 x2 : Value} (h : st.length ≤ 4) : PW sc mt (.invokevirtual 106 :: is) nb L (x2 :: x1 :: .ref 11 :: st) σ Q ↔ PC sc 106 [.ref 11, x1, x2] σ (fun r σ' => PW sc mt is nb L (r.toList ++ st) σ' Q) := PW_cv2 (by decide +kernel) (by decide +kernel) (by decide +kernel) h
theorem zml_106 : zml 106 = 3 := by decide +kernel
theorem zret_106 : zret 106 = some .int := by decide +kernel
theorem PC_106 {x1 : Int32} {x2 : Int32} : PC sc 106 [.ref 11, .int x1, .int x2] σ Q ↔ PW sc 106 (zblk 106 0) 1 [some (.ref 11), some (.int x1), some (.int x2)] [] σ Q := by
  unfold PC zini
  rw [zml_106]
  simp [zsl, Value.category]
theorem PW_c107 {x1 x2 x3 : Value} (h : st.length ≤ 4) : PW sc mt (.invokevirtual 107 :: is) nb L (x3 :: x2 :: x1 :: .ref 11 :: st) σ Q ↔ PC sc 107 [.ref 11, x1, x2, x3] σ (fun r σ' => PW sc mt is nb L (r.toList ++ st) σ' Q) := PW_cv3 (by decide +kernel) (by decide +kernel) (by decide +kernel) h
theorem zml_107 : zml 107 = 4 := by decide +kernel
theorem zret_107 : zret 107 = some .int := by decide +kernel
theorem PC_107 {x1 : Int32} {x2 : Int32} {x3 : Int32} : PC sc 107 [.ref 11, .int x1, .int x2, .int x3] σ Q ↔ PW sc 107 (zblk 107 0) 1 [some (.ref 11), some (.int x1), some (.int x2), some (.int x3)] [] σ Q := by
  unfold PC zini
  rw [zml_107]
  simp [zsl, Value.category]
theorem PW_c108 {x1 x2 x3 : Value} (h : st.length ≤ 4) : PW sc mt (.invokevirtual 108 :: is) nb L (x3 :: x2 :: x1 :: .ref 11 :: st) σ Q ↔ PC sc 108 [.ref 11, x1, x2, x3] σ (fun r σ' => PW sc mt is nb L (r.toList ++ st) σ' Q) := PW_cv3 (by decide +kernel) (by decide +kernel) (by decide +kernel) h
theorem zml_108 : zml 108 = 4 := by decide +kernel
theorem zret_108 : zret 108 = some .int := by decide +kernel
theorem PC_108 {x1 : Int32} {x2 : Int32} {x3 : Int32} : PC sc 108 [.ref 11, .int x1, .int x2, .int x3] σ Q ↔ PW sc 108 (zblk 108 0) 1 [some (.ref 11), some (.int x1), some (.int x2), some (.int x3)] [] σ Q := by
  unfold PC zini
  rw [zml_108]
  simp [zsl, Value.category]
theorem PW_c109 {x1 x2 x3 : Value} (h : st.length ≤ 4) : PW sc mt (.invokevirtual 109 :: is) nb L (x3 :: x2 :: x1 :: .ref 11 :: st) σ Q ↔ PC sc 109 [.ref 11, x1, x2, x3] σ (fun r σ' => PW sc mt is nb L (r.toList ++ st) σ' Q) := PW_cv3 (by decide +kernel) (by decide +kernel) (by decide +kernel) h
theorem zml_109 : zml 109 = 4 := by decide +kernel
theorem zret_109 : zret 109 = some .int := by decide +kernel
theorem PC_109 {x1 : Int32} {x2 : Int32} {x3 : Int32} : PC sc 109 [.ref 11, .int x1, .int x2, .int x3] σ Q ↔ PW sc 109 (zblk 109 0) 1 [some (.ref 11), some (.int x1), some (.int x2), some (.int x3)] [] σ Q := by
  unfold PC zini
  rw [zml_109]
  simp [zsl, Value.category]
theorem PW_c110 {x1 x2 : Value} (h : st.length ≤ 4) : PW sc mt (.invokevirtual 110 :: is) nb L (x2 :: x1 :: .ref 11 :: st) σ Q ↔ PC sc 110 [.ref 11, x1, x2] σ (fun r σ' => PW sc mt is nb L (r.toList ++ st) σ' Q) := PW_cv2 (by decide +kernel) (by decide +kernel) (by decide +kernel) h
theorem zml_110 : zml 110 = 4 := by decide +kernel
theorem zret_110 : zret 110 = some .int := by decide +kernel
theorem PC_110 {x1 : Int32} {x2 : Int32} : PC sc 110 [.ref 11, .int x1, .int x2] σ Q ↔ PW sc 110 (zblk 110 0) 1 [some (.ref 11), some (.int x1), some (.int x2), none] [] σ Q := by
  unfold PC zini
  rw [zml_110]
  simp [zsl, Value.category]
theorem PW_c111 {x1 : Value} (h : st.length ≤ 4) : PW sc mt (.invokevirtual 111 :: is) nb L (x1 :: .ref 11 :: st) σ Q ↔ PC sc 111 [.ref 11, x1] σ (fun r σ' => PW sc mt is nb L (r.toList ++ st) σ' Q) := PW_cv1 (by decide +kernel) (by decide +kernel) (by decide +kernel) h
theorem zml_111 : zml 111 = 2 := by decide +kernel
theorem zret_111 : zret 111 = some .int := by decide +kernel
theorem PC_111 {x1 : Int32} : PC sc 111 [.ref 11, .int x1] σ Q ↔ PW sc 111 (zblk 111 0) 1 [some (.ref 11), some (.int x1)] [] σ Q := by
  unfold PC zini
  rw [zml_111]
  simp [zsl, Value.category]
theorem PW_c112 {x1 : Value} (h : st.length ≤ 4) : PW sc mt (.invokevirtual 112 :: is) nb L (x1 :: .ref 11 :: st) σ Q ↔ PC sc 112 [.ref 11, x1] σ (fun r σ' => PW sc mt is nb L (r.toList ++ st) σ' Q) := PW_cv1 (by decide +kernel) (by decide +kernel) (by decide +kernel) h
theorem zml_112 : zml 112 = 2 := by decide +kernel
theorem zret_112 : zret 112 = some .int := by decide +kernel
theorem PC_112 {x1 : Int32} : PC sc 112 [.ref 11, .int x1] σ Q ↔ PW sc 112 (zblk 112 0) 1 [some (.ref 11), some (.int x1)] [] σ Q := by
  unfold PC zini
  rw [zml_112]
  simp [zsl, Value.category]
theorem PW_c113 {x1 : Value} (h : st.length ≤ 4) : PW sc mt (.invokevirtual 113 :: is) nb L (x1 :: .ref 11 :: st) σ Q ↔ PC sc 113 [.ref 11, x1] σ (fun r σ' => PW sc mt is nb L (r.toList ++ st) σ' Q) := PW_cv1 (by decide +kernel) (by decide +kernel) (by decide +kernel) h
theorem zml_113 : zml 113 = 3 := by decide +kernel
theorem zret_113 : zret 113 = some .int := by decide +kernel
theorem PC_113 {x1 : Int32} : PC sc 113 [.ref 11, .int x1] σ Q ↔ PW sc 113 (zblk 113 0) 1 [some (.ref 11), some (.int x1), none] [] σ Q := by
  unfold PC zini
  rw [zml_113]
  simp [zsl, Value.category]
theorem PW_c114 (h : st.length ≤ 4) : PW sc mt (.invokevirtual 114 :: is) nb L (.ref 11 :: st) σ Q ↔ PC sc 114 [.ref 11] σ (fun r σ' => PW sc mt is nb L (r.toList ++ st) σ' Q) := PW_cv0 (by decide +kernel) (by decide +kernel) (by decide +kernel) h
theorem zml_114 : zml 114 = 1 := by decide +kernel
theorem zret_114 : zret 114 = some .int := by decide +kernel
theorem PC_114  : PC sc 114 [.ref 11] σ Q ↔ PW sc 114 (zblk 114 0) 1 [some (.ref 11)] [] σ Q := by
  unfold PC zini
  rw [zml_114]
  simp [zsl, Value.category]
theorem PW_c115 {x1 x2 x3 x4 x5 x6 x7 : Value} (h : st.length ≤ 4) : PW sc mt (.invokevirtual 115 :: is) nb L (x7 :: x6 :: x5 :: x4 :: x3 :: x2 :: x1 :: .ref 11 :: st) σ Q ↔ PC sc 115 [.ref 11, x1, x2, x3, x4, x5, x6, x7] σ (fun r σ' => PW sc mt is nb L (r.toList ++ st) σ' Q) := PW_cv7 (by decide +kernel) (by decide +kernel) (by decide +kernel) h
theorem zml_115 : zml 115 = 9 := by decide +kernel
theorem zret_115 : zret 115 = some .int := by decide +kernel
theorem PC_115 {x1 : Int32} {x2 : Int32} {x3 : Int32} {x4 : Int32} {x5 : Int32} {x6 : Int32} {x7 : Int32} : PC sc 115 [.ref 11, .int x1, .int x2, .int x3, .int x4, .int x5, .int x6, .int x7] σ Q ↔ PW sc 115 (zblk 115 0) 1 [some (.ref 11), some (.int x1), some (.int x2), some (.int x3), some (.int x4), some (.int x5), some (.int x6), some (.int x7), none] [] σ Q := by
  unfold PC zini
  rw [zml_115]
  simp [zsl, Value.category]
theorem PW_c116 {x1 x2 x3 x4 x5 : Value} (h : st.length ≤ 4) : PW sc mt (.invokevirtual 116 :: is) nb L (x5 :: x4 :: x3 :: x2 :: x1 :: .ref 11 :: st) σ Q ↔ PC sc 116 [.ref 11, x1, x2, x3, x4, x5] σ (fun r σ' => PW sc mt is nb L (r.toList ++ st) σ' Q) := PW_cv5 (by decide +kernel) (by decide +kernel) (by decide +kernel) h
theorem zml_116 : zml 116 = 7 := by decide +kernel
theorem zret_116 : zret 116 = some .int := by decide +kernel
theorem PC_116 {x1 : Int32} {x2 : Int32} {x3 : Int32} {x4 : Int32} {x5 : Int32} : PC sc 116 [.ref 11, .int x1, .int x2, .int x3, .int x4, .int x5] σ Q ↔ PW sc 116 (zblk 116 0) 1 [some (.ref 11), some (.int x1), some (.int x2), some (.int x3), some (.int x4), some (.int x5), none] [] σ Q := by
  unfold PC zini
  rw [zml_116]
  simp [zsl, Value.category]
theorem PW_c117 {x1 x2 x3 x4 x5 : Value} (h : st.length ≤ 4) : PW sc mt (.invokevirtual 117 :: is) nb L (x5 :: x4 :: x3 :: x2 :: x1 :: .ref 11 :: st) σ Q ↔ PC sc 117 [.ref 11, x1, x2, x3, x4, x5] σ (fun r σ' => PW sc mt is nb L (r.toList ++ st) σ' Q) := PW_cv5 (by decide +kernel) (by decide +kernel) (by decide +kernel) h
theorem zml_117 : zml 117 = 7 := by decide +kernel
theorem zret_117 : zret 117 = some .int := by decide +kernel
theorem PC_117 {x1 : Int32} {x2 : Int32} {x3 : Int32} {x4 : Int32} {x5 : Int32} : PC sc 117 [.ref 11, .int x1, .int x2, .int x3, .int x4, .int x5] σ Q ↔ PW sc 117 (zblk 117 0) 1 [some (.ref 11), some (.int x1), some (.int x2), some (.int x3), some (.int x4), some (.int x5), none] [] σ Q := by
  unfold PC zini
  rw [zml_117]
  simp [zsl, Value.category]
theorem PW_c118 {x1 x2 x3 : Value} (h : st.length ≤ 4) : PW sc mt (.invokevirtual 118 :: is) nb L (x3 :: x2 :: x1 :: .ref 11 :: st) σ Q ↔ PC sc 118 [.ref 11, x1, x2, x3] σ (fun r σ' => PW sc mt is nb L (r.toList ++ st) σ' Q) := PW_cv3 (by decide +kernel) (by decide +kernel) (by decide +kernel) h
theorem zml_118 : zml 118 = 5 := by decide +kernel
theorem zret_118 : zret 118 = some .long := by decide +kernel
theorem PC_118 {x1 : Int32} {x2 : Int32} {x3 : Int32} : PC sc 118 [.ref 11, .int x1, .int x2, .int x3] σ Q ↔ PW sc 118 (zblk 118 0) 1 [some (.ref 11), some (.int x1), some (.int x2), some (.int x3), none] [] σ Q := by
  unfold PC zini
  rw [zml_118]
  simp [zsl, Value.category]
theorem PW_c119 {x1 x2 : Value} (h : st.length ≤ 4) : PW sc mt (.invokevirtual 119 :: is) nb L (x2 :: x1 :: .ref 11 :: st) σ Q ↔ PC sc 119 [.ref 11, x1, x2] σ (fun r σ' => PW sc mt is nb L (r.toList ++ st) σ' Q) := PW_cv2 (by decide +kernel) (by decide +kernel) (by decide +kernel) h
theorem zml_119 : zml 119 = 3 := by decide +kernel
theorem zret_119 : zret 119 = some .long := by decide +kernel
theorem PC_119 {x1 : Int32} {x2 : Int32} : PC sc 119 [.ref 11, .int x1, .int x2] σ Q ↔ PW sc 119 (zblk 119 0) 1 [some (.ref 11), some (.int x1), some (.int x2)] [] σ Q := by
  unfold PC zini
  rw [zml_119]
  simp [zsl, Value.category]
theorem PW_c120 {x1 x2 : Value} (h : st.length ≤ 4) : PW sc mt (.invokevirtual 120 :: is) nb L (x2 :: x1 :: .ref 11 :: st) σ Q ↔ PC sc 120 [.ref 11, x1, x2] σ (fun r σ' => PW sc mt is nb L (r.toList ++ st) σ' Q) := PW_cv2 (by decide +kernel) (by decide +kernel) (by decide +kernel) h
theorem zml_120 : zml 120 = 3 := by decide +kernel
theorem zret_120 : zret 120 = some .int := by decide +kernel
theorem PC_120 {x1 : Int32} {x2 : Int32} : PC sc 120 [.ref 11, .int x1, .int x2] σ Q ↔ PW sc 120 (zblk 120 0) 1 [some (.ref 11), some (.int x1), some (.int x2)] [] σ Q := by
  unfold PC zini
  rw [zml_120]
  simp [zsl, Value.category]
theorem PW_c121 {x1 x2 x3 x4 : Value} (h : st.length ≤ 4) : PW sc mt (.invokevirtual 121 :: is) nb L (x4 :: x3 :: x2 :: x1 :: .ref 11 :: st) σ Q ↔ PC sc 121 [.ref 11, x1, x2, x3, x4] σ (fun r σ' => PW sc mt is nb L (r.toList ++ st) σ' Q) := PW_cv4 (by decide +kernel) (by decide +kernel) (by decide +kernel) h
theorem zml_121 : zml 121 = 7 := by decide +kernel
theorem zret_121 : zret 121 = some .int := by decide +kernel
theorem PC_121 {x1 : Int32} {x2 : Int32} {x3 : Int32} {x4 : Int32} : PC sc 121 [.ref 11, .int x1, .int x2, .int x3, .int x4] σ Q ↔ PW sc 121 (zblk 121 0) 1 [some (.ref 11), some (.int x1), some (.int x2), some (.int x3), some (.int x4), none, none] [] σ Q := by
  unfold PC zini
  rw [zml_121]
  simp [zsl, Value.category]
theorem PW_c122 {x1 : Value} (h : st.length ≤ 4) : PW sc mt (.invokevirtual 122 :: is) nb L (x1 :: .ref 11 :: st) σ Q ↔ PC sc 122 [.ref 11, x1] σ (fun r σ' => PW sc mt is nb L (r.toList ++ st) σ' Q) := PW_cv1 (by decide +kernel) (by decide +kernel) (by decide +kernel) h
theorem zml_122 : zml 122 = 2 := by decide +kernel
theorem zret_122 : zret 122 = some .int := by decide +kernel
theorem PC_122 {x1 : Int32} : PC sc 122 [.ref 11, .int x1] σ Q ↔ PW sc 122 (zblk 122 0) 1 [some (.ref 11), some (.int x1)] [] σ Q := by
  unfold PC zini
  rw [zml_122]
  simp [zsl, Value.category]
theorem PW_c123 {x1 x2 x3 : Value} (h : st.length ≤ 4) : PW sc mt (.invokevirtual 123 :: is) nb L (x3 :: x2 :: x1 :: .ref 11 :: st) σ Q ↔ PC sc 123 [.ref 11, x1, x2, x3] σ (fun r σ' => PW sc mt is nb L (r.toList ++ st) σ' Q) := PW_cv3 (by decide +kernel) (by decide +kernel) (by decide +kernel) h
theorem zml_123 : zml 123 = 4 := by decide +kernel
theorem zret_123 : zret 123 = some .int := by decide +kernel
theorem PC_123 {x1 : Int32} {x2 : Int32} {x3 : Int32} : PC sc 123 [.ref 11, .int x1, .int x2, .int x3] σ Q ↔ PW sc 123 (zblk 123 0) 1 [some (.ref 11), some (.int x1), some (.int x2), some (.int x3)] [] σ Q := by
  unfold PC zini
  rw [zml_123]
  simp [zsl, Value.category]
theorem PW_c124 {x1 : Value} (h : st.length ≤ 4) : PW sc mt (.invokevirtual 124 :: is) nb L (x1 :: .ref 11 :: st) σ Q ↔ PC sc 124 [.ref 11, x1] σ (fun r σ' => PW sc mt is nb L (r.toList ++ st) σ' Q) := PW_cv1 (by decide +kernel) (by decide +kernel) (by decide +kernel) h
theorem zml_124 : zml 124 = 3 := by decide +kernel
theorem zret_124 : zret 124 = some .int := by decide +kernel
theorem PC_124 {x1 : Int32} : PC sc 124 [.ref 11, .int x1] σ Q ↔ PW sc 124 (zblk 124 0) 1 [some (.ref 11), some (.int x1), none] [] σ Q := by
  unfold PC zini
  rw [zml_124]
  simp [zsl, Value.category]
theorem PW_c125 {x1 x2 x3 : Value} (h : st.length ≤ 4) : PW sc mt (.invokevirtual 125 :: is) nb L (x3 :: x2 :: x1 :: .ref 11 :: st) σ Q ↔ PC sc 125 [.ref 11, x1, x2, x3] σ (fun r σ' => PW sc mt is nb L (r.toList ++ st) σ' Q) := PW_cv3 (by decide +kernel) (by decide +kernel) (by decide +kernel) h
theorem zml_125 : zml 125 = 5 := by decide +kernel
theorem zret_125 : zret 125 = some .int := by decide +kernel
theorem PC_125 {x1 : Int32} {x2 : Int32} {x3 : Int32} : PC sc 125 [.ref 11, .int x1, .int x2, .int x3] σ Q ↔ PW sc 125 (zblk 125 0) 1 [some (.ref 11), some (.int x1), some (.int x2), some (.int x3), none] [] σ Q := by
  unfold PC zini
  rw [zml_125]
  simp [zsl, Value.category]
theorem PW_c126 {x1 x2 x3 : Value} (h : st.length ≤ 4) : PW sc mt (.invokevirtual 126 :: is) nb L (x3 :: x2 :: x1 :: .ref 11 :: st) σ Q ↔ PC sc 126 [.ref 11, x1, x2, x3] σ (fun r σ' => PW sc mt is nb L (r.toList ++ st) σ' Q) := PW_cv3 (by decide +kernel) (by decide +kernel) (by decide +kernel) h
theorem zml_126 : zml 126 = 5 := by decide +kernel
theorem zret_126 : zret 126 = some .long := by decide +kernel
theorem PC_126 {x1 : Int32} {x2 : Int32} {x3 : Int32} : PC sc 126 [.ref 11, .int x1, .int x2, .int x3] σ Q ↔ PW sc 126 (zblk 126 0) 1 [some (.ref 11), some (.int x1), some (.int x2), some (.int x3), none] [] σ Q := by
  unfold PC zini
  rw [zml_126]
  simp [zsl, Value.category]
theorem PW_c127 {x1 : Value} (h : st.length ≤ 4) : PW sc mt (.invokevirtual 127 :: is) nb L (x1 :: .ref 11 :: st) σ Q ↔ PC sc 127 [.ref 11, x1] σ (fun r σ' => PW sc mt is nb L (r.toList ++ st) σ' Q) := PW_cv1 (by decide +kernel) (by decide +kernel) (by decide +kernel) h
theorem zml_127 : zml 127 = 2 := by decide +kernel
theorem zret_127 : zret 127 = some .int := by decide +kernel
theorem PC_127 {x1 : Int32} : PC sc 127 [.ref 11, .int x1] σ Q ↔ PW sc 127 (zblk 127 0) 1 [some (.ref 11), some (.int x1)] [] σ Q := by
  unfold PC zini
  rw [zml_127]
  simp [zsl, Value.category]
theorem PW_c128 {x1 : Value} (h : st.length ≤ 4) : PW sc mt (.invokevirtual 128 :: is) nb L (x1 :: .ref 11 :: st) σ Q ↔ PC sc 128 [.ref 11, x1] σ (fun r σ' => PW sc mt is nb L (r.toList ++ st) σ' Q) := PW_cv1 (by decide +kernel) (by decide +kernel) (by decide +kernel) h
theorem zml_128 : zml 128 = 2 := by decide +kernel
theorem zret_128 : zret 128 = some .int := by decide +kernel
theorem PC_128 {x1 : Int32} : PC sc 128 [.ref 11, .int x1] σ Q ↔ PW sc 128 (zblk 128 0) 1 [some (.ref 11), some (.int x1)] [] σ Q := by
  unfold PC zini
  rw [zml_128]
  simp [zsl, Value.category]
theorem PW_c129 {x1 x2 : Value} (h : st.length ≤ 4) : PW sc mt (.invokevirtual 129 :: is) nb L (x2 :: x1 :: .ref 11 :: st) σ Q ↔ PC sc 129 [.ref 11, x1, x2] σ (fun r σ' => PW sc mt is nb L (r.toList ++ st) σ' Q) := PW_cv2 (by decide +kernel) (by decide +kernel) (by decide +kernel) h
theorem zml_129 : zml 129 = 3 := by decide +kernel
theorem zret_129 : zret 129 = some .int := by decide +kernel
theorem PC_129 {x1 : Int32} {x2 : Int32} : PC sc 129 [.ref 11, .int x1, .int x2] σ Q ↔ PW sc 129 (zblk 129 0) 1 [some (.ref 11), some (.int x1), some (.int x2)] [] σ Q := by
  unfold PC zini
  rw [zml_129]
  simp [zsl, Value.category]
theorem PW_c130 (h : st.length ≤ 4) : PW sc mt (.invokevirtual 130 :: is) nb L (.ref 11 :: st) σ Q ↔ PC sc 130 [.ref 11] σ (fun r σ' => PW sc mt is nb L (r.toList ++ st) σ' Q) := PW_cv0 (by decide +kernel) (by decide +kernel) (by decide +kernel) h
theorem zml_130 : zml 130 = 1 := by decide +kernel
theorem zret_130 : zret 130 = some .int := by decide +kernel
theorem PC_130  : PC sc 130 [.ref 11] σ Q ↔ PW sc 130 (zblk 130 0) 1 [some (.ref 11)] [] σ Q := by
  unfold PC zini
  rw [zml_130]
  simp [zsl, Value.category]
theorem PW_c131 (h : st.length ≤ 4) : PW sc mt (.invokevirtual 131 :: is) nb L (.ref 11 :: st) σ Q ↔ PC sc 131 [.ref 11] σ (fun r σ' => PW sc mt is nb L (r.toList ++ st) σ' Q) := PW_cv0 (by decide +kernel) (by decide +kernel) (by decide +kernel) h
theorem zml_131 : zml 131 = 1 := by decide +kernel
theorem zret_131 : zret 131 = some .int := by decide +kernel
theorem PC_131  : PC sc 131 [.ref 11] σ Q ↔ PW sc 131 (zblk 131 0) 1 [some (.ref 11)] [] σ Q := by
  unfold PC zini
  rw [zml_131]
  simp [zsl, Value.category]
theorem PW_c132 {x1 : Value} (h : st.length ≤ 4) : PW sc mt (.invokevirtual 132 :: is) nb L (x1 :: .ref 11 :: st) σ Q ↔ PC sc 132 [.ref 11, x1] σ (fun r σ' => PW sc mt is nb L (r.toList ++ st) σ' Q) := PW_cv1 (by decide +kernel) (by decide +kernel) (by decide +kernel) h
theorem zml_132 : zml 132 = 2 := by decide +kernel
theorem zret_132 : zret 132 = some .int := by decide +kernel
theorem PC_132 {x1 : Int32} : PC sc 132 [.ref 11, .int x1] σ Q ↔ PW sc 132 (zblk 132 0) 1 [some (.ref 11), some (.int x1)] [] σ Q := by
  unfold PC zini
  rw [zml_132]
  simp [zsl, Value.category]
theorem PW_c133 {x1 x2 x3 : Value} (h : st.length ≤ 4) : PW sc mt (.invokestatic 133 :: is) nb L (x3 :: x2 :: x1 :: st) σ Q ↔ PC sc 133 [x1, x2, x3] σ (fun r σ' => PW sc mt is nb L (r.toList ++ st) σ' Q) := PW_cs3 (by decide +kernel) (by decide +kernel) h
theorem zml_133 : zml 133 = 3 := by decide +kernel
theorem zret_133 : zret 133 = some .boolean := by decide +kernel
theorem PC_133 {x1 : Int32} {x2 : Int32} {x3 : Int32} : PC sc 133 [.int x1, .int x2, .int x3] σ Q ↔ PW sc 133 (zblk 133 0) 1 [some (.int x1), some (.int x2), some (.int x3)] [] σ Q := by
  unfold PC zini
  rw [zml_133]
  simp [zsl, Value.category]
theorem PW_c134 {x1 : Value} (h : st.length ≤ 4) : PW sc mt (.invokestatic 134 :: is) nb L (x1 :: st) σ Q ↔ PC sc 134 [x1] σ (fun r σ' => PW sc mt is nb L (r.toList ++ st) σ' Q) := PW_cs1 (by decide +kernel) (by decide +kernel) h
theorem zml_134 : zml 134 = 1 := by decide +kernel
theorem zret_134 : zret 134 = some .boolean := by decide +kernel
theorem PC_134 {x1 : Int32} : PC sc 134 [.int x1] σ Q ↔ PW sc 134 (zblk 134 0) 1 [some (.int x1)] [] σ Q := by
  unfold PC zini
  rw [zml_134]
  simp [zsl, Value.category]
theorem PW_c135 {x1 x2 x3 : Value} (h : st.length ≤ 4) : PW sc mt (.invokestatic 135 :: is) nb L (x3 :: x2 :: x1 :: st) σ Q ↔ PC sc 135 [x1, x2, x3] σ (fun r σ' => PW sc mt is nb L (r.toList ++ st) σ' Q) := PW_cs3 (by decide +kernel) (by decide +kernel) h
theorem zml_135 : zml 135 = 5 := by decide +kernel
theorem zret_135 : zret 135 = some .int := by decide +kernel
theorem PC_135 {x1 : Nat} {x2 : Int32} {x3 : Int32} : PC sc 135 [.ref x1, .int x2, .int x3] σ Q ↔ PW sc 135 (zblk 135 0) 1 [some (.ref x1), some (.int x2), some (.int x3), none, none] [] σ Q := by
  unfold PC zini
  rw [zml_135]
  simp [zsl, Value.category]
theorem PW_c136 {x1 : Value} (h : st.length ≤ 4) : PW sc mt (.invokevirtual 136 :: is) nb L (x1 :: .ref 11 :: st) σ Q ↔ PC sc 136 [.ref 11, x1] σ (fun r σ' => PW sc mt is nb L (r.toList ++ st) σ' Q) := PW_cv1 (by decide +kernel) (by decide +kernel) (by decide +kernel) h
theorem zml_136 : zml 136 = 2 := by decide +kernel
theorem zret_136 : zret 136 = some .int := by decide +kernel
theorem PC_136 {x1 : Int32} : PC sc 136 [.ref 11, .int x1] σ Q ↔ PW sc 136 (zblk 136 0) 1 [some (.ref 11), some (.int x1)] [] σ Q := by
  unfold PC zini
  rw [zml_136]
  simp [zsl, Value.category]
theorem PW_c137 {x1 x2 x3 x4 : Value} (h : st.length ≤ 4) : PW sc mt (.invokevirtual 137 :: is) nb L (x4 :: x3 :: x2 :: x1 :: .ref 11 :: st) σ Q ↔ PC sc 137 [.ref 11, x1, x2, x3, x4] σ (fun r σ' => PW sc mt is nb L (r.toList ++ st) σ' Q) := PW_cv4 (by decide +kernel) (by decide +kernel) (by decide +kernel) h
theorem zml_137 : zml 137 = 5 := by decide +kernel
theorem zret_137 : zret 137 = some .int := by decide +kernel
theorem PC_137 {x1 : Int32} {x2 : Int32} {x3 : Int32} {x4 : Int32} : PC sc 137 [.ref 11, .int x1, .int x2, .int x3, .int x4] σ Q ↔ PW sc 137 (zblk 137 0) 1 [some (.ref 11), some (.int x1), some (.int x2), some (.int x3), some (.int x4)] [] σ Q := by
  unfold PC zini
  rw [zml_137]
  simp [zsl, Value.category]
theorem PW_c138 {x1 x2 x3 : Value} (h : st.length ≤ 4) : PW sc mt (.invokevirtual 138 :: is) nb L (x3 :: x2 :: x1 :: .ref 11 :: st) σ Q ↔ PC sc 138 [.ref 11, x1, x2, x3] σ (fun r σ' => PW sc mt is nb L (r.toList ++ st) σ' Q) := PW_cv3 (by decide +kernel) (by decide +kernel) (by decide +kernel) h
theorem zml_138 : zml 138 = 5 := by decide +kernel
theorem zret_138 : zret 138 = some .int := by decide +kernel
theorem PC_138 {x1 : Int32} {x2 : Int32} {x3 : Int32} : PC sc 138 [.ref 11, .int x1, .int x2, .int x3] σ Q ↔ PW sc 138 (zblk 138 0) 1 [some (.ref 11), some (.int x1), some (.int x2), some (.int x3), none] [] σ Q := by
  unfold PC zini
  rw [zml_138]
  simp [zsl, Value.category]
theorem PW_c139 {x1 x2 : Value} (h : st.length ≤ 4) : PW sc mt (.invokevirtual 139 :: is) nb L (x2 :: x1 :: .ref 11 :: st) σ Q ↔ PC sc 139 [.ref 11, x1, x2] σ (fun r σ' => PW sc mt is nb L (r.toList ++ st) σ' Q) := PW_cv2 (by decide +kernel) (by decide +kernel) (by decide +kernel) h
theorem zml_139 : zml 139 = 3 := by decide +kernel
theorem zret_139 : zret 139 = some .boolean := by decide +kernel
theorem PC_139 {x1 : Int32} {x2 : Int32} : PC sc 139 [.ref 11, .int x1, .int x2] σ Q ↔ PW sc 139 (zblk 139 0) 1 [some (.ref 11), some (.int x1), some (.int x2)] [] σ Q := by
  unfold PC zini
  rw [zml_139]
  simp [zsl, Value.category]
theorem PW_c140 {x1 : Value} (h : st.length ≤ 4) : PW sc mt (.invokevirtual 140 :: is) nb L (x1 :: .ref 11 :: st) σ Q ↔ PC sc 140 [.ref 11, x1] σ (fun r σ' => PW sc mt is nb L (r.toList ++ st) σ' Q) := PW_cv1 (by decide +kernel) (by decide +kernel) (by decide +kernel) h
theorem zml_140 : zml 140 = 4 := by decide +kernel
theorem zret_140 : zret 140 = some .int := by decide +kernel
theorem PC_140 {x1 : Int32} : PC sc 140 [.ref 11, .int x1] σ Q ↔ PW sc 140 (zblk 140 0) 1 [some (.ref 11), some (.int x1), none, none] [] σ Q := by
  unfold PC zini
  rw [zml_140]
  simp [zsl, Value.category]
theorem PW_c141 {x1 : Value} (h : st.length ≤ 4) : PW sc mt (.invokevirtual 141 :: is) nb L (x1 :: .ref 11 :: st) σ Q ↔ PC sc 141 [.ref 11, x1] σ (fun r σ' => PW sc mt is nb L (r.toList ++ st) σ' Q) := PW_cv1 (by decide +kernel) (by decide +kernel) (by decide +kernel) h
theorem zml_141 : zml 141 = 3 := by decide +kernel
theorem zret_141 : zret 141 = some .int := by decide +kernel
theorem PC_141 {x1 : Int32} : PC sc 141 [.ref 11, .int x1] σ Q ↔ PW sc 141 (zblk 141 0) 1 [some (.ref 11), some (.int x1), none] [] σ Q := by
  unfold PC zini
  rw [zml_141]
  simp [zsl, Value.category]
theorem PW_c142 {x1 : Value} (h : st.length ≤ 4) : PW sc mt (.invokevirtual 142 :: is) nb L (x1 :: .ref 11 :: st) σ Q ↔ PC sc 142 [.ref 11, x1] σ (fun r σ' => PW sc mt is nb L (r.toList ++ st) σ' Q) := PW_cv1 (by decide +kernel) (by decide +kernel) (by decide +kernel) h
theorem zml_142 : zml 142 = 2 := by decide +kernel
theorem zret_142 : zret 142 = none := by decide +kernel
theorem PC_142 {x1 : Int32} : PC sc 142 [.ref 11, .int x1] σ Q ↔ PW sc 142 (zblk 142 0) 1 [some (.ref 11), some (.int x1)] [] σ Q := by
  unfold PC zini
  rw [zml_142]
  simp [zsl, Value.category]
theorem PW_c143 {x1 : Value} (h : st.length ≤ 4) : PW sc mt (.invokevirtual 143 :: is) nb L (x1 :: .ref 11 :: st) σ Q ↔ PC sc 143 [.ref 11, x1] σ (fun r σ' => PW sc mt is nb L (r.toList ++ st) σ' Q) := PW_cv1 (by decide +kernel) (by decide +kernel) (by decide +kernel) h
theorem zml_143 : zml 143 = 2 := by decide +kernel
theorem zret_143 : zret 143 = some .int := by decide +kernel
theorem PC_143 {x1 : Int32} : PC sc 143 [.ref 11, .int x1] σ Q ↔ PW sc 143 (zblk 143 0) 1 [some (.ref 11), some (.int x1)] [] σ Q := by
  unfold PC zini
  rw [zml_143]
  simp [zsl, Value.category]
theorem PW_c144 {x1 : Value} (h : st.length ≤ 4) : PW sc mt (.invokevirtual 144 :: is) nb L (x1 :: .ref 11 :: st) σ Q ↔ PC sc 144 [.ref 11, x1] σ (fun r σ' => PW sc mt is nb L (r.toList ++ st) σ' Q) := PW_cv1 (by decide +kernel) (by decide +kernel) (by decide +kernel) h
theorem zml_144 : zml 144 = 2 := by decide +kernel
theorem zret_144 : zret 144 = some .int := by decide +kernel
theorem PC_144 {x1 : Int32} : PC sc 144 [.ref 11, .int x1] σ Q ↔ PW sc 144 (zblk 144 0) 1 [some (.ref 11), some (.int x1)] [] σ Q := by
  unfold PC zini
  rw [zml_144]
  simp [zsl, Value.category]
theorem PW_c145 {x1 : Value} (h : st.length ≤ 4) : PW sc mt (.invokevirtual 145 :: is) nb L (x1 :: .ref 11 :: st) σ Q ↔ PC sc 145 [.ref 11, x1] σ (fun r σ' => PW sc mt is nb L (r.toList ++ st) σ' Q) := PW_cv1 (by decide +kernel) (by decide +kernel) (by decide +kernel) h
theorem zml_145 : zml 145 = 3 := by decide +kernel
theorem zret_145 : zret 145 = some .int := by decide +kernel
theorem PC_145 {x1 : Int32} : PC sc 145 [.ref 11, .int x1] σ Q ↔ PW sc 145 (zblk 145 0) 1 [some (.ref 11), some (.int x1), none] [] σ Q := by
  unfold PC zini
  rw [zml_145]
  simp [zsl, Value.category]
theorem PW_c146 {x1 : Value} (h : st.length ≤ 4) : PW sc mt (.invokevirtual 146 :: is) nb L (x1 :: .ref 11 :: st) σ Q ↔ PC sc 146 [.ref 11, x1] σ (fun r σ' => PW sc mt is nb L (r.toList ++ st) σ' Q) := PW_cv1 (by decide +kernel) (by decide +kernel) (by decide +kernel) h
theorem zml_146 : zml 146 = 2 := by decide +kernel
theorem zret_146 : zret 146 = some .int := by decide +kernel
theorem PC_146 {x1 : Int32} : PC sc 146 [.ref 11, .int x1] σ Q ↔ PW sc 146 (zblk 146 0) 1 [some (.ref 11), some (.int x1)] [] σ Q := by
  unfold PC zini
  rw [zml_146]
  simp [zsl, Value.category]
theorem PW_c147 (h : st.length ≤ 4) : PW sc mt (.invokevirtual 147 :: is) nb L (.ref 11 :: st) σ Q ↔ PC sc 147 [.ref 11] σ (fun r σ' => PW sc mt is nb L (r.toList ++ st) σ' Q) := PW_cv0 (by decide +kernel) (by decide +kernel) (by decide +kernel) h
theorem zml_147 : zml 147 = 1 := by decide +kernel
theorem zret_147 : zret 147 = some .int := by decide +kernel
theorem PC_147  : PC sc 147 [.ref 11] σ Q ↔ PW sc 147 (zblk 147 0) 1 [some (.ref 11)] [] σ Q := by
  unfold PC zini
  rw [zml_147]
  simp [zsl, Value.category]
theorem PW_c148 {x1 : Value} (h : st.length ≤ 4) : PW sc mt (.invokevirtual 148 :: is) nb L (x1 :: .ref 12 :: st) σ Q ↔ PC sc 148 [.ref 12, x1] σ (fun r σ' => PW sc mt is nb L (r.toList ++ st) σ' Q) := PW_cv1 (by decide +kernel) (by decide +kernel) (by decide +kernel) h
theorem zml_148 : zml 148 = 2 := by decide +kernel
theorem zret_148 : zret 148 = some .int := by decide +kernel
theorem PC_148 {x1 : Int32} : PC sc 148 [.ref 12, .int x1] σ Q ↔ PW sc 148 (zblk 148 0) 1 [some (.ref 12), some (.int x1)] [] σ Q := by
  unfold PC zini
  rw [zml_148]
  simp [zsl, Value.category]
theorem PW_c149 {x1 : Value} (h : st.length ≤ 4) : PW sc mt (.invokevirtual 149 :: is) nb L (x1 :: .ref 12 :: st) σ Q ↔ PC sc 149 [.ref 12, x1] σ (fun r σ' => PW sc mt is nb L (r.toList ++ st) σ' Q) := PW_cv1 (by decide +kernel) (by decide +kernel) (by decide +kernel) h
theorem zml_149 : zml 149 = 2 := by decide +kernel
theorem zret_149 : zret 149 = some .long := by decide +kernel
theorem PC_149 {x1 : Int32} : PC sc 149 [.ref 12, .int x1] σ Q ↔ PW sc 149 (zblk 149 0) 1 [some (.ref 12), some (.int x1)] [] σ Q := by
  unfold PC zini
  rw [zml_149]
  simp [zsl, Value.category]
theorem PW_c150 {x1 x2 x3 : Value} (h : st.length ≤ 4) : PW sc mt (.invokestatic 150 :: is) nb L (x3 :: x2 :: x1 :: st) σ Q ↔ PC sc 150 [x1, x2, x3] σ (fun r σ' => PW sc mt is nb L (r.toList ++ st) σ' Q) := PW_cs3 (by decide +kernel) (by decide +kernel) h
theorem zml_150 : zml 150 = 3 := by decide +kernel
theorem zret_150 : zret 150 = some .boolean := by decide +kernel
theorem PC_150 {x1 : Int32} {x2 : Int32} {x3 : Int32} : PC sc 150 [.int x1, .int x2, .int x3] σ Q ↔ PW sc 150 (zblk 150 0) 1 [some (.int x1), some (.int x2), some (.int x3)] [] σ Q := by
  unfold PC zini
  rw [zml_150]
  simp [zsl, Value.category]
theorem PW_c151 {x1 : Value} (h : st.length ≤ 4) : PW sc mt (.invokestatic 151 :: is) nb L (x1 :: st) σ Q ↔ PC sc 151 [x1] σ (fun r σ' => PW sc mt is nb L (r.toList ++ st) σ' Q) := PW_cs1 (by decide +kernel) (by decide +kernel) h
theorem zml_151 : zml 151 = 1 := by decide +kernel
theorem zret_151 : zret 151 = some .boolean := by decide +kernel
theorem PC_151 {x1 : Int32} : PC sc 151 [.int x1] σ Q ↔ PW sc 151 (zblk 151 0) 1 [some (.int x1)] [] σ Q := by
  unfold PC zini
  rw [zml_151]
  simp [zsl, Value.category]
theorem PW_c152 {x1 : Value} (h : st.length ≤ 4) : PW sc mt (.invokevirtual 152 :: is) nb L (x1 :: .ref 12 :: st) σ Q ↔ PC sc 152 [.ref 12, x1] σ (fun r σ' => PW sc mt is nb L (r.toList ++ st) σ' Q) := PW_cv1 (by decide +kernel) (by decide +kernel) (by decide +kernel) h
theorem zml_152 : zml 152 = 2 := by decide +kernel
theorem zret_152 : zret 152 = some .boolean := by decide +kernel
theorem PC_152 {x1 : Int32} : PC sc 152 [.ref 12, .int x1] σ Q ↔ PW sc 152 (zblk 152 0) 1 [some (.ref 12), some (.int x1)] [] σ Q := by
  unfold PC zini
  rw [zml_152]
  simp [zsl, Value.category]
theorem PW_c153 {x1 : Value} (h : st.length ≤ 4) : PW sc mt (.invokevirtual 153 :: is) nb L (x1 :: .ref 12 :: st) σ Q ↔ PC sc 153 [.ref 12, x1] σ (fun r σ' => PW sc mt is nb L (r.toList ++ st) σ' Q) := PW_cv1 (by decide +kernel) (by decide +kernel) (by decide +kernel) h
theorem zml_153 : zml 153 = 2 := by decide +kernel
theorem zret_153 : zret 153 = some .boolean := by decide +kernel
theorem PC_153 {x1 : Int32} : PC sc 153 [.ref 12, .int x1] σ Q ↔ PW sc 153 (zblk 153 0) 1 [some (.ref 12), some (.int x1)] [] σ Q := by
  unfold PC zini
  rw [zml_153]
  simp [zsl, Value.category]
theorem PW_c154 {x1 x2 x3 : Value} (h : st.length ≤ 4) : PW sc mt (.invokevirtual 154 :: is) nb L (x3 :: x2 :: x1 :: .ref 12 :: st) σ Q ↔ PC sc 154 [.ref 12, x1, x2, x3] σ (fun r σ' => PW sc mt is nb L (r.toList ++ st) σ' Q) := PW_cv3 (by decide +kernel) (by decide +kernel) (by decide +kernel) h
theorem zml_154 : zml 154 = 4 := by decide +kernel
theorem zret_154 : zret 154 = some .int := by decide +kernel
theorem PC_154 {x1 : Int32} {x2 : Int32} {x3 : Int32} : PC sc 154 [.ref 12, .int x1, .int x2, .int x3] σ Q ↔ PW sc 154 (zblk 154 0) 1 [some (.ref 12), some (.int x1), some (.int x2), some (.int x3)] [] σ Q := by
  unfold PC zini
  rw [zml_154]
  simp [zsl, Value.category]
theorem PW_c155 {x1 : Value} (h : st.length ≤ 4) : PW sc mt (.invokevirtual 155 :: is) nb L (x1 :: .ref 12 :: st) σ Q ↔ PC sc 155 [.ref 12, x1] σ (fun r σ' => PW sc mt is nb L (r.toList ++ st) σ' Q) := PW_cv1 (by decide +kernel) (by decide +kernel) (by decide +kernel) h
theorem zml_155 : zml 155 = 2 := by decide +kernel
theorem zret_155 : zret 155 = some .int := by decide +kernel
theorem PC_155 {x1 : Int32} : PC sc 155 [.ref 12, .int x1] σ Q ↔ PW sc 155 (zblk 155 0) 1 [some (.ref 12), some (.int x1)] [] σ Q := by
  unfold PC zini
  rw [zml_155]
  simp [zsl, Value.category]
theorem PW_c156 {x1 x2 x3 : Value} (h : st.length ≤ 4) : PW sc mt (.invokevirtual 156 :: is) nb L (x3 :: x2 :: x1 :: .ref 12 :: st) σ Q ↔ PC sc 156 [.ref 12, x1, x2, x3] σ (fun r σ' => PW sc mt is nb L (r.toList ++ st) σ' Q) := PW_cv3 (by decide +kernel) (by decide +kernel) (by decide +kernel) h
theorem zml_156 : zml 156 = 5 := by decide +kernel
theorem zret_156 : zret 156 = some .int := by decide +kernel
theorem PC_156 {x1 : Int32} {x2 : Int32} {x3 : Int32} : PC sc 156 [.ref 12, .int x1, .int x2, .int x3] σ Q ↔ PW sc 156 (zblk 156 0) 1 [some (.ref 12), some (.int x1), some (.int x2), some (.int x3), none] [] σ Q := by
  unfold PC zini
  rw [zml_156]
  simp [zsl, Value.category]
theorem PW_c157 {x1 x2 x3 : Value} (h : st.length ≤ 4) : PW sc mt (.invokevirtual 157 :: is) nb L (x3 :: x2 :: x1 :: .ref 12 :: st) σ Q ↔ PC sc 157 [.ref 12, x1, x2, x3] σ (fun r σ' => PW sc mt is nb L (r.toList ++ st) σ' Q) := PW_cv3 (by decide +kernel) (by decide +kernel) (by decide +kernel) h
theorem zml_157 : zml 157 = 5 := by decide +kernel
theorem zret_157 : zret 157 = some .int := by decide +kernel
theorem PC_157 {x1 : Int32} {x2 : Int32} {x3 : Int32} : PC sc 157 [.ref 12, .int x1, .int x2, .int x3] σ Q ↔ PW sc 157 (zblk 157 0) 1 [some (.ref 12), some (.int x1), some (.int x2), some (.int x3), none] [] σ Q := by
  unfold PC zini
  rw [zml_157]
  simp [zsl, Value.category]
theorem PW_c158 {x1 x2 : Value} (h : st.length ≤ 4) : PW sc mt (.invokevirtual 158 :: is) nb L (x2 :: x1 :: .ref 12 :: st) σ Q ↔ PC sc 158 [.ref 12, x1, x2] σ (fun r σ' => PW sc mt is nb L (r.toList ++ st) σ' Q) := PW_cv2 (by decide +kernel) (by decide +kernel) (by decide +kernel) h
theorem zml_158 : zml 158 = 4 := by decide +kernel
theorem zret_158 : zret 158 = some .boolean := by decide +kernel
theorem PC_158 {x1 : Int32} {x2 : Int32} : PC sc 158 [.ref 12, .int x1, .int x2] σ Q ↔ PW sc 158 (zblk 158 0) 1 [some (.ref 12), some (.int x1), some (.int x2), none] [] σ Q := by
  unfold PC zini
  rw [zml_158]
  simp [zsl, Value.category]
theorem PW_c159 {x1 x2 : Value} (h : st.length ≤ 4) : PW sc mt (.invokevirtual 159 :: is) nb L (x2 :: x1 :: .ref 12 :: st) σ Q ↔ PC sc 159 [.ref 12, x1, x2] σ (fun r σ' => PW sc mt is nb L (r.toList ++ st) σ' Q) := PW_cv2 (by decide +kernel) (by decide +kernel) (by decide +kernel) h
theorem zml_159 : zml 159 = 3 := by decide +kernel
theorem zret_159 : zret 159 = some .boolean := by decide +kernel
theorem PC_159 {x1 : Int32} {x2 : Int32} : PC sc 159 [.ref 12, .int x1, .int x2] σ Q ↔ PW sc 159 (zblk 159 0) 1 [some (.ref 12), some (.int x1), some (.int x2)] [] σ Q := by
  unfold PC zini
  rw [zml_159]
  simp [zsl, Value.category]
theorem PW_c160 {x1 x2 : Value} (h : st.length ≤ 4) : PW sc mt (.invokevirtual 160 :: is) nb L (x2 :: x1 :: .ref 12 :: st) σ Q ↔ PC sc 160 [.ref 12, x1, x2] σ (fun r σ' => PW sc mt is nb L (r.toList ++ st) σ' Q) := PW_cv2 (by decide +kernel) (by decide +kernel) (by decide +kernel) h
theorem zml_160 : zml 160 = 3 := by decide +kernel
theorem zret_160 : zret 160 = some .int := by decide +kernel
theorem PC_160 {x1 : Int32} {x2 : Int32} : PC sc 160 [.ref 12, .int x1, .int x2] σ Q ↔ PW sc 160 (zblk 160 0) 1 [some (.ref 12), some (.int x1), some (.int x2)] [] σ Q := by
  unfold PC zini
  rw [zml_160]
  simp [zsl, Value.category]
theorem PW_c161 {x1 x2 x3 : Value} (h : st.length ≤ 4) : PW sc mt (.invokestatic 161 :: is) nb L (x3 :: x2 :: x1 :: st) σ Q ↔ PC sc 161 [x1, x2, x3] σ (fun r σ' => PW sc mt is nb L (r.toList ++ st) σ' Q) := PW_cs3 (by decide +kernel) (by decide +kernel) h
theorem zml_161 : zml 161 = 5 := by decide +kernel
theorem zret_161 : zret 161 = some .int := by decide +kernel
theorem PC_161 {x1 : Nat} {x2 : Int32} {x3 : Int32} : PC sc 161 [.ref x1, .int x2, .int x3] σ Q ↔ PW sc 161 (zblk 161 0) 1 [some (.ref x1), some (.int x2), some (.int x3), none, none] [] σ Q := by
  unfold PC zini
  rw [zml_161]
  simp [zsl, Value.category]
theorem PW_c162 {x1 x2 : Value} (h : st.length ≤ 4) : PW sc mt (.invokevirtual 162 :: is) nb L (x2 :: x1 :: .ref 12 :: st) σ Q ↔ PC sc 162 [.ref 12, x1, x2] σ (fun r σ' => PW sc mt is nb L (r.toList ++ st) σ' Q) := PW_cv2 (by decide +kernel) (by decide +kernel) (by decide +kernel) h
theorem zml_162 : zml 162 = 3 := by decide +kernel
theorem zret_162 : zret 162 = some .int := by decide +kernel
theorem PC_162 {x1 : Int32} {x2 : Int32} : PC sc 162 [.ref 12, .int x1, .int x2] σ Q ↔ PW sc 162 (zblk 162 0) 1 [some (.ref 12), some (.int x1), some (.int x2)] [] σ Q := by
  unfold PC zini
  rw [zml_162]
  simp [zsl, Value.category]
theorem PW_c163 {x1 x2 : Value} (h : st.length ≤ 4) : PW sc mt (.invokevirtual 163 :: is) nb L (x2 :: x1 :: .ref 12 :: st) σ Q ↔ PC sc 163 [.ref 12, x1, x2] σ (fun r σ' => PW sc mt is nb L (r.toList ++ st) σ' Q) := PW_cv2 (by decide +kernel) (by decide +kernel) (by decide +kernel) h
theorem zml_163 : zml 163 = 5 := by decide +kernel
theorem zret_163 : zret 163 = some .int := by decide +kernel
theorem PC_163 {x1 : Int32} {x2 : Int32} : PC sc 163 [.ref 12, .int x1, .int x2] σ Q ↔ PW sc 163 (zblk 163 0) 1 [some (.ref 12), some (.int x1), some (.int x2), none, none] [] σ Q := by
  unfold PC zini
  rw [zml_163]
  simp [zsl, Value.category]
theorem PW_c164 (h : st.length ≤ 4) : PW sc mt (.invokevirtual 164 :: is) nb L (.ref 12 :: st) σ Q ↔ PC sc 164 [.ref 12] σ (fun r σ' => PW sc mt is nb L (r.toList ++ st) σ' Q) := PW_cv0 (by decide +kernel) (by decide +kernel) (by decide +kernel) h
theorem zml_164 : zml 164 = 3 := by decide +kernel
theorem zret_164 : zret 164 = none := by decide +kernel
theorem PC_164  : PC sc 164 [.ref 12] σ Q ↔ PW sc 164 (zblk 164 0) 1 [some (.ref 12), none, none] [] σ Q := by
  unfold PC zini
  rw [zml_164]
  simp [zsl, Value.category]
theorem PW_c165 (h : st.length ≤ 4) : PW sc mt (.invokevirtual 165 :: is) nb L (.ref 12 :: st) σ Q ↔ PC sc 165 [.ref 12] σ (fun r σ' => PW sc mt is nb L (r.toList ++ st) σ' Q) := PW_cv0 (by decide +kernel) (by decide +kernel) (by decide +kernel) h
theorem zml_165 : zml 165 = 6 := by decide +kernel
theorem zret_165 : zret 165 = none := by decide +kernel
theorem PC_165  : PC sc 165 [.ref 12] σ Q ↔ PW sc 165 (zblk 165 0) 1 [some (.ref 12), none, none, none, none, none] [] σ Q := by
  unfold PC zini
  rw [zml_165]
  simp [zsl, Value.category]
theorem PW_c166 (h : st.length ≤ 4) : PW sc mt (.invokevirtual 166 :: is) nb L (.ref 12 :: st) σ Q ↔ PC sc 166 [.ref 12] σ (fun r σ' => PW sc mt is nb L (r.toList ++ st) σ' Q) := PW_cv0 (by decide +kernel) (by decide +kernel) (by decide +kernel) h
theorem zml_166 : zml 166 = 1 := by decide +kernel
theorem zret_166 : zret 166 = some .int := by decide +kernel
theorem PC_166  : PC sc 166 [.ref 12] σ Q ↔ PW sc 166 (zblk 166 0) 1 [some (.ref 12)] [] σ Q := by
  unfold PC zini
  rw [zml_166]
  simp [zsl, Value.category]
theorem PW_c167 (h : st.length ≤ 4) : PW sc mt (.invokevirtual 167 :: is) nb L (.ref 12 :: st) σ Q ↔ PC sc 167 [.ref 12] σ (fun r σ' => PW sc mt is nb L (r.toList ++ st) σ' Q) := PW_cv0 (by decide +kernel) (by decide +kernel) (by decide +kernel) h
theorem zml_167 : zml 167 = 5 := by decide +kernel
theorem zret_167 : zret 167 = none := by decide +kernel
theorem PC_167  : PC sc 167 [.ref 12] σ Q ↔ PW sc 167 (zblk 167 0) 1 [some (.ref 12), none, none, none, none] [] σ Q := by
  unfold PC zini
  rw [zml_167]
  simp [zsl, Value.category]
theorem PW_c168 {x1 x2 x3 : Value} (h : st.length ≤ 4) : PW sc mt (.invokevirtual 168 :: is) nb L (x3 :: x2 :: x1 :: .ref 12 :: st) σ Q ↔ PC sc 168 [.ref 12, x1, x2, x3] σ (fun r σ' => PW sc mt is nb L (r.toList ++ st) σ' Q) := PW_cv3 (by decide +kernel) (by decide +kernel) (by decide +kernel) h
theorem zml_168 : zml 168 = 5 := by decide +kernel
theorem zret_168 : zret 168 = some .boolean := by decide +kernel
theorem PC_168 {x1 : Int32} {x2 : Int32} {x3 : Int32} : PC sc 168 [.ref 12, .int x1, .int x2, .int x3] σ Q ↔ PW sc 168 (zblk 168 0) 1 [some (.ref 12), some (.int x1), some (.int x2), some (.int x3), none] [] σ Q := by
  unfold PC zini
  rw [zml_168]
  simp [zsl, Value.category]
theorem PW_c169 {x1 x2 : Value} (h : st.length ≤ 4) : PW sc mt (.invokevirtual 169 :: is) nb L (x2 :: x1 :: .ref 12 :: st) σ Q ↔ PC sc 169 [.ref 12, x1, x2] σ (fun r σ' => PW sc mt is nb L (r.toList ++ st) σ' Q) := PW_cv2 (by decide +kernel) (by decide +kernel) (by decide +kernel) h
theorem zml_169 : zml 169 = 3 := by decide +kernel
theorem zret_169 : zret 169 = some .boolean := by decide +kernel
theorem PC_169 {x1 : Int32} {x2 : Int32} : PC sc 169 [.ref 12, .int x1, .int x2] σ Q ↔ PW sc 169 (zblk 169 0) 1 [some (.ref 12), some (.int x1), some (.int x2)] [] σ Q := by
  unfold PC zini
  rw [zml_169]
  simp [zsl, Value.category]
theorem PW_c170 {x1 : Value} (h : st.length ≤ 4) : PW sc mt (.invokevirtual 170 :: is) nb L (x1 :: .ref 12 :: st) σ Q ↔ PC sc 170 [.ref 12, x1] σ (fun r σ' => PW sc mt is nb L (r.toList ++ st) σ' Q) := PW_cv1 (by decide +kernel) (by decide +kernel) (by decide +kernel) h
theorem zml_170 : zml 170 = 4 := by decide +kernel
theorem zret_170 : zret 170 = some .int := by decide +kernel
theorem PC_170 {x1 : Int32} : PC sc 170 [.ref 12, .int x1] σ Q ↔ PW sc 170 (zblk 170 0) 1 [some (.ref 12), some (.int x1), none, none] [] σ Q := by
  unfold PC zini
  rw [zml_170]
  simp [zsl, Value.category]
theorem PW_c171 (h : st.length ≤ 4) : PW sc mt (.invokevirtual 171 :: is) nb L (.ref 12 :: st) σ Q ↔ PC sc 171 [.ref 12] σ (fun r σ' => PW sc mt is nb L (r.toList ++ st) σ' Q) := PW_cv0 (by decide +kernel) (by decide +kernel) (by decide +kernel) h
theorem zml_171 : zml 171 = 5 := by decide +kernel
theorem zret_171 : zret 171 = none := by decide +kernel
theorem PC_171  : PC sc 171 [.ref 12] σ Q ↔ PW sc 171 (zblk 171 0) 1 [some (.ref 12), none, none, none, none] [] σ Q := by
  unfold PC zini
  rw [zml_171]
  simp [zsl, Value.category]
theorem PW_c172 {x1 x2 : Value} (h : st.length ≤ 4) : PW sc mt (.invokevirtual 172 :: is) nb L (x2 :: x1 :: .ref 12 :: st) σ Q ↔ PC sc 172 [.ref 12, x1, x2] σ (fun r σ' => PW sc mt is nb L (r.toList ++ st) σ' Q) := PW_cv2 (by decide +kernel) (by decide +kernel) (by decide +kernel) h
theorem zml_172 : zml 172 = 3 := by decide +kernel
theorem zret_172 : zret 172 = some .int := by decide +kernel
theorem PC_172 {x1 : Int32} {x2 : Int32} : PC sc 172 [.ref 12, .int x1, .int x2] σ Q ↔ PW sc 172 (zblk 172 0) 1 [some (.ref 12), some (.int x1), some (.int x2)] [] σ Q := by
  unfold PC zini
  rw [zml_172]
  simp [zsl, Value.category]
theorem PW_c173 {x1 x2 x3 x4 : Value} (h : st.length ≤ 4) : PW sc mt (.invokevirtual 173 :: is) nb L (x4 :: x3 :: x2 :: x1 :: .ref 12 :: st) σ Q ↔ PC sc 173 [.ref 12, x1, x2, x3, x4] σ (fun r σ' => PW sc mt is nb L (r.toList ++ st) σ' Q) := PW_cv4 (by decide +kernel) (by decide +kernel) (by decide +kernel) h
theorem zml_173 : zml 173 = 5 := by decide +kernel
theorem zret_173 : zret 173 = some .int := by decide +kernel
theorem PC_173 {x1 : Int32} {x2 : Int32} {x3 : Int32} {x4 : Int32} : PC sc 173 [.ref 12, .int x1, .int x2, .int x3, .int x4] σ Q ↔ PW sc 173 (zblk 173 0) 1 [some (.ref 12), some (.int x1), some (.int x2), some (.int x3), some (.int x4)] [] σ Q := by
  unfold PC zini
  rw [zml_173]
  simp [zsl, Value.category]
theorem PW_c174 {x1 : Value} (h : st.length ≤ 4) : PW sc mt (.invokestatic 174 :: is) nb L (x1 :: st) σ Q ↔ PC sc 174 [x1] σ (fun r σ' => PW sc mt is nb L (r.toList ++ st) σ' Q) := PW_cs1 (by decide +kernel) (by decide +kernel) h
theorem zml_174 : zml 174 = 1 := by decide +kernel
theorem zret_174 : zret 174 = some .boolean := by decide +kernel
theorem PC_174 {x1 : Int32} : PC sc 174 [.int x1] σ Q ↔ PW sc 174 (zblk 174 0) 1 [some (.int x1)] [] σ Q := by
  unfold PC zini
  rw [zml_174]
  simp [zsl, Value.category]
theorem PW_c175 {x1 : Value} (h : st.length ≤ 4) : PW sc mt (.invokestatic 175 :: is) nb L (x1 :: st) σ Q ↔ PC sc 175 [x1] σ (fun r σ' => PW sc mt is nb L (r.toList ++ st) σ' Q) := PW_cs1 (by decide +kernel) (by decide +kernel) h
theorem zml_175 : zml 175 = 1 := by decide +kernel
theorem zret_175 : zret 175 = some .boolean := by decide +kernel
theorem PC_175 {x1 : Int32} : PC sc 175 [.int x1] σ Q ↔ PW sc 175 (zblk 175 0) 1 [some (.int x1)] [] σ Q := by
  unfold PC zini
  rw [zml_175]
  simp [zsl, Value.category]
theorem PW_c176 {x1 x2 : Value} (h : st.length ≤ 4) : PW sc mt (.invokevirtual 176 :: is) nb L (x2 :: x1 :: .ref 12 :: st) σ Q ↔ PC sc 176 [.ref 12, x1, x2] σ (fun r σ' => PW sc mt is nb L (r.toList ++ st) σ' Q) := PW_cv2 (by decide +kernel) (by decide +kernel) (by decide +kernel) h
theorem zml_176 : zml 176 = 6 := by decide +kernel
theorem zret_176 : zret 176 = some .boolean := by decide +kernel
theorem PC_176 {x1 : Int32} {x2 : Int32} : PC sc 176 [.ref 12, .int x1, .int x2] σ Q ↔ PW sc 176 (zblk 176 0) 1 [some (.ref 12), some (.int x1), some (.int x2), none, none, none] [] σ Q := by
  unfold PC zini
  rw [zml_176]
  simp [zsl, Value.category]
theorem PW_c177 (h : st.length ≤ 4) : PW sc mt (.invokevirtual 177 :: is) nb L (.ref 12 :: st) σ Q ↔ PC sc 177 [.ref 12] σ (fun r σ' => PW sc mt is nb L (r.toList ++ st) σ' Q) := PW_cv0 (by decide +kernel) (by decide +kernel) (by decide +kernel) h
theorem zml_177 : zml 177 = 2 := by decide +kernel
theorem zret_177 : zret 177 = some .boolean := by decide +kernel
theorem PC_177  : PC sc 177 [.ref 12] σ Q ↔ PW sc 177 (zblk 177 0) 1 [some (.ref 12), none] [] σ Q := by
  unfold PC zini
  rw [zml_177]
  simp [zsl, Value.category]
theorem PW_c178 {x1 : Value} (h : st.length ≤ 4) : PW sc mt (.invokevirtual 178 :: is) nb L (x1 :: .ref 12 :: st) σ Q ↔ PC sc 178 [.ref 12, x1] σ (fun r σ' => PW sc mt is nb L (r.toList ++ st) σ' Q) := PW_cv1 (by decide +kernel) (by decide +kernel) (by decide +kernel) h
theorem zml_178 : zml 178 = 3 := by decide +kernel
theorem zret_178 : zret 178 = some .int := by decide +kernel
theorem PC_178 {x1 : Int32} : PC sc 178 [.ref 12, .int x1] σ Q ↔ PW sc 178 (zblk 178 0) 1 [some (.ref 12), some (.int x1), none] [] σ Q := by
  unfold PC zini
  rw [zml_178]
  simp [zsl, Value.category]
theorem PW_c179 {x1 x2 : Value} (h : st.length ≤ 4) : PW sc mt (.invokevirtual 179 :: is) nb L (x2 :: x1 :: .ref 12 :: st) σ Q ↔ PC sc 179 [.ref 12, x1, x2] σ (fun r σ' => PW sc mt is nb L (r.toList ++ st) σ' Q) := PW_cv2 (by decide +kernel) (by decide +kernel) (by decide +kernel) h
theorem zml_179 : zml 179 = 4 := by decide +kernel
theorem zret_179 : zret 179 = some .boolean := by decide +kernel
theorem PC_179 {x1 : Int32} {x2 : Int32} : PC sc 179 [.ref 12, .int x1, .int x2] σ Q ↔ PW sc 179 (zblk 179 0) 1 [some (.ref 12), some (.int x1), some (.int x2), none] [] σ Q := by
  unfold PC zini
  rw [zml_179]
  simp [zsl, Value.category]
theorem PW_c180 {x1 : Value} (h : st.length ≤ 4) : PW sc mt (.invokevirtual 180 :: is) nb L (x1 :: .ref 12 :: st) σ Q ↔ PC sc 180 [.ref 12, x1] σ (fun r σ' => PW sc mt is nb L (r.toList ++ st) σ' Q) := PW_cv1 (by decide +kernel) (by decide +kernel) (by decide +kernel) h
theorem zml_180 : zml 180 = 5 := by decide +kernel
theorem zret_180 : zret 180 = some .int := by decide +kernel
theorem PC_180 {x1 : Int32} : PC sc 180 [.ref 12, .int x1] σ Q ↔ PW sc 180 (zblk 180 0) 1 [some (.ref 12), some (.int x1), none, none, none] [] σ Q := by
  unfold PC zini
  rw [zml_180]
  simp [zsl, Value.category]
theorem PW_c181 {x1 x2 x3 : Value} (h : st.length ≤ 4) : PW sc mt (.invokevirtual 181 :: is) nb L (x3 :: x2 :: x1 :: .ref 12 :: st) σ Q ↔ PC sc 181 [.ref 12, x1, x2, x3] σ (fun r σ' => PW sc mt is nb L (r.toList ++ st) σ' Q) := PW_cv3 (by decide +kernel) (by decide +kernel) (by decide +kernel) h
theorem zml_181 : zml 181 = 5 := by decide +kernel
theorem zret_181 : zret 181 = some .int := by decide +kernel
theorem PC_181 {x1 : Int32} {x2 : Int32} {x3 : Int32} : PC sc 181 [.ref 12, .int x1, .int x2, .int x3] σ Q ↔ PW sc 181 (zblk 181 0) 1 [some (.ref 12), some (.int x1), some (.int x2), some (.int x3), none] [] σ Q := by
  unfold PC zini
  rw [zml_181]
  simp [zsl, Value.category]
theorem PW_c182 {x1 x2 x3 : Value} (h : st.length ≤ 4) : PW sc mt (.invokevirtual 182 :: is) nb L (x3 :: x2 :: x1 :: .ref 12 :: st) σ Q ↔ PC sc 182 [.ref 12, x1, x2, x3] σ (fun r σ' => PW sc mt is nb L (r.toList ++ st) σ' Q) := PW_cv3 (by decide +kernel) (by decide +kernel) (by decide +kernel) h
theorem zml_182 : zml 182 = 5 := by decide +kernel
theorem zret_182 : zret 182 = some .int := by decide +kernel
theorem PC_182 {x1 : Int32} {x2 : Int32} {x3 : Int32} : PC sc 182 [.ref 12, .int x1, .int x2, .int x3] σ Q ↔ PW sc 182 (zblk 182 0) 1 [some (.ref 12), some (.int x1), some (.int x2), some (.int x3), none] [] σ Q := by
  unfold PC zini
  rw [zml_182]
  simp [zsl, Value.category]
theorem PW_c183 {x1 x2 x3 x4 : Value} (h : st.length ≤ 4) : PW sc mt (.invokevirtual 183 :: is) nb L (x4 :: x3 :: x2 :: x1 :: .ref 12 :: st) σ Q ↔ PC sc 183 [.ref 12, x1, x2, x3, x4] σ (fun r σ' => PW sc mt is nb L (r.toList ++ st) σ' Q) := PW_cv4 (by decide +kernel) (by decide +kernel) (by decide +kernel) h
theorem zml_183 : zml 183 = 7 := by decide +kernel
theorem zret_183 : zret 183 = some .int := by decide +kernel
theorem PC_183 {x1 : Int32} {x2 : Int32} {x3 : Int32} {x4 : Int32} : PC sc 183 [.ref 12, .int x1, .int x2, .int x3, .int x4] σ Q ↔ PW sc 183 (zblk 183 0) 1 [some (.ref 12), some (.int x1), some (.int x2), some (.int x3), some (.int x4), none, none] [] σ Q := by
  unfold PC zini
  rw [zml_183]
  simp [zsl, Value.category]
theorem PW_c184 {x1 : Value} (h : st.length ≤ 4) : PW sc mt (.invokevirtual 184 :: is) nb L (x1 :: .ref 12 :: st) σ Q ↔ PC sc 184 [.ref 12, x1] σ (fun r σ' => PW sc mt is nb L (r.toList ++ st) σ' Q) := PW_cv1 (by decide +kernel) (by decide +kernel) (by decide +kernel) h
theorem zml_184 : zml 184 = 2 := by decide +kernel
theorem zret_184 : zret 184 = some .boolean := by decide +kernel
theorem PC_184 {x1 : Int32} : PC sc 184 [.ref 12, .int x1] σ Q ↔ PW sc 184 (zblk 184 0) 1 [some (.ref 12), some (.int x1)] [] σ Q := by
  unfold PC zini
  rw [zml_184]
  simp [zsl, Value.category]
theorem PW_c185 {x1 x2 x3 x4 : Value} (h : st.length ≤ 4) : PW sc mt (.invokevirtual 185 :: is) nb L (x4 :: x3 :: x2 :: x1 :: .ref 12 :: st) σ Q ↔ PC sc 185 [.ref 12, x1, x2, x3, x4] σ (fun r σ' => PW sc mt is nb L (r.toList ++ st) σ' Q) := PW_cv4 (by decide +kernel) (by decide +kernel) (by decide +kernel) h
theorem zml_185 : zml 185 = 6 := by decide +kernel
theorem zret_185 : zret 185 = some .boolean := by decide +kernel
theorem PC_185 {x1 : Int32} {x2 : Int32} {x3 : Int32} {x4 : Int32} : PC sc 185 [.ref 12, .int x1, .int x2, .int x3, .int x4] σ Q ↔ PW sc 185 (zblk 185 0) 1 [some (.ref 12), some (.int x1), some (.int x2), some (.int x3), some (.int x4), none] [] σ Q := by
  unfold PC zini
  rw [zml_185]
  simp [zsl, Value.category]
theorem PW_c186 {x1 x2 x3 x4 : Value} (h : st.length ≤ 4) : PW sc mt (.invokevirtual 186 :: is) nb L (x4 :: x3 :: x2 :: x1 :: .ref 12 :: st) σ Q ↔ PC sc 186 [.ref 12, x1, x2, x3, x4] σ (fun r σ' => PW sc mt is nb L (r.toList ++ st) σ' Q) := PW_cv4 (by decide +kernel) (by decide +kernel) (by decide +kernel) h
theorem zml_186 : zml 186 = 5 := by decide +kernel
theorem zret_186 : zret 186 = some .int := by decide +kernel
theorem PC_186 {x1 : Int32} {x2 : Int32} {x3 : Int32} {x4 : Int32} : PC sc 186 [.ref 12, .int x1, .int x2, .int x3, .int x4] σ Q ↔ PW sc 186 (zblk 186 0) 1 [some (.ref 12), some (.int x1), some (.int x2), some (.int x3), some (.int x4)] [] σ Q := by
  unfold PC zini
  rw [zml_186]
  simp [zsl, Value.category]
theorem PW_c187 {x1 x2 : Value} (h : st.length ≤ 4) : PW sc mt (.invokevirtual 187 :: is) nb L (x2 :: x1 :: .ref 12 :: st) σ Q ↔ PC sc 187 [.ref 12, x1, x2] σ (fun r σ' => PW sc mt is nb L (r.toList ++ st) σ' Q) := PW_cv2 (by decide +kernel) (by decide +kernel) (by decide +kernel) h
theorem zml_187 : zml 187 = 4 := by decide +kernel
theorem zret_187 : zret 187 = some .int := by decide +kernel
theorem PC_187 {x1 : Int32} {x2 : Int32} : PC sc 187 [.ref 12, .int x1, .int x2] σ Q ↔ PW sc 187 (zblk 187 0) 1 [some (.ref 12), some (.int x1), some (.int x2), none] [] σ Q := by
  unfold PC zini
  rw [zml_187]
  simp [zsl, Value.category]
theorem PW_c188 {x1 x2 : Value} (h : st.length ≤ 4) : PW sc mt (.invokevirtual 188 :: is) nb L (x2 :: x1 :: .ref 12 :: st) σ Q ↔ PC sc 188 [.ref 12, x1, x2] σ (fun r σ' => PW sc mt is nb L (r.toList ++ st) σ' Q) := PW_cv2 (by decide +kernel) (by decide +kernel) (by decide +kernel) h
theorem zml_188 : zml 188 = 3 := by decide +kernel
theorem zret_188 : zret 188 = some .int := by decide +kernel
theorem PC_188 {x1 : Int32} {x2 : Int32} : PC sc 188 [.ref 12, .int x1, .int x2] σ Q ↔ PW sc 188 (zblk 188 0) 1 [some (.ref 12), some (.int x1), some (.int x2)] [] σ Q := by
  unfold PC zini
  rw [zml_188]
  simp [zsl, Value.category]
theorem PW_c189 {x1 : Value} (h : st.length ≤ 4) : PW sc mt (.invokevirtual 189 :: is) nb L (x1 :: .ref 12 :: st) σ Q ↔ PC sc 189 [.ref 12, x1] σ (fun r σ' => PW sc mt is nb L (r.toList ++ st) σ' Q) := PW_cv1 (by decide +kernel) (by decide +kernel) (by decide +kernel) h
theorem zml_189 : zml 189 = 4 := by decide +kernel
theorem zret_189 : zret 189 = some .int := by decide +kernel
theorem PC_189 {x1 : Int32} : PC sc 189 [.ref 12, .int x1] σ Q ↔ PW sc 189 (zblk 189 0) 1 [some (.ref 12), some (.int x1), none, none] [] σ Q := by
  unfold PC zini
  rw [zml_189]
  simp [zsl, Value.category]
theorem PW_c190 {x1 : Value} (h : st.length ≤ 4) : PW sc mt (.invokevirtual 190 :: is) nb L (x1 :: .ref 12 :: st) σ Q ↔ PC sc 190 [.ref 12, x1] σ (fun r σ' => PW sc mt is nb L (r.toList ++ st) σ' Q) := PW_cv1 (by decide +kernel) (by decide +kernel) (by decide +kernel) h
theorem zml_190 : zml 190 = 3 := by decide +kernel
theorem zret_190 : zret 190 = some .int := by decide +kernel
theorem PC_190 {x1 : Int32} : PC sc 190 [.ref 12, .int x1] σ Q ↔ PW sc 190 (zblk 190 0) 1 [some (.ref 12), some (.int x1), none] [] σ Q := by
  unfold PC zini
  rw [zml_190]
  simp [zsl, Value.category]
theorem PW_c191 {x1 x2 : Value} (h : st.length ≤ 4) : PW sc mt (.invokevirtual 191 :: is) nb L (x2 :: x1 :: .ref 12 :: st) σ Q ↔ PC sc 191 [.ref 12, x1, x2] σ (fun r σ' => PW sc mt is nb L (r.toList ++ st) σ' Q) := PW_cv2 (by decide +kernel) (by decide +kernel) (by decide +kernel) h
theorem zml_191 : zml 191 = 3 := by decide +kernel
theorem zret_191 : zret 191 = some .int := by decide +kernel
theorem PC_191 {x1 : Int32} {x2 : Int32} : PC sc 191 [.ref 12, .int x1, .int x2] σ Q ↔ PW sc 191 (zblk 191 0) 1 [some (.ref 12), some (.int x1), some (.int x2)] [] σ Q := by
  unfold PC zini
  rw [zml_191]
  simp [zsl, Value.category]
theorem PW_c192 {x1 x2 x3 : Value} (h : st.length ≤ 4) : PW sc mt (.invokevirtual 192 :: is) nb L (x3 :: x2 :: x1 :: .ref 12 :: st) σ Q ↔ PC sc 192 [.ref 12, x1, x2, x3] σ (fun r σ' => PW sc mt is nb L (r.toList ++ st) σ' Q) := PW_cv3 (by decide +kernel) (by decide +kernel) (by decide +kernel) h
theorem zml_192 : zml 192 = 5 := by decide +kernel
theorem zret_192 : zret 192 = some .int := by decide +kernel
theorem PC_192 {x1 : Int32} {x2 : Int32} {x3 : Int32} : PC sc 192 [.ref 12, .int x1, .int x2, .int x3] σ Q ↔ PW sc 192 (zblk 192 0) 1 [some (.ref 12), some (.int x1), some (.int x2), some (.int x3), none] [] σ Q := by
  unfold PC zini
  rw [zml_192]
  simp [zsl, Value.category]
theorem PW_c193 {x1 x2 x3 : Value} (h : st.length ≤ 4) : PW sc mt (.invokevirtual 193 :: is) nb L (x3 :: x2 :: x1 :: .ref 12 :: st) σ Q ↔ PC sc 193 [.ref 12, x1, x2, x3] σ (fun r σ' => PW sc mt is nb L (r.toList ++ st) σ' Q) := PW_cv3 (by decide +kernel) (by decide +kernel) (by decide +kernel) h
theorem zml_193 : zml 193 = 4 := by decide +kernel
theorem zret_193 : zret 193 = some .int := by decide +kernel
theorem PC_193 {x1 : Int32} {x2 : Int32} {x3 : Int32} : PC sc 193 [.ref 12, .int x1, .int x2, .int x3] σ Q ↔ PW sc 193 (zblk 193 0) 1 [some (.ref 12), some (.int x1), some (.int x2), some (.int x3)] [] σ Q := by
  unfold PC zini
  rw [zml_193]
  simp [zsl, Value.category]
theorem PW_c194 {x1 x2 x3 : Value} (h : st.length ≤ 4) : PW sc mt (.invokevirtual 194 :: is) nb L (x3 :: x2 :: x1 :: .ref 12 :: st) σ Q ↔ PC sc 194 [.ref 12, x1, x2, x3] σ (fun r σ' => PW sc mt is nb L (r.toList ++ st) σ' Q) := PW_cv3 (by decide +kernel) (by decide +kernel) (by decide +kernel) h
theorem zml_194 : zml 194 = 5 := by decide +kernel
theorem zret_194 : zret 194 = some .int := by decide +kernel
theorem PC_194 {x1 : Int32} {x2 : Int32} {x3 : Int32} : PC sc 194 [.ref 12, .int x1, .int x2, .int x3] σ Q ↔ PW sc 194 (zblk 194 0) 1 [some (.ref 12), some (.int x1), some (.int x2), some (.int x3), none] [] σ Q := by
  unfold PC zini
  rw [zml_194]
  simp [zsl, Value.category]
theorem PW_c195 {x1 x2 : Value} (h : st.length ≤ 4) : PW sc mt (.invokevirtual 195 :: is) nb L (x2 :: x1 :: .ref 12 :: st) σ Q ↔ PC sc 195 [.ref 12, x1, x2] σ (fun r σ' => PW sc mt is nb L (r.toList ++ st) σ' Q) := PW_cv2 (by decide +kernel) (by decide +kernel) (by decide +kernel) h
theorem zml_195 : zml 195 = 5 := by decide +kernel
theorem zret_195 : zret 195 = some .boolean := by decide +kernel
theorem PC_195 {x1 : Int32} {x2 : Int32} : PC sc 195 [.ref 12, .int x1, .int x2] σ Q ↔ PW sc 195 (zblk 195 0) 1 [some (.ref 12), some (.int x1), some (.int x2), none, none] [] σ Q := by
  unfold PC zini
  rw [zml_195]
  simp [zsl, Value.category]
theorem PW_c196 {x1 x2 x3 : Value} (h : st.length ≤ 4) : PW sc mt (.invokevirtual 196 :: is) nb L (x3 :: x2 :: x1 :: .ref 12 :: st) σ Q ↔ PC sc 196 [.ref 12, x1, x2, x3] σ (fun r σ' => PW sc mt is nb L (r.toList ++ st) σ' Q) := PW_cv3 (by decide +kernel) (by decide +kernel) (by decide +kernel) h
theorem zml_196 : zml 196 = 4 := by decide +kernel
theorem zret_196 : zret 196 = some .int := by decide +kernel
theorem PC_196 {x1 : Int32} {x2 : Int32} {x3 : Int32} : PC sc 196 [.ref 12, .int x1, .int x2, .int x3] σ Q ↔ PW sc 196 (zblk 196 0) 1 [some (.ref 12), some (.int x1), some (.int x2), some (.int x3)] [] σ Q := by
  unfold PC zini
  rw [zml_196]
  simp [zsl, Value.category]
theorem PW_c197 {x1 x2 : Value} (h : st.length ≤ 4) : PW sc mt (.invokevirtual 197 :: is) nb L (x2 :: x1 :: .ref 12 :: st) σ Q ↔ PC sc 197 [.ref 12, x1, x2] σ (fun r σ' => PW sc mt is nb L (r.toList ++ st) σ' Q) := PW_cv2 (by decide +kernel) (by decide +kernel) (by decide +kernel) h
theorem zml_197 : zml 197 = 4 := by decide +kernel
theorem zret_197 : zret 197 = some .int := by decide +kernel
theorem PC_197 {x1 : Int32} {x2 : Int32} : PC sc 197 [.ref 12, .int x1, .int x2] σ Q ↔ PW sc 197 (zblk 197 0) 1 [some (.ref 12), some (.int x1), some (.int x2), none] [] σ Q := by
  unfold PC zini
  rw [zml_197]
  simp [zsl, Value.category]
theorem PW_c198 {x1 : Value} (h : st.length ≤ 4) : PW sc mt (.invokevirtual 198 :: is) nb L (x1 :: .ref 12 :: st) σ Q ↔ PC sc 198 [.ref 12, x1] σ (fun r σ' => PW sc mt is nb L (r.toList ++ st) σ' Q) := PW_cv1 (by decide +kernel) (by decide +kernel) (by decide +kernel) h
theorem zml_198 : zml 198 = 6 := by decide +kernel
theorem zret_198 : zret 198 = some .int := by decide +kernel
theorem PC_198 {x1 : Int32} : PC sc 198 [.ref 12, .int x1] σ Q ↔ PW sc 198 (zblk 198 0) 1 [some (.ref 12), some (.int x1), none, none, none, none] [] σ Q := by
  unfold PC zini
  rw [zml_198]
  simp [zsl, Value.category]
theorem PW_c199 {x1 : Value} (h : st.length ≤ 4) : PW sc mt (.invokestatic 199 :: is) nb L (x1 :: st) σ Q ↔ PC sc 199 [x1] σ (fun r σ' => PW sc mt is nb L (r.toList ++ st) σ' Q) := PW_cs1 (by decide +kernel) (by decide +kernel) h
theorem zml_199 : zml 199 = 3 := by decide +kernel
theorem zret_199 : zret 199 = some .int := by decide +kernel
theorem PC_199 {x1 : Int32} : PC sc 199 [.int x1] σ Q ↔ PW sc 199 (zblk 199 0) 1 [some (.int x1), none, none] [] σ Q := by
  unfold PC zini
  rw [zml_199]
  simp [zsl, Value.category]
theorem PW_c200 {x1 x2 : Value} (h : st.length ≤ 4) : PW sc mt (.invokevirtual 200 :: is) nb L (x2 :: x1 :: .ref 12 :: st) σ Q ↔ PC sc 200 [.ref 12, x1, x2] σ (fun r σ' => PW sc mt is nb L (r.toList ++ st) σ' Q) := PW_cv2 (by decide +kernel) (by decide +kernel) (by decide +kernel) h
theorem zml_200 : zml 200 = 11 := by decide +kernel
theorem zret_200 : zret 200 = some .int := by decide +kernel
theorem PC_200 {x1 : Int32} {x2 : Int32} : PC sc 200 [.ref 12, .int x1, .int x2] σ Q ↔ PW sc 200 (zblk 200 0) 1 [some (.ref 12), some (.int x1), some (.int x2), none, none, none, none, none, none, none, none] [] σ Q := by
  unfold PC zini
  rw [zml_200]
  simp [zsl, Value.category]
theorem PW_c201 {x1 x2 x3 x4 x5 : Value} (h : st.length ≤ 4) : PW sc mt (.invokevirtual 201 :: is) nb L (x5 :: x4 :: x3 :: x2 :: x1 :: .ref 12 :: st) σ Q ↔ PC sc 201 [.ref 12, x1, x2, x3, x4, x5] σ (fun r σ' => PW sc mt is nb L (r.toList ++ st) σ' Q) := PW_cv5 (by decide +kernel) (by decide +kernel) (by decide +kernel) h
theorem zml_201 : zml 201 = 12 := by decide +kernel
theorem zret_201 : zret 201 = some .int := by decide +kernel
theorem PC_201 {x1 : Int32} {x2 : Int32} {x3 : Int32} {x4 : Int32} {x5 : Int32} : PC sc 201 [.ref 12, .int x1, .int x2, .int x3, .int x4, .int x5] σ Q ↔ PW sc 201 (zblk 201 0) 1 [some (.ref 12), some (.int x1), some (.int x2), some (.int x3), some (.int x4), some (.int x5), none, none, none, none, none, none] [] σ Q := by
  unfold PC zini
  rw [zml_201]
  simp [zsl, Value.category]
theorem PW_c202 {x1 : Value} (h : st.length ≤ 4) : PW sc mt (.invokestatic 202 :: is) nb L (x1 :: st) σ Q ↔ PC sc 202 [x1] σ (fun r σ' => PW sc mt is nb L (r.toList ++ st) σ' Q) := PW_cs1 (by decide +kernel) (by decide +kernel) h
theorem zml_202 : zml 202 = 1 := by decide +kernel
theorem zret_202 : zret 202 = some .boolean := by decide +kernel
theorem PC_202 {x1 : Int32} : PC sc 202 [.int x1] σ Q ↔ PW sc 202 (zblk 202 0) 1 [some (.int x1)] [] σ Q := by
  unfold PC zini
  rw [zml_202]
  simp [zsl, Value.category]
theorem PW_c203 {x1 x2 x3 x4 : Value} (h : st.length ≤ 4) : PW sc mt (.invokevirtual 203 :: is) nb L (x4 :: x3 :: x2 :: x1 :: .ref 12 :: st) σ Q ↔ PC sc 203 [.ref 12, x1, x2, x3, x4] σ (fun r σ' => PW sc mt is nb L (r.toList ++ st) σ' Q) := PW_cv4 (by decide +kernel) (by decide +kernel) (by decide +kernel) h
theorem zml_203 : zml 203 = 5 := by decide +kernel
theorem zret_203 : zret 203 = some .int := by decide +kernel
theorem PC_203 {x1 : Int32} {x2 : Int32} {x3 : Int32} {x4 : Int32} : PC sc 203 [.ref 12, .int x1, .int x2, .int x3, .int x4] σ Q ↔ PW sc 203 (zblk 203 0) 1 [some (.ref 12), some (.int x1), some (.int x2), some (.int x3), some (.int x4)] [] σ Q := by
  unfold PC zini
  rw [zml_203]
  simp [zsl, Value.category]
theorem PW_c204 {x1 x2 x3 : Value} (h : st.length ≤ 4) : PW sc mt (.invokevirtual 204 :: is) nb L (x3 :: x2 :: x1 :: .ref 12 :: st) σ Q ↔ PC sc 204 [.ref 12, x1, x2, x3] σ (fun r σ' => PW sc mt is nb L (r.toList ++ st) σ' Q) := PW_cv3 (by decide +kernel) (by decide +kernel) (by decide +kernel) h
theorem zml_204 : zml 204 = 4 := by decide +kernel
theorem zret_204 : zret 204 = some .boolean := by decide +kernel
theorem PC_204 {x1 : Int32} {x2 : Int32} {x3 : Int32} : PC sc 204 [.ref 12, .int x1, .int x2, .int x3] σ Q ↔ PW sc 204 (zblk 204 0) 1 [some (.ref 12), some (.int x1), some (.int x2), some (.int x3)] [] σ Q := by
  unfold PC zini
  rw [zml_204]
  simp [zsl, Value.category]
theorem PW_c205 {x1 x2 : Value} (h : st.length ≤ 4) : PW sc mt (.invokevirtual 205 :: is) nb L (x2 :: x1 :: .ref 12 :: st) σ Q ↔ PC sc 205 [.ref 12, x1, x2] σ (fun r σ' => PW sc mt is nb L (r.toList ++ st) σ' Q) := PW_cv2 (by decide +kernel) (by decide +kernel) (by decide +kernel) h
theorem zml_205 : zml 205 = 4 := by decide +kernel
theorem zret_205 : zret 205 = some .boolean := by decide +kernel
theorem PC_205 {x1 : Int32} {x2 : Int32} : PC sc 205 [.ref 12, .int x1, .int x2] σ Q ↔ PW sc 205 (zblk 205 0) 1 [some (.ref 12), some (.int x1), some (.int x2), none] [] σ Q := by
  unfold PC zini
  rw [zml_205]
  simp [zsl, Value.category]
theorem PW_c206 {x1 : Value} (h : st.length ≤ 4) : PW sc mt (.invokevirtual 206 :: is) nb L (x1 :: .ref 12 :: st) σ Q ↔ PC sc 206 [.ref 12, x1] σ (fun r σ' => PW sc mt is nb L (r.toList ++ st) σ' Q) := PW_cv1 (by decide +kernel) (by decide +kernel) (by decide +kernel) h
theorem zml_206 : zml 206 = 3 := by decide +kernel
theorem zret_206 : zret 206 = none := by decide +kernel
theorem PC_206 {x1 : Int32} : PC sc 206 [.ref 12, .int x1] σ Q ↔ PW sc 206 (zblk 206 0) 1 [some (.ref 12), some (.int x1), none] [] σ Q := by
  unfold PC zini
  rw [zml_206]
  simp [zsl, Value.category]
theorem PW_c207 {x1 x2 : Value} (h : st.length ≤ 4) : PW sc mt (.invokevirtual 207 :: is) nb L (x2 :: x1 :: .ref 12 :: st) σ Q ↔ PC sc 207 [.ref 12, x1, x2] σ (fun r σ' => PW sc mt is nb L (r.toList ++ st) σ' Q) := PW_cv2 (by decide +kernel) (by decide +kernel) (by decide +kernel) h
theorem zml_207 : zml 207 = 3 := by decide +kernel
theorem zret_207 : zret 207 = some .boolean := by decide +kernel
theorem PC_207 {x1 : Int32} {x2 : Int32} : PC sc 207 [.ref 12, .int x1, .int x2] σ Q ↔ PW sc 207 (zblk 207 0) 1 [some (.ref 12), some (.int x1), some (.int x2)] [] σ Q := by
  unfold PC zini
  rw [zml_207]
  simp [zsl, Value.category]
theorem PW_c208 {x1 x2 : Value} (h : st.length ≤ 4) : PW sc mt (.invokevirtual 208 :: is) nb L (x2 :: x1 :: .ref 12 :: st) σ Q ↔ PC sc 208 [.ref 12, x1, x2] σ (fun r σ' => PW sc mt is nb L (r.toList ++ st) σ' Q) := PW_cv2 (by decide +kernel) (by decide +kernel) (by decide +kernel) h
theorem zml_208 : zml 208 = 5 := by decide +kernel
theorem zret_208 : zret 208 = some .int := by decide +kernel
theorem PC_208 {x1 : Int32} {x2 : Int32} : PC sc 208 [.ref 12, .int x1, .int x2] σ Q ↔ PW sc 208 (zblk 208 0) 1 [some (.ref 12), some (.int x1), some (.int x2), none, none] [] σ Q := by
  unfold PC zini
  rw [zml_208]
  simp [zsl, Value.category]
theorem PW_c209 {x1 : Value} (h : st.length ≤ 4) : PW sc mt (.invokevirtual 209 :: is) nb L (x1 :: .ref 12 :: st) σ Q ↔ PC sc 209 [.ref 12, x1] σ (fun r σ' => PW sc mt is nb L (r.toList ++ st) σ' Q) := PW_cv1 (by decide +kernel) (by decide +kernel) (by decide +kernel) h
theorem zml_209 : zml 209 = 6 := by decide +kernel
theorem zret_209 : zret 209 = some .int := by decide +kernel
theorem PC_209 {x1 : Int32} : PC sc 209 [.ref 12, .int x1] σ Q ↔ PW sc 209 (zblk 209 0) 1 [some (.ref 12), some (.int x1), none, none, none, none] [] σ Q := by
  unfold PC zini
  rw [zml_209]
  simp [zsl, Value.category]
theorem PW_c210 {x1 x2 : Value} (h : st.length ≤ 4) : PW sc mt (.invokevirtual 210 :: is) nb L (x2 :: x1 :: .ref 12 :: st) σ Q ↔ PC sc 210 [.ref 12, x1, x2] σ (fun r σ' => PW sc mt is nb L (r.toList ++ st) σ' Q) := PW_cv2 (by decide +kernel) (by decide +kernel) (by decide +kernel) h
theorem zml_210 : zml 210 = 3 := by decide +kernel
theorem zret_210 : zret 210 = some .int := by decide +kernel
theorem PC_210 {x1 : Int32} {x2 : Int32} : PC sc 210 [.ref 12, .int x1, .int x2] σ Q ↔ PW sc 210 (zblk 210 0) 1 [some (.ref 12), some (.int x1), some (.int x2)] [] σ Q := by
  unfold PC zini
  rw [zml_210]
  simp [zsl, Value.category]
theorem PW_c211 {x1 x2 x3 : Value} (h : st.length ≤ 4) : PW sc mt (.invokevirtual 211 :: is) nb L (x3 :: x2 :: x1 :: .ref 12 :: st) σ Q ↔ PC sc 211 [.ref 12, x1, x2, x3] σ (fun r σ' => PW sc mt is nb L (r.toList ++ st) σ' Q) := PW_cv3 (by decide +kernel) (by decide +kernel) (by decide +kernel) h
theorem zml_211 : zml 211 = 4 := by decide +kernel
theorem zret_211 : zret 211 = some .int := by decide +kernel
theorem PC_211 {x1 : Int32} {x2 : Int32} {x3 : Int32} : PC sc 211 [.ref 12, .int x1, .int x2, .int x3] σ Q ↔ PW sc 211 (zblk 211 0) 1 [some (.ref 12), some (.int x1), some (.int x2), some (.int x3)] [] σ Q := by
  unfold PC zini
  rw [zml_211]
  simp [zsl, Value.category]
theorem PW_c212 {x1 x2 x3 : Value} (h : st.length ≤ 4) : PW sc mt (.invokevirtual 212 :: is) nb L (x3 :: x2 :: x1 :: .ref 12 :: st) σ Q ↔ PC sc 212 [.ref 12, x1, x2, x3] σ (fun r σ' => PW sc mt is nb L (r.toList ++ st) σ' Q) := PW_cv3 (by decide +kernel) (by decide +kernel) (by decide +kernel) h
theorem zml_212 : zml 212 = 7 := by decide +kernel
theorem zret_212 : zret 212 = some .boolean := by decide +kernel
theorem PC_212 {x1 : Int32} {x2 : Int32} {x3 : Int32} : PC sc 212 [.ref 12, .int x1, .int x2, .int x3] σ Q ↔ PW sc 212 (zblk 212 0) 1 [some (.ref 12), some (.int x1), some (.int x2), some (.int x3), none, none, none] [] σ Q := by
  unfold PC zini
  rw [zml_212]
  simp [zsl, Value.category]
theorem PW_c213 {x1 x2 x3 : Value} (h : st.length ≤ 4) : PW sc mt (.invokevirtual 213 :: is) nb L (x3 :: x2 :: x1 :: .ref 12 :: st) σ Q ↔ PC sc 213 [.ref 12, x1, x2, x3] σ (fun r σ' => PW sc mt is nb L (r.toList ++ st) σ' Q) := PW_cv3 (by decide +kernel) (by decide +kernel) (by decide +kernel) h
theorem zml_213 : zml 213 = 7 := by decide +kernel
theorem zret_213 : zret 213 = some .boolean := by decide +kernel
theorem PC_213 {x1 : Int32} {x2 : Int32} {x3 : Int32} : PC sc 213 [.ref 12, .int x1, .int x2, .int x3] σ Q ↔ PW sc 213 (zblk 213 0) 1 [some (.ref 12), some (.int x1), some (.int x2), some (.int x3), none, none, none] [] σ Q := by
  unfold PC zini
  rw [zml_213]
  simp [zsl, Value.category]
theorem PW_c214 {x1 x2 x3 : Value} (h : st.length ≤ 4) : PW sc mt (.invokevirtual 214 :: is) nb L (x3 :: x2 :: x1 :: .ref 12 :: st) σ Q ↔ PC sc 214 [.ref 12, x1, x2, x3] σ (fun r σ' => PW sc mt is nb L (r.toList ++ st) σ' Q) := PW_cv3 (by decide +kernel) (by decide +kernel) (by decide +kernel) h
theorem zml_214 : zml 214 = 4 := by decide +kernel
theorem zret_214 : zret 214 = some .int := by decide +kernel
theorem PC_214 {x1 : Int32} {x2 : Int32} {x3 : Int32} : PC sc 214 [.ref 12, .int x1, .int x2, .int x3] σ Q ↔ PW sc 214 (zblk 214 0) 1 [some (.ref 12), some (.int x1), some (.int x2), some (.int x3)] [] σ Q := by
  unfold PC zini
  rw [zml_214]
  simp [zsl, Value.category]
theorem PW_c215 {x1 x2 x3 : Value} (h : st.length ≤ 4) : PW sc mt (.invokevirtual 215 :: is) nb L (x3 :: x2 :: x1 :: .ref 12 :: st) σ Q ↔ PC sc 215 [.ref 12, x1, x2, x3] σ (fun r σ' => PW sc mt is nb L (r.toList ++ st) σ' Q) := PW_cv3 (by decide +kernel) (by decide +kernel) (by decide +kernel) h
theorem zml_215 : zml 215 = 5 := by decide +kernel
theorem zret_215 : zret 215 = some .int := by decide +kernel
theorem PC_215 {x1 : Int32} {x2 : Int32} {x3 : Int32} : PC sc 215 [.ref 12, .int x1, .int x2, .int x3] σ Q ↔ PW sc 215 (zblk 215 0) 1 [some (.ref 12), some (.int x1), some (.int x2), some (.int x3), none] [] σ Q := by
  unfold PC zini
  rw [zml_215]
  simp [zsl, Value.category]
theorem PW_c216 {x1 x2 : Value} (h : st.length ≤ 4) : PW sc mt (.invokevirtual 216 :: is) nb L (x2 :: x1 :: .ref 12 :: st) σ Q ↔ PC sc 216 [.ref 12, x1, x2] σ (fun r σ' => PW sc mt is nb L (r.toList ++ st) σ' Q) := PW_cv2 (by decide +kernel) (by decide +kernel) (by decide +kernel) h
theorem zml_216 : zml 216 = 4 := by decide +kernel
theorem zret_216 : zret 216 = some .int := by decide +kernel
theorem PC_216 {x1 : Int32} {x2 : Int32} : PC sc 216 [.ref 12, .int x1, .int x2] σ Q ↔ PW sc 216 (zblk 216 0) 1 [some (.ref 12), some (.int x1), some (.int x2), none] [] σ Q := by
  unfold PC zini
  rw [zml_216]
  simp [zsl, Value.category]
theorem PW_c217 {x1 x2 : Value} (h : st.length ≤ 4) : PW sc mt (.invokevirtual 217 :: is) nb L (x2 :: x1 :: .ref 12 :: st) σ Q ↔ PC sc 217 [.ref 12, x1, x2] σ (fun r σ' => PW sc mt is nb L (r.toList ++ st) σ' Q) := PW_cv2 (by decide +kernel) (by decide +kernel) (by decide +kernel) h
theorem zml_217 : zml 217 = 3 := by decide +kernel
theorem zret_217 : zret 217 = some .int := by decide +kernel
theorem PC_217 {x1 : Int32} {x2 : Int32} : PC sc 217 [.ref 12, .int x1, .int x2] σ Q ↔ PW sc 217 (zblk 217 0) 1 [some (.ref 12), some (.int x1), some (.int x2)] [] σ Q := by
  unfold PC zini
  rw [zml_217]
  simp [zsl, Value.category]
theorem PW_c218 {x1 : Value} (h : st.length ≤ 4) : PW sc mt (.invokevirtual 218 :: is) nb L (x1 :: .ref 12 :: st) σ Q ↔ PC sc 218 [.ref 12, x1] σ (fun r σ' => PW sc mt is nb L (r.toList ++ st) σ' Q) := PW_cv1 (by decide +kernel) (by decide +kernel) (by decide +kernel) h
theorem zml_218 : zml 218 = 3 := by decide +kernel
theorem zret_218 : zret 218 = some .boolean := by decide +kernel
theorem PC_218 {x1 : Int32} : PC sc 218 [.ref 12, .int x1] σ Q ↔ PW sc 218 (zblk 218 0) 1 [some (.ref 12), some (.int x1), none] [] σ Q := by
  unfold PC zini
  rw [zml_218]
  simp [zsl, Value.category]
theorem PW_c219 {x1 : Value} (h : st.length ≤ 4) : PW sc mt (.invokevirtual 219 :: is) nb L (x1 :: .ref 12 :: st) σ Q ↔ PC sc 219 [.ref 12, x1] σ (fun r σ' => PW sc mt is nb L (r.toList ++ st) σ' Q) := PW_cv1 (by decide +kernel) (by decide +kernel) (by decide +kernel) h
theorem zml_219 : zml 219 = 6 := by decide +kernel
theorem zret_219 : zret 219 = some .int := by decide +kernel
theorem PC_219 {x1 : Int32} : PC sc 219 [.ref 12, .int x1] σ Q ↔ PW sc 219 (zblk 219 0) 1 [some (.ref 12), some (.int x1), none, none, none, none] [] σ Q := by
  unfold PC zini
  rw [zml_219]
  simp [zsl, Value.category]
theorem PW_c220 {x1 : Value} (h : st.length ≤ 4) : PW sc mt (.invokevirtual 220 :: is) nb L (x1 :: .ref 12 :: st) σ Q ↔ PC sc 220 [.ref 12, x1] σ (fun r σ' => PW sc mt is nb L (r.toList ++ st) σ' Q) := PW_cv1 (by decide +kernel) (by decide +kernel) (by decide +kernel) h
theorem zml_220 : zml 220 = 4 := by decide +kernel
theorem zret_220 : zret 220 = none := by decide +kernel
theorem PC_220 {x1 : Int32} : PC sc 220 [.ref 12, .int x1] σ Q ↔ PW sc 220 (zblk 220 0) 1 [some (.ref 12), some (.int x1), none, none] [] σ Q := by
  unfold PC zini
  rw [zml_220]
  simp [zsl, Value.category]
theorem PW_c221 {x1 : Value} (h : st.length ≤ 4) : PW sc mt (.invokevirtual 221 :: is) nb L (x1 :: .ref 12 :: st) σ Q ↔ PC sc 221 [.ref 12, x1] σ (fun r σ' => PW sc mt is nb L (r.toList ++ st) σ' Q) := PW_cv1 (by decide +kernel) (by decide +kernel) (by decide +kernel) h
theorem zml_221 : zml 221 = 2 := by decide +kernel
theorem zret_221 : zret 221 = some .int := by decide +kernel
theorem PC_221 {x1 : Int32} : PC sc 221 [.ref 12, .int x1] σ Q ↔ PW sc 221 (zblk 221 0) 1 [some (.ref 12), some (.int x1)] [] σ Q := by
  unfold PC zini
  rw [zml_221]
  simp [zsl, Value.category]
theorem PW_c222 {x1 : Value} (h : st.length ≤ 4) : PW sc mt (.invokevirtual 222 :: is) nb L (x1 :: .ref 12 :: st) σ Q ↔ PC sc 222 [.ref 12, x1] σ (fun r σ' => PW sc mt is nb L (r.toList ++ st) σ' Q) := PW_cv1 (by decide +kernel) (by decide +kernel) (by decide +kernel) h
theorem zml_222 : zml 222 = 3 := by decide +kernel
theorem zret_222 : zret 222 = some .int := by decide +kernel
theorem PC_222 {x1 : Int32} : PC sc 222 [.ref 12, .int x1] σ Q ↔ PW sc 222 (zblk 222 0) 1 [some (.ref 12), some (.int x1), none] [] σ Q := by
  unfold PC zini
  rw [zml_222]
  simp [zsl, Value.category]
theorem PW_c223 {x1 : Value} (h : st.length ≤ 4) : PW sc mt (.invokevirtual 223 :: is) nb L (x1 :: .ref 12 :: st) σ Q ↔ PC sc 223 [.ref 12, x1] σ (fun r σ' => PW sc mt is nb L (r.toList ++ st) σ' Q) := PW_cv1 (by decide +kernel) (by decide +kernel) (by decide +kernel) h
theorem zml_223 : zml 223 = 3 := by decide +kernel
theorem zret_223 : zret 223 = some .int := by decide +kernel
theorem PC_223 {x1 : Int32} : PC sc 223 [.ref 12, .int x1] σ Q ↔ PW sc 223 (zblk 223 0) 1 [some (.ref 12), some (.int x1), none] [] σ Q := by
  unfold PC zini
  rw [zml_223]
  simp [zsl, Value.category]
theorem PW_c224 (h : st.length ≤ 4) : PW sc mt (.invokevirtual 224 :: is) nb L (.ref 12 :: st) σ Q ↔ PC sc 224 [.ref 12] σ (fun r σ' => PW sc mt is nb L (r.toList ++ st) σ' Q) := PW_cv0 (by decide +kernel) (by decide +kernel) (by decide +kernel) h
theorem zml_224 : zml 224 = 5 := by decide +kernel
theorem zret_224 : zret 224 = some .int := by decide +kernel
theorem PC_224  : PC sc 224 [.ref 12] σ Q ↔ PW sc 224 (zblk 224 0) 1 [some (.ref 12), none, none, none, none] [] σ Q := by
  unfold PC zini
  rw [zml_224]
  simp [zsl, Value.category]
theorem PW_c225 {x1 x2 x3 x4 x5 x6 x7 : Value} (h : st.length ≤ 4) : PW sc mt (.invokevirtual 225 :: is) nb L (x7 :: x6 :: x5 :: x4 :: x3 :: x2 :: x1 :: .ref 12 :: st) σ Q ↔ PC sc 225 [.ref 12, x1, x2, x3, x4, x5, x6, x7] σ (fun r σ' => PW sc mt is nb L (r.toList ++ st) σ' Q) := PW_cv7 (by decide +kernel) (by decide +kernel) (by decide +kernel) h
theorem zml_225 : zml 225 = 15 := by decide +kernel
theorem zret_225 : zret 225 = some .int := by decide +kernel
theorem PC_225 {x1 : Int32} {x2 : Int32} {x3 : Int32} {x4 : Int32} {x5 : Int32} {x6 : Int32} {x7 : Int32} : PC sc 225 [.ref 12, .int x1, .int x2, .int x3, .int x4, .int x5, .int x6, .int x7] σ Q ↔ PW sc 225 (zblk 225 0) 1 [some (.ref 12), some (.int x1), some (.int x2), some (.int x3), some (.int x4), some (.int x5), some (.int x6), some (.int x7), none, none, none, none, none, none, none] [] σ Q := by
  unfold PC zini
  rw [zml_225]
  simp [zsl, Value.category]
theorem PW_c226 {x1 x2 : Value} (h : st.length ≤ 4) : PW sc mt (.invokevirtual 226 :: is) nb L (x2 :: x1 :: .ref 12 :: st) σ Q ↔ PC sc 226 [.ref 12, x1, x2] σ (fun r σ' => PW sc mt is nb L (r.toList ++ st) σ' Q) := PW_cv2 (by decide +kernel) (by decide +kernel) (by decide +kernel) h
theorem zml_226 : zml 226 = 4 := by decide +kernel
theorem zret_226 : zret 226 = some .boolean := by decide +kernel
theorem PC_226 {x1 : Int32} {x2 : Int32} : PC sc 226 [.ref 12, .int x1, .int x2] σ Q ↔ PW sc 226 (zblk 226 0) 1 [some (.ref 12), some (.int x1), some (.int x2), none] [] σ Q := by
  unfold PC zini
  rw [zml_226]
  simp [zsl, Value.category]
theorem PW_c227 {x1 x2 x3 x4 x5 : Value} (h : st.length ≤ 4) : PW sc mt (.invokevirtual 227 :: is) nb L (x5 :: x4 :: x3 :: x2 :: x1 :: .ref 12 :: st) σ Q ↔ PC sc 227 [.ref 12, x1, x2, x3, x4, x5] σ (fun r σ' => PW sc mt is nb L (r.toList ++ st) σ' Q) := PW_cv5 (by decide +kernel) (by decide +kernel) (by decide +kernel) h
theorem zml_227 : zml 227 = 9 := by decide +kernel
theorem zret_227 : zret 227 = some .int := by decide +kernel
theorem PC_227 {x1 : Int32} {x2 : Int32} {x3 : Int32} {x4 : Int32} {x5 : Int32} : PC sc 227 [.ref 12, .int x1, .int x2, .int x3, .int x4, .int x5] σ Q ↔ PW sc 227 (zblk 227 0) 1 [some (.ref 12), some (.int x1), some (.int x2), some (.int x3), some (.int x4), some (.int x5), none, none, none] [] σ Q := by
  unfold PC zini
  rw [zml_227]
  simp [zsl, Value.category]
theorem PW_c228 {x1 x2 x3 x4 x5 : Value} (h : st.length ≤ 4) : PW sc mt (.invokevirtual 228 :: is) nb L (x5 :: x4 :: x3 :: x2 :: x1 :: .ref 12 :: st) σ Q ↔ PC sc 228 [.ref 12, x1, x2, x3, x4, x5] σ (fun r σ' => PW sc mt is nb L (r.toList ++ st) σ' Q) := PW_cv5 (by decide +kernel) (by decide +kernel) (by decide +kernel) h
theorem zml_228 : zml 228 = 9 := by decide +kernel
theorem zret_228 : zret 228 = some .int := by decide +kernel
theorem PC_228 {x1 : Int32} {x2 : Int32} {x3 : Int32} {x4 : Int32} {x5 : Int32} : PC sc 228 [.ref 12, .int x1, .int x2, .int x3, .int x4, .int x5] σ Q ↔ PW sc 228 (zblk 228 0) 1 [some (.ref 12), some (.int x1), some (.int x2), some (.int x3), some (.int x4), some (.int x5), none, none, none] [] σ Q := by
  unfold PC zini
  rw [zml_228]
  simp [zsl, Value.category]
theorem PW_c229 {x1 : Value} (h : st.length ≤ 4) : PW sc mt (.invokestatic 229 :: is) nb L (x1 :: st) σ Q ↔ PC sc 229 [x1] σ (fun r σ' => PW sc mt is nb L (r.toList ++ st) σ' Q) := PW_cs1 (by decide +kernel) (by decide +kernel) h
theorem zml_229 : zml 229 = 1 := by decide +kernel
theorem zret_229 : zret 229 = some .int := by decide +kernel
theorem PC_229 {x1 : Int32} : PC sc 229 [.int x1] σ Q ↔ PW sc 229 (zblk 229 0) 1 [some (.int x1)] [] σ Q := by
  unfold PC zini
  rw [zml_229]
  simp [zsl, Value.category]
theorem PW_c230 {x1 x2 : Value} (h : st.length ≤ 4) : PW sc mt (.invokevirtual 230 :: is) nb L (x2 :: x1 :: .ref 12 :: st) σ Q ↔ PC sc 230 [.ref 12, x1, x2] σ (fun r σ' => PW sc mt is nb L (r.toList ++ st) σ' Q) := PW_cv2 (by decide +kernel) (by decide +kernel) (by decide +kernel) h
theorem zml_230 : zml 230 = 6 := by decide +kernel
theorem zret_230 : zret 230 = none := by decide +kernel
theorem PC_230 {x1 : Int32} {x2 : Int32} : PC sc 230 [.ref 12, .int x1, .int x2] σ Q ↔ PW sc 230 (zblk 230 0) 1 [some (.ref 12), some (.int x1), some (.int x2), none, none, none] [] σ Q := by
  unfold PC zini
  rw [zml_230]
  simp [zsl, Value.category]
theorem PW_c231 {x1 x2 x3 : Value} (h : st.length ≤ 4) : PW sc mt (.invokevirtual 231 :: is) nb L (x3 :: x2 :: x1 :: .ref 12 :: st) σ Q ↔ PC sc 231 [.ref 12, x1, x2, x3] σ (fun r σ' => PW sc mt is nb L (r.toList ++ st) σ' Q) := PW_cv3 (by decide +kernel) (by decide +kernel) (by decide +kernel) h
theorem zml_231 : zml 231 = 7 := by decide +kernel
theorem zret_231 : zret 231 = none := by decide +kernel
theorem PC_231 {x1 : Int32} {x2 : Int32} {x3 : Int32} : PC sc 231 [.ref 12, .int x1, .int x2, .int x3] σ Q ↔ PW sc 231 (zblk 231 0) 1 [some (.ref 12), some (.int x1), some (.int x2), some (.int x3), none, none, none] [] σ Q := by
  unfold PC zini
  rw [zml_231]
  simp [zsl, Value.category]
theorem PW_c232 {x1 x2 x3 : Value} (h : st.length ≤ 4) : PW sc mt (.invokevirtual 232 :: is) nb L (x3 :: x2 :: x1 :: .ref 12 :: st) σ Q ↔ PC sc 232 [.ref 12, x1, x2, x3] σ (fun r σ' => PW sc mt is nb L (r.toList ++ st) σ' Q) := PW_cv3 (by decide +kernel) (by decide +kernel) (by decide +kernel) h
theorem zml_232 : zml 232 = 4 := by decide +kernel
theorem zret_232 : zret 232 = some .long := by decide +kernel
theorem PC_232 {x1 : Int32} {x2 : Int32} {x3 : Int32} : PC sc 232 [.ref 12, .int x1, .int x2, .int x3] σ Q ↔ PW sc 232 (zblk 232 0) 1 [some (.ref 12), some (.int x1), some (.int x2), some (.int x3)] [] σ Q := by
  unfold PC zini
  rw [zml_232]
  simp [zsl, Value.category]
theorem PW_c233 {x1 x2 : Value} (h : st.length ≤ 4) : PW sc mt (.invokevirtual 233 :: is) nb L (x2 :: x1 :: .ref 12 :: st) σ Q ↔ PC sc 233 [.ref 12, x1, x2] σ (fun r σ' => PW sc mt is nb L (r.toList ++ st) σ' Q) := PW_cv2 (by decide +kernel) (by decide +kernel) (by decide +kernel) h
theorem zml_233 : zml 233 = 7 := by decide +kernel
theorem zret_233 : zret 233 = some .long := by decide +kernel
theorem PC_233 {x1 : Int32} {x2 : Int32} : PC sc 233 [.ref 12, .int x1, .int x2] σ Q ↔ PW sc 233 (zblk 233 0) 1 [some (.ref 12), some (.int x1), some (.int x2), none, none, none, none] [] σ Q := by
  unfold PC zini
  rw [zml_233]
  simp [zsl, Value.category]
theorem PW_c234 {x1 x2 : Value} (h : st.length ≤ 4) : PW sc mt (.invokevirtual 234 :: is) nb L (x2 :: x1 :: .ref 12 :: st) σ Q ↔ PC sc 234 [.ref 12, x1, x2] σ (fun r σ' => PW sc mt is nb L (r.toList ++ st) σ' Q) := PW_cv2 (by decide +kernel) (by decide +kernel) (by decide +kernel) h
theorem zml_234 : zml 234 = 4 := by decide +kernel
theorem zret_234 : zret 234 = some .int := by decide +kernel
theorem PC_234 {x1 : Int32} {x2 : Int32} : PC sc 234 [.ref 12, .int x1, .int x2] σ Q ↔ PW sc 234 (zblk 234 0) 1 [some (.ref 12), some (.int x1), some (.int x2), none] [] σ Q := by
  unfold PC zini
  rw [zml_234]
  simp [zsl, Value.category]
theorem PW_c235 {x1 : Value} (h : st.length ≤ 4) : PW sc mt (.invokestatic 235 :: is) nb L (x1 :: st) σ Q ↔ PC sc 235 [x1] σ (fun r σ' => PW sc mt is nb L (r.toList ++ st) σ' Q) := PW_cs1 (by decide +kernel) (by decide +kernel) h
theorem zml_235 : zml 235 = 1 := by decide +kernel
theorem zret_235 : zret 235 = some .int := by decide +kernel
theorem PC_235 {x1 : Int32} : PC sc 235 [.int x1] σ Q ↔ PW sc 235 (zblk 235 0) 1 [some (.int x1)] [] σ Q := by
  unfold PC zini
  rw [zml_235]
  simp [zsl, Value.category]
theorem PW_c236 {x1 x2 : Value} (h : st.length ≤ 4) : PW sc mt (.invokevirtual 236 :: is) nb L (x2 :: x1 :: .ref 12 :: st) σ Q ↔ PC sc 236 [.ref 12, x1, x2] σ (fun r σ' => PW sc mt is nb L (r.toList ++ st) σ' Q) := PW_cv2 (by decide +kernel) (by decide +kernel) (by decide +kernel) h
theorem zml_236 : zml 236 = 8 := by decide +kernel
theorem zret_236 : zret 236 = some .int := by decide +kernel
theorem PC_236 {x1 : Int32} {x2 : Int32} : PC sc 236 [.ref 12, .int x1, .int x2] σ Q ↔ PW sc 236 (zblk 236 0) 1 [some (.ref 12), some (.int x1), some (.int x2), none, none, none, none, none] [] σ Q := by
  unfold PC zini
  rw [zml_236]
  simp [zsl, Value.category]
theorem PW_c237 (h : st.length ≤ 4) : PW sc mt (.invokevirtual 237 :: is) nb L (.ref 12 :: st) σ Q ↔ PC sc 237 [.ref 12] σ (fun r σ' => PW sc mt is nb L (r.toList ++ st) σ' Q) := PW_cv0 (by decide +kernel) (by decide +kernel) (by decide +kernel) h
theorem zml_237 : zml 237 = 3 := by decide +kernel
theorem zret_237 : zret 237 = some .int := by decide +kernel
theorem PC_237  : PC sc 237 [.ref 12] σ Q ↔ PW sc 237 (zblk 237 0) 1 [some (.ref 12), none, none] [] σ Q := by
  unfold PC zini
  rw [zml_237]
  simp [zsl, Value.category]
theorem PW_c238 {x1 x2 x3 x4 : Value} (h : st.length ≤ 4) : PW sc mt (.invokevirtual 238 :: is) nb L (x4 :: x3 :: x2 :: x1 :: .ref 12 :: st) σ Q ↔ PC sc 238 [.ref 12, x1, x2, x3, x4] σ (fun r σ' => PW sc mt is nb L (r.toList ++ st) σ' Q) := PW_cv4 (by decide +kernel) (by decide +kernel) (by decide +kernel) h
theorem zml_238 : zml 238 = 8 := by decide +kernel
theorem zret_238 : zret 238 = some .int := by decide +kernel
theorem PC_238 {x1 : Int32} {x2 : Int32} {x3 : Int32} {x4 : Int32} : PC sc 238 [.ref 12, .int x1, .int x2, .int x3, .int x4] σ Q ↔ PW sc 238 (zblk 238 0) 1 [some (.ref 12), some (.int x1), some (.int x2), some (.int x3), some (.int x4), none, none, none] [] σ Q := by
  unfold PC zini
  rw [zml_238]
  simp [zsl, Value.category]
theorem PW_c239 {x1 : Value} (h : st.length ≤ 4) : PW sc mt (.invokevirtual 239 :: is) nb L (x1 :: .ref 12 :: st) σ Q ↔ PC sc 239 [.ref 12, x1] σ (fun r σ' => PW sc mt is nb L (r.toList ++ st) σ' Q) := PW_cv1 (by decide +kernel) (by decide +kernel) (by decide +kernel) h
theorem zml_239 : zml 239 = 2 := by decide +kernel
theorem zret_239 : zret 239 = some .int := by decide +kernel
theorem PC_239 {x1 : Int32} : PC sc 239 [.ref 12, .int x1] σ Q ↔ PW sc 239 (zblk 239 0) 1 [some (.ref 12), some (.int x1)] [] σ Q := by
  unfold PC zini
  rw [zml_239]
  simp [zsl, Value.category]
theorem PW_c240 {x1 x2 x3 : Value} (h : st.length ≤ 4) : PW sc mt (.invokevirtual 240 :: is) nb L (x3 :: x2 :: x1 :: .ref 12 :: st) σ Q ↔ PC sc 240 [.ref 12, x1, x2, x3] σ (fun r σ' => PW sc mt is nb L (r.toList ++ st) σ' Q) := PW_cv3 (by decide +kernel) (by decide +kernel) (by decide +kernel) h
theorem zml_240 : zml 240 = 5 := by decide +kernel
theorem zret_240 : zret 240 = some .int := by decide +kernel
theorem PC_240 {x1 : Int32} {x2 : Int32} {x3 : Int32} : PC sc 240 [.ref 12, .int x1, .int x2, .int x3] σ Q ↔ PW sc 240 (zblk 240 0) 1 [some (.ref 12), some (.int x1), some (.int x2), some (.int x3), none] [] σ Q := by
  unfold PC zini
  rw [zml_240]
  simp [zsl, Value.category]
theorem PW_c241 {x1 : Value} (h : st.length ≤ 4) : PW sc mt (.invokevirtual 241 :: is) nb L (x1 :: .ref 12 :: st) σ Q ↔ PC sc 241 [.ref 12, x1] σ (fun r σ' => PW sc mt is nb L (r.toList ++ st) σ' Q) := PW_cv1 (by decide +kernel) (by decide +kernel) (by decide +kernel) h
theorem zml_241 : zml 241 = 3 := by decide +kernel
theorem zret_241 : zret 241 = some .int := by decide +kernel
theorem PC_241 {x1 : Int32} : PC sc 241 [.ref 12, .int x1] σ Q ↔ PW sc 241 (zblk 241 0) 1 [some (.ref 12), some (.int x1), none] [] σ Q := by
  unfold PC zini
  rw [zml_241]
  simp [zsl, Value.category]
theorem PW_c242 {x1 x2 x3 : Value} (h : st.length ≤ 4) : PW sc mt (.invokevirtual 242 :: is) nb L (x3 :: x2 :: x1 :: .ref 12 :: st) σ Q ↔ PC sc 242 [.ref 12, x1, x2, x3] σ (fun r σ' => PW sc mt is nb L (r.toList ++ st) σ' Q) := PW_cv3 (by decide +kernel) (by decide +kernel) (by decide +kernel) h
theorem zml_242 : zml 242 = 4 := by decide +kernel
theorem zret_242 : zret 242 = some .int := by decide +kernel
theorem PC_242 {x1 : Int32} {x2 : Int32} {x3 : Int32} : PC sc 242 [.ref 12, .int x1, .int x2, .int x3] σ Q ↔ PW sc 242 (zblk 242 0) 1 [some (.ref 12), some (.int x1), some (.int x2), some (.int x3)] [] σ Q := by
  unfold PC zini
  rw [zml_242]
  simp [zsl, Value.category]
theorem PW_c243 {x1 x2 x3 : Value} (h : st.length ≤ 4) : PW sc mt (.invokevirtual 243 :: is) nb L (x3 :: x2 :: x1 :: .ref 12 :: st) σ Q ↔ PC sc 243 [.ref 12, x1, x2, x3] σ (fun r σ' => PW sc mt is nb L (r.toList ++ st) σ' Q) := PW_cv3 (by decide +kernel) (by decide +kernel) (by decide +kernel) h
theorem zml_243 : zml 243 = 4 := by decide +kernel
theorem zret_243 : zret 243 = some .long := by decide +kernel
theorem PC_243 {x1 : Int32} {x2 : Int32} {x3 : Int32} : PC sc 243 [.ref 12, .int x1, .int x2, .int x3] σ Q ↔ PW sc 243 (zblk 243 0) 1 [some (.ref 12), some (.int x1), some (.int x2), some (.int x3)] [] σ Q := by
  unfold PC zini
  rw [zml_243]
  simp [zsl, Value.category]
theorem PW_c244 {x1 : Value} (h : st.length ≤ 4) : PW sc mt (.invokevirtual 244 :: is) nb L (x1 :: .ref 12 :: st) σ Q ↔ PC sc 244 [.ref 12, x1] σ (fun r σ' => PW sc mt is nb L (r.toList ++ st) σ' Q) := PW_cv1 (by decide +kernel) (by decide +kernel) (by decide +kernel) h
theorem zml_244 : zml 244 = 2 := by decide +kernel
theorem zret_244 : zret 244 = none := by decide +kernel
theorem PC_244 {x1 : Int32} : PC sc 244 [.ref 12, .int x1] σ Q ↔ PW sc 244 (zblk 244 0) 1 [some (.ref 12), some (.int x1)] [] σ Q := by
  unfold PC zini
  rw [zml_244]
  simp [zsl, Value.category]
theorem PW_c245 {x1 : Value} (h : st.length ≤ 4) : PW sc mt (.invokevirtual 245 :: is) nb L (x1 :: .ref 12 :: st) σ Q ↔ PC sc 245 [.ref 12, x1] σ (fun r σ' => PW sc mt is nb L (r.toList ++ st) σ' Q) := PW_cv1 (by decide +kernel) (by decide +kernel) (by decide +kernel) h
theorem zml_245 : zml 245 = 2 := by decide +kernel
theorem zret_245 : zret 245 = some .int := by decide +kernel
theorem PC_245 {x1 : Int32} : PC sc 245 [.ref 12, .int x1] σ Q ↔ PW sc 245 (zblk 245 0) 1 [some (.ref 12), some (.int x1)] [] σ Q := by
  unfold PC zini
  rw [zml_245]
  simp [zsl, Value.category]
theorem PW_c246 {x1 : Value} (h : st.length ≤ 4) : PW sc mt (.invokevirtual 246 :: is) nb L (x1 :: .ref 12 :: st) σ Q ↔ PC sc 246 [.ref 12, x1] σ (fun r σ' => PW sc mt is nb L (r.toList ++ st) σ' Q) := PW_cv1 (by decide +kernel) (by decide +kernel) (by decide +kernel) h
theorem zml_246 : zml 246 = 2 := by decide +kernel
theorem zret_246 : zret 246 = some .int := by decide +kernel
theorem PC_246 {x1 : Int32} : PC sc 246 [.ref 12, .int x1] σ Q ↔ PW sc 246 (zblk 246 0) 1 [some (.ref 12), some (.int x1)] [] σ Q := by
  unfold PC zini
  rw [zml_246]
  simp [zsl, Value.category]
theorem PW_c247 {x1 x2 : Value} (h : st.length ≤ 4) : PW sc mt (.invokevirtual 247 :: is) nb L (x2 :: x1 :: .ref 12 :: st) σ Q ↔ PC sc 247 [.ref 12, x1, x2] σ (fun r σ' => PW sc mt is nb L (r.toList ++ st) σ' Q) := PW_cv2 (by decide +kernel) (by decide +kernel) (by decide +kernel) h
theorem zml_247 : zml 247 = 3 := by decide +kernel
theorem zret_247 : zret 247 = some .int := by decide +kernel
theorem PC_247 {x1 : Int32} {x2 : Int32} : PC sc 247 [.ref 12, .int x1, .int x2] σ Q ↔ PW sc 247 (zblk 247 0) 1 [some (.ref 12), some (.int x1), some (.int x2)] [] σ Q := by
  unfold PC zini
  rw [zml_247]
  simp [zsl, Value.category]
theorem PW_c248 (h : st.length ≤ 4) : PW sc mt (.invokevirtual 248 :: is) nb L (.ref 12 :: st) σ Q ↔ PC sc 248 [.ref 12] σ (fun r σ' => PW sc mt is nb L (r.toList ++ st) σ' Q) := PW_cv0 (by decide +kernel) (by decide +kernel) (by decide +kernel) h
theorem zml_248 : zml 248 = 1 := by decide +kernel
theorem zret_248 : zret 248 = some .int := by decide +kernel
theorem PC_248  : PC sc 248 [.ref 12] σ Q ↔ PW sc 248 (zblk 248 0) 1 [some (.ref 12)] [] σ Q := by
  unfold PC zini
  rw [zml_248]
  simp [zsl, Value.category]
theorem PW_c249 (h : st.length ≤ 4) : PW sc mt (.invokevirtual 249 :: is) nb L (.ref 12 :: st) σ Q ↔ PC sc 249 [.ref 12] σ (fun r σ' => PW sc mt is nb L (r.toList ++ st) σ' Q) := PW_cv0 (by decide +kernel) (by decide +kernel) (by decide +kernel) h
theorem zml_249 : zml 249 = 1 := by decide +kernel
theorem zret_249 : zret 249 = some .int := by decide +kernel
theorem PC_249  : PC sc 249 [.ref 12] σ Q ↔ PW sc 249 (zblk 249 0) 1 [some (.ref 12)] [] σ Q := by
  unfold PC zini
  rw [zml_249]
  simp [zsl, Value.category]
theorem PW_c250 {x1 : Value} (h : st.length ≤ 4) : PW sc mt (.invokevirtual 250 :: is) nb L (x1 :: .ref 12 :: st) σ Q ↔ PC sc 250 [.ref 12, x1] σ (fun r σ' => PW sc mt is nb L (r.toList ++ st) σ' Q) := PW_cv1 (by decide +kernel) (by decide +kernel) (by decide +kernel) h
theorem zml_250 : zml 250 = 2 := by decide +kernel
theorem zret_250 : zret 250 = some .int := by decide +kernel
theorem PC_250 {x1 : Int32} : PC sc 250 [.ref 12, .int x1] σ Q ↔ PW sc 250 (zblk 250 0) 1 [some (.ref 12), some (.int x1)] [] σ Q := by
  unfold PC zini
  rw [zml_250]
  simp [zsl, Value.category]
theorem PW_c251 {x1 : Value} (h : st.length ≤ 4) : PW sc mt (.invokestatic 251 :: is) nb L (x1 :: st) σ Q ↔ PC sc 251 [x1] σ (fun r σ' => PW sc mt is nb L (r.toList ++ st) σ' Q) := PW_cs1 (by decide +kernel) (by decide +kernel) h
theorem zml_251 : zml 251 = 1 := by decide +kernel
theorem zret_251 : zret 251 = some .int := by decide +kernel
theorem PC_251 {x1 : Int32} : PC sc 251 [.int x1] σ Q ↔ PW sc 251 (zblk 251 0) 1 [some (.int x1)] [] σ Q := by
  unfold PC zini
  rw [zml_251]
  simp [zsl, Value.category]
theorem PW_c252 {x1 x2 : Value} (h : st.length ≤ 4) : PW sc mt (.invokestatic 252 :: is) nb L (x2 :: x1 :: st) σ Q ↔ PC sc 252 [x1, x2] σ (fun r σ' => PW sc mt is nb L (r.toList ++ st) σ' Q) := PW_cs2 (by decide +kernel) (by decide +kernel) h
theorem zml_252 : zml 252 = 5 := by decide +kernel
theorem zret_252 : zret 252 = none := by decide +kernel
theorem PC_252 {x1 : Nat} {x2 : Int64} : PC sc 252 [.ref x1, .long x2] σ Q ↔ PW sc 252 (zblk 252 0) 1 [some (.ref x1), some (.long x2), none, none, none] [] σ Q := by
  unfold PC zini
  rw [zml_252]
  simp [zsl, Value.category]
theorem PW_c253 {x1 x2 : Value} (h : st.length ≤ 4) : PW sc mt (.invokestatic 253 :: is) nb L (x2 :: x1 :: st) σ Q ↔ PC sc 253 [x1, x2] σ (fun r σ' => PW sc mt is nb L (r.toList ++ st) σ' Q) := PW_cs2 (by decide +kernel) (by decide +kernel) h
theorem zml_253 : zml 253 = 4 := by decide +kernel
theorem zret_253 : zret 253 = none := by decide +kernel
theorem PC_253 {x1 : Nat} {x2 : Int32} : PC sc 253 [.ref x1, .int x2] σ Q ↔ PW sc 253 (zblk 253 0) 1 [some (.ref x1), some (.int x2), none, none] [] σ Q := by
  unfold PC zini
  rw [zml_253]
  simp [zsl, Value.category]
end PWR
theorem zb_0_0 : zblk 0 0 = [.aload 0, .getfield 2, .sipush (-9), .invokestatic 253, .aload 0, .sipush 0, .putfield 3, .aload 0, .sipush (-9), .putfield 4, .aload 0, .sipush 0, .putfield 5, .sipush 0, .istore 3] := by decide +kernel
theorem zb_0_1 : zblk 0 1 = [.iload 3, .iload 2, .if_icmp .ge 3, .aload 0, .aload 1, .iload 3, .iaload, .invokevirtual 1, .ifCond .ne 2, .iload 3, .ireturn] := by decide +kernel
theorem zb_0_2 : zblk 0 2 = [.iinc 3 1, .goto 1] := by decide +kernel
theorem zb_0_3 : zblk 0 3 = [.iload 2, .ifCond .le 4, .aload 0, .getfield 5, .ifCond .ne 4, .iload 2, .ireturn] := by decide +kernel
theorem zb_0_4 : zblk 0 4 = [.aload 0, .getfield 2, .sipush 0, .aload 0, .getfield 0, .sipush 0, .aload 0, .getfield 2, .arraylength, .invokestatic 999, .aload 0, .aload 0, .getfield 3, .putfield 1, .sipush (-1), .ireturn] := by decide +kernel
theorem zb_1_0 : zblk 1 0 = [.aload 0, .getfield 4, .sipush (-9), .if_icmp .ne 1, .aload 0, .iload 1, .invokestatic 5, .invokevirtual 2, .ireturn] := by decide +kernel
theorem zb_1_1 : zblk 1 1 = [.iload 1, .sipush 59, .if_icmp .ne 2, .aload 0, .invokevirtual 3, .ireturn] := by decide +kernel
theorem zb_1_2 : zblk 1 2 = [.iload 1, .sipush 48, .if_icmp .lt 3, .iload 1, .sipush 57, .if_icmp .gt 3, .aload 0, .iload 1, .sipush 48, .isub, .invokevirtual 4, .ifCond .eq 3, .sipush 1, .goto 4] := by decide +kernel
theorem zb_1_3 : zblk 1 3 = [.sipush 0] := by decide +kernel
theorem zb_1_4 : zblk 1 4 = [.ireturn] := by decide +kernel
theorem zb_2_0 : zblk 2 0 = [.iload 1, .sipush (-9), .if_icmp .eq 1, .aload 0, .getfield 2, .iload 1, .iaload, .sipush (-9), .if_icmp .eq 2] := by decide +kernel
theorem zb_2_1 : zblk 2 1 = [.sipush 0, .ireturn] := by decide +kernel
theorem zb_2_2 : zblk 2 2 = [.aload 0, .iload 1, .putfield 4, .aload 0, .getfield 2, .iload 1, .sipush 0, .iastore, .aload 0, .dup, .getfield 3, .sipush 1, .iadd, .putfield 3, .sipush 1, .ireturn] := by decide +kernel
theorem zb_3_0 : zblk 3 0 = [.aload 0, .getfield 5, .ifCond .eq 1, .aload 0, .getfield 3, .sipush 3, .if_icmp .le 2] := by decide +kernel
theorem zb_3_1 : zblk 3 1 = [.sipush 0, .ireturn] := by decide +kernel
theorem zb_3_2 : zblk 3 2 = [.aload 0, .sipush (-9), .putfield 4, .aload 0, .sipush 0, .putfield 5, .sipush 1, .ireturn] := by decide +kernel
theorem zb_4_0 : zblk 4 0 = [.aload 0, .getfield 5, .sipush 3, .if_icmp .eq 1, .aload 0, .getfield 5, .ifCond .le 2, .aload 0, .getfield 2, .aload 0, .getfield 4, .iaload, .ifCond .ne 2] := by decide +kernel
theorem zb_4_1 : zblk 4 1 = [.sipush 0, .ireturn] := by decide +kernel
theorem zb_4_2 : zblk 4 2 = [.aload 0, .getfield 2, .aload 0, .getfield 4, .sipush 10, .aload 0, .getfield 2, .aload 0, .getfield 4, .iaload, .imul, .iload 1, .iadd, .iastore, .aload 0, .dup, .getfield 5, .sipush 1, .iadd, .putfield 5, .sipush 1, .ireturn] := by decide +kernel
theorem zb_5_0 : zblk 5 0 = [.iload 0, .lookupswitch 5 #[(65, 1), (66, 2), (72, 3), (89, 4)]] := by decide +kernel
theorem zb_5_1 : zblk 5 1 = [.sipush 0, .ireturn] := by decide +kernel
theorem zb_5_2 : zblk 5 2 = [.sipush 1, .ireturn] := by decide +kernel
theorem zb_5_3 : zblk 5 3 = [.sipush 2, .ireturn] := by decide +kernel
theorem zb_5_4 : zblk 5 4 = [.sipush 3, .ireturn] := by decide +kernel
theorem zb_5_5 : zblk 5 5 = [.sipush (-9), .ireturn] := by decide +kernel
theorem zb_6_0 : zblk 6 0 = [.sipush 0, .istore 5, .aload 0, .getfield 0, .sipush 0, .iaload, .sipush (-9), .if_icmp .eq 1, .iload 3, .aload 0, .getfield 0, .sipush 0, .iaload, .if_icmp .le 1, .iload 5, .sipush 1, .ior, .istore 5] := by decide +kernel
theorem zb_6_1 : zblk 6 1 = [.aload 0, .getfield 0, .sipush 1, .iaload, .sipush (-9), .if_icmp .eq 3, .aload 1, .getfield 196, .iload 2, .iaload, .sipush (-9), .if_icmp .eq 2, .aload 1, .getfield 195, .iload 2, .iaload, .aload 1, .getfield 196, .iload 2, .iaload, .isub, .aload 0, .getfield 0, .sipush 1, .iaload, .if_icmp .ge 3] := by decide +kernel
theorem zb_6_2 : zblk 6 2 = [.iload 5, .sipush 2, .ior, .istore 5] := by decide +kernel
theorem zb_6_3 : zblk 6 3 = [.aload 0, .getfield 0, .sipush 2, .iaload, .sipush (-9), .if_icmp .eq 4, .iload 4, .aload 0, .getfield 0, .sipush 2, .iaload, .if_icmp .ge 4, .iload 5, .sipush 4, .ior, .istore 5] := by decide +kernel
theorem zb_6_4 : zblk 6 4 = [.aload 0, .getfield 0, .sipush 3, .iaload, .sipush (-9), .if_icmp .eq 5, .aload 1, .getfield 195, .iload 2, .iaload, .aload 1, .getfield 194, .iload 2, .iaload, .isub, .sipush 1, .iadd, .aload 0, .getfield 0, .sipush 3, .iaload, .if_icmp .le 5, .iload 5, .sipush 8, .ior, .istore 5] := by decide +kernel
theorem zb_6_5 : zblk 6 5 = [.iload 5, .ireturn] := by decide +kernel
theorem zb_7_0 : zblk 7 0 = [.aload 0, .getfield 68, .sipush 40, .if_icmp .lt 1, .sipush (-4), .ireturn] := by decide +kernel
theorem zb_7_1 : zblk 7 1 = [.aload 0, .getfield 64, .aload 0, .getfield 68, .iload 1, .iastore, .aload 0, .getfield 65, .aload 0, .getfield 68, .iload 2, .iastore, .aload 0, .getfield 66, .aload 0, .getfield 68, .iload 3, .iastore, .aload 0, .getfield 67, .aload 0, .getfield 68, .iload 4, .iastore, .aload 0, .dup, .getfield 68, .dup_x1, .sipush 1, .iadd, .putfield 68, .ireturn] := by decide +kernel
theorem zb_8_0 : zblk 8 0 = [.aload 0, .getfield 66, .iload 1, .iaload, .iload 2, .if_icmp .gt 1, .aload 0, .getfield 67, .iload 1, .iaload, .iload 2, .if_icmp .lt 1, .sipush 1, .goto 2] := by decide +kernel
theorem zb_8_1 : zblk 8 1 = [.sipush 0] := by decide +kernel
theorem zb_8_2 : zblk 8 2 = [.ireturn] := by decide +kernel
theorem zb_9_0 : zblk 9 0 = [.sipush 0, .istore 3] := by decide +kernel
theorem zb_9_1 : zblk 9 1 = [.iload 3, .aload 0, .getfield 68, .if_icmp .ge 3, .aload 0, .getfield 64, .iload 3, .iaload, .iload 1, .if_icmp .ne 2, .aload 0, .iload 3, .iload 2, .invokevirtual 8, .ifCond .eq 2, .sipush 1, .ireturn] := by decide +kernel
theorem zb_9_2 : zblk 9 2 = [.iinc 3 1, .goto 1] := by decide +kernel
theorem zb_9_3 : zblk 9 3 = [.sipush 0, .ireturn] := by decide +kernel
theorem zb_10_0 : zblk 10 0 = [.aload 0, .getfield 69, .sipush 0, .invokestatic 253, .sipush 0, .istore 2] := by decide +kernel
theorem zb_10_1 : zblk 10 1 = [.iload 2, .aload 0, .getfield 68, .if_icmp .ge 3, .aload 0, .getfield 64, .iload 2, .iaload, .iload 1, .if_icmp .ne 2, .aload 0, .getfield 69, .aload 0, .getfield 66, .iload 2, .iaload, .sipush 1500, .isub, .dup2, .iaload, .sipush 1, .iadd, .iastore, .aload 0, .getfield 69, .aload 0, .getfield 67, .iload 2, .iaload, .sipush 1500, .isub, .sipush 1, .iadd, .dup2, .iaload, .sipush 1, .isub, .iastore] := by decide +kernel
theorem zb_10_2 : zblk 10 2 = [.iinc 2 1, .goto 1] := by decide +kernel
theorem zb_10_3 : zblk 10 3 = [.return_] := by decide +kernel
theorem zb_11_0 : zblk 11 0 = [.aload 0, .iload 1, .sipush 0, .invokevirtual 12, .pop, .aload 0, .getfield 70, .ireturn] := by decide +kernel
theorem zb_12_0 : zblk 12 0 = [.aload 0, .iload 1, .invokevirtual 10, .aload 0, .sipush 0, .putfield 70, .sipush 0, .istore 3, .sipush (-1), .istore 4, .sipush 0, .istore 5] := by decide +kernel
theorem zb_12_1 : zblk 12 1 = [.iload 5, .sipush 601, .if_icmp .ge 4, .iload 3, .aload 0, .getfield 69, .iload 5, .iaload, .iadd, .istore 3, .iload 3, .ifCond .le 3, .iload 4, .sipush (-1), .if_icmp .eq 2, .iload 4, .iload 5, .sipush 1, .isub, .if_icmp .ge 2, .aload 0, .iload 2, .iload 4, .sipush 1, .iadd, .iload 5, .sipush 1, .isub, .invokevirtual 13] := by decide +kernel
theorem zb_12_2 : zblk 12 2 = [.iload 5, .istore 4] := by decide +kernel
theorem zb_12_3 : zblk 12 3 = [.iinc 5 1, .goto 1] := by decide +kernel
theorem zb_12_4 : zblk 12 4 = [.iload 2, .aload 0, .getfield 70, .if_icmp .ge 5, .sipush 1, .goto 6] := by decide +kernel
theorem zb_12_5 : zblk 12 5 = [.sipush 0] := by decide +kernel
theorem zb_12_6 : zblk 12 6 = [.ireturn] := by decide +kernel
theorem zb_13_0 : zblk 13 0 = [.aload 0, .getfield 70, .iload 1, .if_icmp .ne 1, .aload 0, .sipush 1500, .iload 2, .iadd, .putfield 71, .aload 0, .sipush 1500, .iload 3, .iadd, .putfield 72] := by decide +kernel
theorem zb_13_1 : zblk 13 1 = [.aload 0, .dup, .getfield 70, .sipush 1, .iadd, .putfield 70, .return_] := by decide +kernel
theorem zb_14_0 : zblk 14 0 = [.sipush 0, .istore 2, .sipush 0, .istore 3] := by decide +kernel
theorem zb_14_1 : zblk 14 1 = [.iload 3, .aload 0, .getfield 68, .if_icmp .ge 5, .sipush 0, .istore 4] := by decide +kernel
theorem zb_14_2 : zblk 14 2 = [.iload 4, .iload 3, .if_icmp .ge 4, .aload 0, .getfield 64, .iload 3, .iaload, .iload 1, .if_icmp .ne 3, .aload 0, .getfield 64, .iload 4, .iaload, .iload 1, .if_icmp .ne 3, .aload 0, .getfield 65, .iload 3, .iaload, .aload 0, .getfield 65, .iload 4, .iaload, .if_icmp .eq 3, .aload 0, .getfield 66, .iload 3, .iaload, .aload 0, .getfield 67, .iload 4, .iaload, .if_icmp .gt 3, .aload 0, .getfield 66, .iload 4, .iaload, .aload 0, .getfield 67, .iload 3, .iaload, .if_icmp .gt 3, .iinc 2 1] := by decide +kernel
theorem zb_14_3 : zblk 14 3 = [.iinc 4 1, .goto 2] := by decide +kernel
theorem zb_14_4 : zblk 14 4 = [.iinc 3 1, .goto 1] := by decide +kernel
theorem zb_14_5 : zblk 14 5 = [.iload 2, .ireturn] := by decide +kernel
theorem zb_15_0 : zblk 15 0 = [.aload 0, .iload 1, .iload 2, .iload 3, .invokevirtual 16, .istore 4, .iload 4, .sipush (-1), .if_icmp .eq 1, .aload 0, .iload 1, .aload 0, .getfield 67, .iload 4, .iaload, .sipush 1, .iadd, .invokevirtual 9, .ifCond .eq 2] := by decide +kernel
theorem zb_15_1 : zblk 15 1 = [.sipush 0, .ireturn] := by decide +kernel
theorem zb_15_2 : zblk 15 2 = [.aload 0, .iload 1, .iload 3, .invokevirtual 17, .istore 5, .iload 5, .sipush (-1), .if_icmp .eq 3, .aload 0, .getfield 65, .iload 5, .iaload, .iload 2, .if_icmp .eq 3, .sipush 1, .goto 4] := by decide +kernel
theorem zb_15_3 : zblk 15 3 = [.sipush 0] := by decide +kernel
theorem zb_15_4 : zblk 15 4 = [.ireturn] := by decide +kernel
theorem zb_16_0 : zblk 16 0 = [.sipush 0, .istore 4] := by decide +kernel
theorem zb_16_1 : zblk 16 1 = [.iload 4, .aload 0, .getfield 68, .if_icmp .ge 3, .aload 0, .getfield 64, .iload 4, .iaload, .iload 1, .if_icmp .ne 2, .aload 0, .getfield 65, .iload 4, .iaload, .iload 2, .if_icmp .ne 2, .aload 0, .iload 4, .iload 3, .invokevirtual 8, .ifCond .eq 2, .iload 4, .ireturn] := by decide +kernel
theorem zb_16_2 : zblk 16 2 = [.iinc 4 1, .goto 1] := by decide +kernel
theorem zb_16_3 : zblk 16 3 = [.sipush (-1), .ireturn] := by decide +kernel
theorem zb_17_0 : zblk 17 0 = [.sipush (-1), .istore 3, .sipush 0, .istore 4] := by decide +kernel
theorem zb_17_1 : zblk 17 1 = [.iload 4, .aload 0, .getfield 68, .if_icmp .ge 4, .aload 0, .getfield 64, .iload 4, .iaload, .iload 1, .if_icmp .ne 3, .aload 0, .getfield 66, .iload 4, .iaload, .iload 2, .if_icmp .le 3, .iload 3, .sipush (-1), .if_icmp .eq 2, .aload 0, .getfield 66, .iload 4, .iaload, .aload 0, .getfield 66, .iload 3, .iaload, .if_icmp .ge 3] := by decide +kernel
theorem zb_17_2 : zblk 17 2 = [.iload 4, .istore 3] := by decide +kernel
theorem zb_17_3 : zblk 17 3 = [.iinc 4 1, .goto 1] := by decide +kernel
theorem zb_17_4 : zblk 17 4 = [.iload 3, .ireturn] := by decide +kernel
theorem zb_18_0 : zblk 18 0 = [.aload 0, .iload 1, .iload 3, .invokevirtual 9, .ifCond .ne 1, .aload 0, .iload 1, .iload 3, .invokevirtual 19, .ireturn] := by decide +kernel
theorem zb_18_1 : zblk 18 1 = [.aload 0, .iload 1, .iload 2, .iload 3, .invokevirtual 16, .sipush (-1), .if_icmp .eq 2, .aload 0, .iload 1, .iload 2, .iload 3, .invokevirtual 20, .ifCond .eq 2, .sipush 1, .goto 3] := by decide +kernel
theorem zb_18_2 : zblk 18 2 = [.sipush 0] := by decide +kernel
theorem zb_18_3 : zblk 18 3 = [.ireturn] := by decide +kernel
theorem zb_19_0 : zblk 19 0 = [.sipush 0, .istore 3, .sipush 0, .istore 4, .sipush 0, .istore 5] := by decide +kernel
theorem zb_19_1 : zblk 19 1 = [.iload 5, .aload 0, .getfield 68, .if_icmp .ge 9, .aload 0, .getfield 64, .iload 5, .iaload, .iload 1, .if_icmp .ne 8, .iload 3, .ifCond .ne 2, .aload 0, .getfield 67, .iload 5, .iaload, .iload 2, .if_icmp .ge 3] := by decide +kernel
theorem zb_19_2 : zblk 19 2 = [.sipush 1, .goto 4] := by decide +kernel
theorem zb_19_3 : zblk 19 3 = [.sipush 0] := by decide +kernel
theorem zb_19_4 : zblk 19 4 = [.istore 3, .iload 4, .ifCond .ne 5, .aload 0, .getfield 66, .iload 5, .iaload, .iload 2, .if_icmp .le 6] := by decide +kernel
theorem zb_19_5 : zblk 19 5 = [.sipush 1, .goto 7] := by decide +kernel
theorem zb_19_6 : zblk 19 6 = [.sipush 0] := by decide +kernel
theorem zb_19_7 : zblk 19 7 = [.istore 4] := by decide +kernel
theorem zb_19_8 : zblk 19 8 = [.iinc 5 1, .goto 1] := by decide +kernel
theorem zb_19_9 : zblk 19 9 = [.iload 3, .ifCond .eq 10, .iload 4, .ifCond .eq 10, .sipush 1, .goto 11] := by decide +kernel
theorem zb_19_10 : zblk 19 10 = [.sipush 0] := by decide +kernel
theorem zb_19_11 : zblk 19 11 = [.ireturn] := by decide +kernel
theorem zb_20_0 : zblk 20 0 = [.sipush 0, .istore 4] := by decide +kernel
theorem zb_20_1 : zblk 20 1 = [.iload 4, .aload 0, .getfield 68, .if_icmp .ge 3, .aload 0, .getfield 64, .iload 4, .iaload, .iload 1, .if_icmp .ne 2, .aload 0, .getfield 65, .iload 4, .iaload, .iload 2, .if_icmp .eq 2, .aload 0, .iload 4, .iload 3, .invokevirtual 8, .ifCond .eq 2, .sipush 1, .ireturn] := by decide +kernel
theorem zb_20_2 : zblk 20 2 = [.iinc 4 1, .goto 1] := by decide +kernel
theorem zb_20_3 : zblk 20 3 = [.sipush 0, .ireturn] := by decide +kernel
theorem zb_21_0 : zblk 21 0 = [.aload 0, .aload 1, .getfield 452, .putfield 128, .aload 0, .aload 2, .getfield 645, .putfield 129, .sipush 0, .istore 3] := by decide +kernel
theorem zb_21_1 : zblk 21 1 = [.iload 3, .aload 0, .getfield 128, .if_icmp .ge 6, .aload 0, .getfield 130, .iload 3, .aload 1, .getfield 448, .iload 3, .iaload, .iastore, .sipush 0, .istore 4] := by decide +kernel
theorem zb_21_2 : zblk 21 2 = [.iload 4, .aload 0, .getfield 129, .if_icmp .ge 5, .aload 0, .getfield 131, .iload 3, .aaload, .iload 4, .aload 1, .iload 3, .iload 4, .aload 2, .getfield 641, .iload 4, .iaload, .invokevirtual 64, .ifCond .eq 3, .aload 1, .getfield 451, .iload 3, .aaload, .iload 4, .iaload, .goto 4] := by decide +kernel
theorem zb_21_3 : zblk 21 3 = [.sipush 0] := by decide +kernel
theorem zb_21_4 : zblk 21 4 = [.iastore, .iinc 4 1, .goto 2] := by decide +kernel
theorem zb_21_5 : zblk 21 5 = [.iinc 3 1, .goto 1] := by decide +kernel
theorem zb_21_6 : zblk 21 6 = [.aload 0, .getfield 132, .sipush (-1), .invokestatic 253, .aload 0, .getfield 133, .sipush (-1), .invokestatic 253, .return_] := by decide +kernel
theorem zb_22_0 : zblk 22 0 = [.aload 0, .getfield 132, .iload 1, .iload 2, .iastore, .aload 0, .getfield 133, .iload 2, .iload 1, .iastore, .return_] := by decide +kernel
theorem zb_23_0 : zblk 23 0 = [.sipush 0, .istore 1, .sipush 0, .istore 2] := by decide +kernel
theorem zb_23_1 : zblk 23 1 = [.iload 2, .aload 0, .getfield 128, .if_icmp .ge 3, .aload 0, .getfield 132, .iload 2, .iaload, .ifCond .lt 2, .iload 1, .aload 0, .getfield 131, .iload 2, .aaload, .aload 0, .getfield 132, .iload 2, .iaload, .iaload, .iadd, .istore 1] := by decide +kernel
theorem zb_23_2 : zblk 23 2 = [.iinc 2 1, .goto 1] := by decide +kernel
theorem zb_23_3 : zblk 23 3 = [.iload 1, .ireturn] := by decide +kernel
theorem zb_24_0 : zblk 24 0 = [.aload 0, .getfield 134, .sipush 0, .invokestatic 253, .aload 0, .getfield 137, .lconst 0, .invokestatic 252, .aload 0, .getfield 138, .lconst 0, .invokestatic 252, .sipush 1, .istore 1] := by decide +kernel
theorem zb_24_1 : zblk 24 1 = [.iload 1, .aload 0, .getfield 128, .if_icmp .gt 2, .aload 0, .iload 1, .invokevirtual 25, .iinc 1 1, .goto 1] := by decide +kernel
theorem zb_24_2 : zblk 24 2 = [.sipush 1, .istore 1] := by decide +kernel
theorem zb_24_3 : zblk 24 3 = [.iload 1, .aload 0, .getfield 129, .if_icmp .gt 5, .aload 0, .getfield 134, .iload 1, .iaload, .ifCond .le 4, .aload 0, .getfield 131, .aload 0, .getfield 134, .iload 1, .iaload, .sipush 1, .isub, .aaload, .iload 1, .sipush 1, .isub, .iaload, .ifCond .le 4, .aload 0, .aload 0, .getfield 134, .iload 1, .iaload, .sipush 1, .isub, .iload 1, .sipush 1, .isub, .invokevirtual 22] := by decide +kernel
theorem zb_24_4 : zblk 24 4 = [.iinc 1 1, .goto 3] := by decide +kernel
theorem zb_24_5 : zblk 24 5 = [.return_] := by decide +kernel
theorem zb_25_0 : zblk 25 0 = [.aload 0, .getfield 136, .ldc2_w 1, .invokestatic 252, .aload 0, .getfield 134, .sipush 0, .iload 1, .iastore, .sipush 0, .istore 2, .sipush 0, .istore 3, .sipush 0, .istore 4] := by decide +kernel
theorem zb_25_1 : zblk 25 1 = [.iload 4, .sipush 20, .if_icmp .gt 2, .aload 0, .getfield 134, .iload 2, .iaload, .ifCond .eq 2, .iload 3, .sipush 1, .iload 2, .ishl, .ior, .istore 3, .aload 0, .iload 2, .iload 3, .invokevirtual 26, .aload 0, .iload 3, .invokevirtual 27, .istore 5, .aload 0, .aload 0, .getfield 136, .iload 5, .laload, .iload 3, .invokevirtual 28, .iload 5, .istore 2, .iinc 4 1, .goto 1] := by decide +kernel
theorem zb_25_2 : zblk 25 2 = [.sipush 0, .istore 4] := by decide +kernel
theorem zb_25_3 : zblk 25 3 = [.iload 4, .sipush 20, .if_icmp .gt 4, .iload 2, .ifCond .eq 4, .aload 0, .getfield 134, .iload 2, .aload 0, .getfield 134, .aload 0, .getfield 135, .iload 2, .iaload, .iaload, .iastore, .aload 0, .getfield 135, .iload 2, .iaload, .istore 2, .iinc 4 1, .goto 3] := by decide +kernel
theorem zb_25_4 : zblk 25 4 = [.return_] := by decide +kernel
theorem zb_26_0 : zblk 26 0 = [.aload 0, .getfield 134, .iload 1, .iaload, .istore 3, .sipush 1, .istore 4] := by decide +kernel
theorem zb_26_1 : zblk 26 1 = [.iload 4, .aload 0, .getfield 129, .aload 0, .getfield 128, .iadd, .if_icmp .gt 3, .aload 0, .iload 3, .iload 4, .invokevirtual 29, .aload 0, .getfield 138, .iload 3, .laload, .lsub, .aload 0, .getfield 137, .iload 4, .laload, .lsub, .lstore 5, .iload 2, .iload 4, .ishr, .sipush 1, .iand, .ifCond .ne 2, .lload 5, .aload 0, .getfield 136, .iload 4, .laload, .lcmp, .ifCond .ge 2, .aload 0, .getfield 136, .iload 4, .lload 5, .lastore, .aload 0, .getfield 135, .iload 4, .iload 1, .iastore] := by decide +kernel
theorem zb_26_2 : zblk 26 2 = [.iinc 4 1, .goto 1] := by decide +kernel
theorem zb_26_3 : zblk 26 3 = [.return_] := by decide +kernel
theorem zb_27_0 : zblk 27 0 = [.sipush 0, .istore 2, .sipush 1, .istore 3] := by decide +kernel
theorem zb_27_1 : zblk 27 1 = [.iload 3, .aload 0, .getfield 129, .aload 0, .getfield 128, .iadd, .if_icmp .gt 4, .iload 1, .iload 3, .ishr, .sipush 1, .iand, .ifCond .ne 3, .iload 2, .ifCond .eq 2, .aload 0, .getfield 136, .iload 3, .laload, .aload 0, .getfield 136, .iload 2, .laload, .lcmp, .ifCond .ge 3] := by decide +kernel
theorem zb_27_2 : zblk 27 2 = [.iload 3, .istore 2] := by decide +kernel
theorem zb_27_3 : zblk 27 3 = [.iinc 3 1, .goto 1] := by decide +kernel
theorem zb_27_4 : zblk 27 4 = [.iload 2, .ireturn] := by decide +kernel
theorem zb_28_0 : zblk 28 0 = [.sipush 0, .istore 4] := by decide +kernel
theorem zb_28_1 : zblk 28 1 = [.iload 4, .aload 0, .getfield 129, .aload 0, .getfield 128, .iadd, .if_icmp .gt 4, .iload 3, .iload 4, .ishr, .sipush 1, .iand, .ifCond .ne 2, .aload 0, .getfield 136, .iload 4, .dup2, .laload, .lload 1, .lsub, .lastore, .goto 3] := by decide +kernel
theorem zb_28_2 : zblk 28 2 = [.aload 0, .getfield 138, .aload 0, .getfield 134, .iload 4, .iaload, .dup2, .laload, .lload 1, .ladd, .lastore, .aload 0, .getfield 137, .iload 4, .dup2, .laload, .lload 1, .lsub, .lastore] := by decide +kernel
theorem zb_28_3 : zblk 28 3 = [.iinc 4 1, .goto 1] := by decide +kernel
theorem zb_28_4 : zblk 28 4 = [.return_] := by decide +kernel
theorem zb_29_0 : zblk 29 0 = [.getstatic 104, .iload 1, .sipush 1, .isub, .laload, .lstore 3, .iload 2, .aload 0, .getfield 129, .if_icmp .le 1, .ldc2_w 2, .lload 3, .lmul, .lreturn] := by decide +kernel
theorem zb_29_1 : zblk 29 1 = [.aload 0, .getfield 131, .iload 1, .sipush 1, .isub, .aaload, .iload 2, .sipush 1, .isub, .iaload, .istore 5, .iload 5, .ifCond .ne 2, .ldc2_w 3, .goto 3] := by decide +kernel
theorem zb_29_2 : zblk 29 2 = [.iload 2, .sipush 1, .isub, .i2l, .lload 3, .lmul, .iload 5, .i2l, .ldc2_w 4, .lmul, .lsub] := by decide +kernel
theorem zb_29_3 : zblk 29 3 = [.lreturn] := by decide +kernel
theorem zb_30_0 : zblk 30 0 = [.sipush 0, .istore 1, .sipush 0, .istore 2] := by decide +kernel
theorem zb_30_1 : zblk 30 1 = [.iload 2, .aload 0, .getfield 128, .if_icmp .ge 3, .aload 0, .iload 1, .invokevirtual 31, .istore 3, .aload 0, .iload 3, .invokevirtual 32, .istore 4, .iload 4, .sipush (-1), .if_icmp .eq 2, .aload 0, .iload 3, .iload 4, .invokevirtual 22] := by decide +kernel
theorem zb_30_2 : zblk 30 2 = [.iload 1, .sipush 1, .iload 3, .ishl, .ior, .istore 1, .iinc 2 1, .goto 1] := by decide +kernel
theorem zb_30_3 : zblk 30 3 = [.return_] := by decide +kernel
theorem zb_31_0 : zblk 31 0 = [.sipush (-1), .istore 2, .sipush 0, .istore 3] := by decide +kernel
theorem zb_31_1 : zblk 31 1 = [.iload 3, .aload 0, .getfield 128, .if_icmp .ge 4, .iload 1, .iload 3, .ishr, .sipush 1, .iand, .ifCond .ne 3, .iload 2, .sipush (-1), .if_icmp .eq 2, .aload 0, .iload 3, .iload 2, .invokevirtual 33, .ifCond .eq 3] := by decide +kernel
theorem zb_31_2 : zblk 31 2 = [.iload 3, .istore 2] := by decide +kernel
theorem zb_31_3 : zblk 31 3 = [.iinc 3 1, .goto 1] := by decide +kernel
theorem zb_31_4 : zblk 31 4 = [.iload 2, .sipush 0, .invokestatic 998, .ireturn] := by decide +kernel
theorem zb_32_0 : zblk 32 0 = [.sipush (-1), .istore 2, .sipush 0, .istore 3, .sipush 0, .istore 4] := by decide +kernel
theorem zb_32_1 : zblk 32 1 = [.iload 4, .aload 0, .getfield 129, .if_icmp .ge 3, .aload 0, .getfield 133, .iload 4, .iaload, .sipush (-1), .if_icmp .ne 2, .aload 0, .getfield 131, .iload 1, .aaload, .iload 4, .iaload, .iload 3, .if_icmp .le 2, .iload 4, .istore 2, .aload 0, .getfield 131, .iload 1, .aaload, .iload 4, .iaload, .istore 3] := by decide +kernel
theorem zb_32_2 : zblk 32 2 = [.iinc 4 1, .goto 1] := by decide +kernel
theorem zb_32_3 : zblk 32 3 = [.iload 2, .ireturn] := by decide +kernel
theorem zb_33_0 : zblk 33 0 = [.aload 0, .getfield 130, .iload 1, .iaload, .aload 0, .getfield 130, .iload 2, .iaload, .if_icmp .gt 1, .aload 0, .getfield 130, .iload 1, .iaload, .aload 0, .getfield 130, .iload 2, .iaload, .if_icmp .ne 2, .iload 1, .iload 2, .if_icmp .ge 2] := by decide +kernel
theorem zb_33_1 : zblk 33 1 = [.sipush 1, .goto 3] := by decide +kernel
theorem zb_33_2 : zblk 33 2 = [.sipush 0] := by decide +kernel
theorem zb_33_3 : zblk 33 3 = [.ireturn] := by decide +kernel
theorem zb_34_0 : zblk 34 0 = [.sipush 0, .istore 2] := by decide +kernel
theorem zb_34_1 : zblk 34 1 = [.iload 2, .aload 0, .getfield 128, .if_icmp .ge 5, .aload 1, .iload 2, .iaload, .istore 3, .iload 3, .sipush (-1), .if_icmp .eq 4, .iload 3, .ifCond .lt 2, .iload 3, .aload 0, .getfield 129, .if_icmp .ge 2, .aload 0, .getfield 131, .iload 2, .aaload, .iload 3, .iaload, .ifCond .eq 2, .aload 0, .getfield 133, .iload 3, .iaload, .sipush (-1), .if_icmp .eq 3] := by decide +kernel
theorem zb_34_2 : zblk 34 2 = [.sipush 0, .ireturn] := by decide +kernel
theorem zb_34_3 : zblk 34 3 = [.aload 0, .iload 2, .iload 3, .invokevirtual 22] := by decide +kernel
theorem zb_34_4 : zblk 34 4 = [.iinc 2 1, .goto 1] := by decide +kernel
theorem zb_34_5 : zblk 34 5 = [.sipush 1, .ireturn] := by decide +kernel
theorem zb_35_0 : zblk 35 0 = [.aload 0, .getfield 132, .iload 1, .iaload, .ifCond .ge 1, .sipush 0, .goto 2] := by decide +kernel
theorem zb_35_1 : zblk 35 1 = [.aload 0, .getfield 131, .iload 1, .aaload, .aload 0, .getfield 132, .iload 1, .iaload, .iaload] := by decide +kernel
theorem zb_35_2 : zblk 35 2 = [.istore 3, .aload 0, .getfield 131, .iload 1, .aaload, .iload 2, .iaload, .iload 3, .if_icmp .le 4, .aload 0, .getfield 133, .iload 2, .iaload, .sipush (-1), .if_icmp .eq 3, .aload 0, .iload 1, .aload 0, .getfield 133, .iload 2, .iaload, .invokevirtual 33, .ifCond .eq 4] := by decide +kernel
theorem zb_35_3 : zblk 35 3 = [.sipush 1, .goto 5] := by decide +kernel
theorem zb_35_4 : zblk 35 4 = [.sipush 0] := by decide +kernel
theorem zb_35_5 : zblk 35 5 = [.ireturn] := by decide +kernel
theorem zb_36_0 : zblk 36 0 = [.sipush 0, .istore 1, .sipush 0, .istore 2] := by decide +kernel
theorem zb_36_1 : zblk 36 1 = [.iload 2, .aload 0, .getfield 128, .if_icmp .ge 5, .sipush 0, .istore 3] := by decide +kernel
theorem zb_36_2 : zblk 36 2 = [.iload 3, .aload 0, .getfield 129, .if_icmp .ge 4, .aload 0, .iload 2, .iload 3, .invokevirtual 35, .ifCond .eq 3, .iinc 1 1] := by decide +kernel
theorem zb_36_3 : zblk 36 3 = [.iinc 3 1, .goto 2] := by decide +kernel
theorem zb_36_4 : zblk 36 4 = [.iinc 2 1, .goto 1] := by decide +kernel
theorem zb_36_5 : zblk 36 5 = [.iload 1, .ireturn] := by decide +kernel
theorem zb_37_0 : zblk 37 0 = [.iload 1, .istore 2, .sipush 0, .istore 3] := by decide +kernel
theorem zb_37_1 : zblk 37 1 = [.iload 3, .aload 0, .getfield 128, .if_icmp .ge 6, .sipush 0, .istore 4] := by decide +kernel
theorem zb_37_2 : zblk 37 2 = [.iload 4, .aload 0, .getfield 129, .if_icmp .ge 5, .aload 0, .iload 3, .iload 4, .invokevirtual 35, .ifCond .eq 4, .iload 2, .ifCond .ne 3, .sipush 10, .iload 3, .imul, .iload 4, .iadd, .ireturn] := by decide +kernel
theorem zb_37_3 : zblk 37 3 = [.iinc 2 (-1)] := by decide +kernel
theorem zb_37_4 : zblk 37 4 = [.iinc 4 1, .goto 2] := by decide +kernel
theorem zb_37_5 : zblk 37 5 = [.iinc 3 1, .goto 1] := by decide +kernel
theorem zb_37_6 : zblk 37 6 = [.sipush (-1), .ireturn] := by decide +kernel
theorem zb_38_0 : zblk 38 0 = [.iload 1, .ifCond .lt 1, .iload 1, .aload 0, .getfield 197, .if_icmp .ge 1, .sipush 1, .goto 2] := by decide +kernel
theorem zb_38_1 : zblk 38 1 = [.sipush 0] := by decide +kernel
theorem zb_38_2 : zblk 38 2 = [.ireturn] := by decide +kernel
theorem zb_39_0 : zblk 39 0 = [.aload 0, .getfield 197, .sipush 40, .if_icmp .lt 1, .sipush (-4), .ireturn] := by decide +kernel
theorem zb_39_1 : zblk 39 1 = [.aload 0, .getfield 192, .aload 0, .getfield 197, .iload 1, .iastore, .aload 0, .getfield 193, .aload 0, .getfield 197, .iload 2, .iastore, .aload 0, .getfield 194, .aload 0, .getfield 197, .iload 3, .iastore, .aload 0, .getfield 195, .aload 0, .getfield 197, .iload 4, .iastore, .aload 0, .getfield 196, .aload 0, .getfield 197, .sipush (-9), .iastore, .aload 0, .dup, .getfield 197, .dup_x1, .sipush 1, .iadd, .putfield 197, .ireturn] := by decide +kernel
theorem zb_40_0 : zblk 40 0 = [.sipush 0, .istore 5] := by decide +kernel
theorem zb_40_1 : zblk 40 1 = [.iload 5, .aload 0, .getfield 197, .if_icmp .ge 4, .aload 0, .getfield 192, .iload 5, .iaload, .iload 1, .if_icmp .eq 2, .aload 0, .getfield 193, .iload 5, .iaload, .iload 2, .if_icmp .ne 3] := by decide +kernel
theorem zb_40_2 : zblk 40 2 = [.aload 0, .getfield 194, .iload 5, .iaload, .iload 4, .if_icmp .gt 3, .aload 0, .getfield 195, .iload 5, .iaload, .iload 3, .if_icmp .lt 3, .sipush 1, .ireturn] := by decide +kernel
theorem zb_40_3 : zblk 40 3 = [.iinc 5 1, .goto 1] := by decide +kernel
theorem zb_40_4 : zblk 40 4 = [.sipush 0, .ireturn] := by decide +kernel
theorem zb_41_0 : zblk 41 0 = [.sipush 0, .istore 4] := by decide +kernel
theorem zb_41_1 : zblk 41 1 = [.iload 4, .aload 0, .getfield 197, .if_icmp .ge 3, .aload 1, .iload 4, .iaload, .iload 2, .if_icmp .ne 2, .aload 0, .getfield 194, .iload 4, .iaload, .iload 3, .if_icmp .gt 2, .aload 0, .getfield 195, .iload 4, .iaload, .iload 3, .if_icmp .lt 2, .iload 4, .ireturn] := by decide +kernel
theorem zb_41_2 : zblk 41 2 = [.iinc 4 1, .goto 1] := by decide +kernel
theorem zb_41_3 : zblk 41 3 = [.sipush (-9), .ireturn] := by decide +kernel
theorem zb_42_0 : zblk 42 0 = [.sipush 0, .istore 4] := by decide +kernel
theorem zb_42_1 : zblk 42 1 = [.iload 4, .aload 0, .getfield 197, .if_icmp .ge 3, .aload 0, .getfield 193, .iload 4, .iaload, .iload 1, .if_icmp .ne 2, .aload 0, .getfield 194, .iload 4, .iaload, .iload 2, .if_icmp .gt 2, .aload 0, .getfield 195, .iload 4, .iaload, .iload 3, .if_icmp .lt 2, .iload 4, .ireturn] := by decide +kernel
theorem zb_42_2 : zblk 42 2 = [.iinc 4 1, .goto 1] := by decide +kernel
theorem zb_42_3 : zblk 42 3 = [.sipush (-9), .ireturn] := by decide +kernel
theorem zb_43_0 : zblk 43 0 = [.aload 0, .getfield 259, .sipush 40, .if_icmp .lt 1, .sipush (-4), .ireturn] := by decide +kernel
theorem zb_43_1 : zblk 43 1 = [.aload 0, .getfield 256, .aload 0, .getfield 259, .iload 1, .iastore, .aload 0, .getfield 257, .aload 0, .getfield 259, .iload 2, .iastore, .aload 0, .getfield 258, .aload 0, .getfield 259, .iload 3, .iastore, .aload 0, .dup, .getfield 259, .dup_x1, .sipush 1, .iadd, .putfield 259, .ireturn] := by decide +kernel
theorem zb_44_0 : zblk 44 0 = [.sipush 0, .istore 3] := by decide +kernel
theorem zb_44_1 : zblk 44 1 = [.iload 3, .aload 0, .getfield 259, .if_icmp .ge 3, .aload 0, .getfield 256, .iload 3, .iaload, .iload 1, .if_icmp .ne 2, .aload 0, .getfield 257, .iload 3, .iaload, .iload 2, .if_icmp .ne 2, .sipush 1, .ireturn] := by decide +kernel
theorem zb_44_2 : zblk 44 2 = [.iinc 3 1, .goto 1] := by decide +kernel
theorem zb_44_3 : zblk 44 3 = [.sipush 0, .ireturn] := by decide +kernel
theorem zb_45_0 : zblk 45 0 = [.sipush (-9), .istore 3, .sipush 0, .istore 4] := by decide +kernel
theorem zb_45_1 : zblk 45 1 = [.iload 4, .aload 0, .getfield 259, .if_icmp .ge 4, .aload 0, .getfield 256, .iload 4, .iaload, .iload 1, .if_icmp .ne 3, .aload 0, .getfield 258, .iload 4, .iaload, .iload 2, .ishr, .sipush 1, .iand, .sipush 1, .if_icmp .ne 3, .iload 3, .sipush (-9), .if_icmp .eq 2, .aload 0, .getfield 257, .iload 4, .iaload, .iload 3, .if_icmp .ge 3] := by decide +kernel
theorem zb_45_2 : zblk 45 2 = [.aload 0, .getfield 257, .iload 4, .iaload, .istore 3] := by decide +kernel
theorem zb_45_3 : zblk 45 3 = [.iinc 4 1, .goto 1] := by decide +kernel
theorem zb_45_4 : zblk 45 4 = [.iload 3, .ireturn] := by decide +kernel
theorem zb_46_0 : zblk 46 0 = [.sipush 0, .istore 3, .sipush 0, .istore 4] := by decide +kernel
theorem zb_46_1 : zblk 46 1 = [.iload 4, .aload 0, .getfield 259, .if_icmp .ge 3, .aload 0, .getfield 256, .iload 4, .iaload, .iload 1, .if_icmp .ne 2, .aload 0, .getfield 257, .iload 4, .iaload, .iload 2, .if_icmp .ge 2, .iload 3, .aload 0, .getfield 257, .iload 4, .iaload, .sipush 1, .iadd, .invokestatic 998, .istore 3] := by decide +kernel
theorem zb_46_2 : zblk 46 2 = [.iinc 4 1, .goto 1] := by decide +kernel
theorem zb_46_3 : zblk 46 3 = [.iload 3, .ireturn] := by decide +kernel
theorem zb_47_0 : zblk 47 0 = [.sipush 0, .istore 2, .sipush 0, .istore 3] := by decide +kernel
theorem zb_47_1 : zblk 47 1 = [.iload 3, .aload 0, .getfield 259, .if_icmp .ge 3, .aload 0, .getfield 256, .iload 3, .iaload, .iload 1, .if_icmp .ne 2, .aload 0, .iload 1, .aload 0, .getfield 257, .iload 3, .iaload, .invokevirtual 48, .aload 0, .getfield 258, .iload 3, .iaload, .sipush (-1), .ixor, .iand, .ifCond .eq 2, .iinc 2 1] := by decide +kernel
theorem zb_47_2 : zblk 47 2 = [.iinc 3 1, .goto 1] := by decide +kernel
theorem zb_47_3 : zblk 47 3 = [.iload 2, .ireturn] := by decide +kernel
theorem zb_48_0 : zblk 48 0 = [.sipush 0, .istore 3, .sipush 0, .istore 4] := by decide +kernel
theorem zb_48_1 : zblk 48 1 = [.iload 4, .aload 0, .getfield 259, .if_icmp .ge 3, .aload 0, .getfield 256, .iload 4, .iaload, .iload 1, .if_icmp .ne 2, .aload 0, .getfield 257, .iload 4, .iaload, .iload 2, .if_icmp .ge 2, .iload 3, .aload 0, .getfield 258, .iload 4, .iaload, .ior, .istore 3] := by decide +kernel
theorem zb_48_2 : zblk 48 2 = [.iinc 4 1, .goto 1] := by decide +kernel
theorem zb_48_3 : zblk 48 3 = [.iload 3, .ireturn] := by decide +kernel
theorem zb_49_0 : zblk 49 0 = [.aload 0, .getfield 320, .sipush (-1), .invokestatic 253, .aload 0, .getfield 321, .sipush (-1), .invokestatic 253, .sipush 0, .istore 3] := by decide +kernel
theorem zb_49_1 : zblk 49 1 = [.iload 3, .aload 1, .getfield 197, .if_icmp .ge 3, .aload 1, .getfield 194, .iload 3, .iaload, .iload 2, .if_icmp .gt 2, .aload 1, .getfield 195, .iload 3, .iaload, .iload 2, .if_icmp .lt 2, .aload 0, .getfield 320, .aload 1, .getfield 192, .iload 3, .iaload, .aload 1, .getfield 193, .iload 3, .iaload, .iastore, .aload 0, .getfield 321, .aload 1, .getfield 193, .iload 3, .iaload, .aload 1, .getfield 192, .iload 3, .iaload, .iastore] := by decide +kernel
theorem zb_49_2 : zblk 49 2 = [.iinc 3 1, .goto 1] := by decide +kernel
theorem zb_49_3 : zblk 49 3 = [.return_] := by decide +kernel
theorem zb_50_0 : zblk 50 0 = [.sipush 0, .istore 4, .aload 0, .sipush 0, .putfield 322, .aload 0, .sipush 0, .putfield 324, .sipush 0, .istore 5] := by decide +kernel
theorem zb_50_1 : zblk 50 1 = [.iload 5, .iload 2, .if_icmp .ge 6, .aload 1, .iload 5, .iaload, .istore 6, .iload 6, .sipush (-1), .if_icmp .lt 2, .iload 6, .iload 3, .if_icmp .ge 2, .iload 6, .ifCond .lt 3, .iload 4, .iload 6, .ishr, .sipush 1, .iand, .sipush 1, .if_icmp .ne 3] := by decide +kernel
theorem zb_50_2 : zblk 50 2 = [.sipush 0, .ireturn] := by decide +kernel
theorem zb_50_3 : zblk 50 3 = [.aload 0, .getfield 320, .iload 5, .iaload, .sipush (-1), .if_icmp .eq 4, .aload 0, .getfield 320, .iload 5, .iaload, .iload 6, .if_icmp .eq 4, .aload 0, .dup, .getfield 322, .sipush 1, .iload 5, .ishl, .ior, .putfield 322] := by decide +kernel
theorem zb_50_4 : zblk 50 4 = [.iload 6, .ifCond .lt 5, .iload 4, .sipush 1, .iload 6, .ishl, .ior, .istore 4, .aload 0, .iload 5, .iload 6, .invokevirtual 51] := by decide +kernel
theorem zb_50_5 : zblk 50 5 = [.iinc 5 1, .goto 1] := by decide +kernel
theorem zb_50_6 : zblk 50 6 = [.sipush 1, .ireturn] := by decide +kernel
theorem zb_51_0 : zblk 51 0 = [.aload 0, .getfield 320, .iload 1, .iaload, .iload 2, .if_icmp .ne 1, .return_] := by decide +kernel
theorem zb_51_1 : zblk 51 1 = [.aload 0, .getfield 320, .iload 1, .iaload, .sipush (-1), .if_icmp .ne 2, .sipush 0, .goto 3] := by decide +kernel
theorem zb_51_2 : zblk 51 2 = [.sipush 1, .iload 1, .ishl] := by decide +kernel
theorem zb_51_3 : zblk 51 3 = [.istore 3, .aload 0, .getfield 321, .iload 2, .iaload, .sipush (-1), .if_icmp .ne 4, .sipush 0, .goto 5] := by decide +kernel
theorem zb_51_4 : zblk 51 4 = [.sipush 1, .aload 0, .getfield 321, .iload 2, .iaload, .ishl] := by decide +kernel
theorem zb_51_5 : zblk 51 5 = [.istore 4, .aload 0, .getfield 323, .aload 0, .getfield 324, .iload 3, .iload 4, .ior, .iastore, .aload 0, .dup, .getfield 324, .sipush 1, .iadd, .putfield 324, .return_] := by decide +kernel
theorem zb_52_0 : zblk 52 0 = [.aload 0, .getfield 322, .invokestatic 251, .istore 2, .iload 2, .iload 1, .invokestatic 53, .istore 3, .sipush 0, .istore 4, .iload 3, .ifCond .le 1, .iload 3, .iload 1, .imul, .iload 2, .isub, .istore 5, .iload 5, .aload 0, .iload 3, .sipush 1, .isub, .iload 1, .imul, .invokevirtual 54, .invokestatic 997, .istore 4] := by decide +kernel
theorem zb_52_1 : zblk 52 1 = [.iload 3, .aload 0, .getfield 324, .iload 4, .isub, .iload 1, .invokestatic 53, .iadd, .ireturn] := by decide +kernel
theorem zb_53_0 : zblk 53 0 = [.iload 1, .sipush 1, .if_icmp .ge 1, .sipush 0, .goto 2] := by decide +kernel
theorem zb_53_1 : zblk 53 1 = [.iload 0, .iload 1, .iadd, .sipush 1, .isub, .iload 1, .idiv] := by decide +kernel
theorem zb_53_2 : zblk 53 2 = [.ireturn] := by decide +kernel
theorem zb_54_0 : zblk 54 0 = [.sipush 0, .istore 2, .sipush 0, .istore 3] := by decide +kernel
theorem zb_54_1 : zblk 54 1 = [.iload 3, .sipush 1024, .if_icmp .ge 3, .iload 3, .aload 0, .getfield 322, .sipush (-1), .ixor, .iand, .ifCond .ne 2, .iload 3, .invokestatic 251, .iload 1, .if_icmp .ne 2, .iload 2, .aload 0, .iload 3, .invokevirtual 55, .invokestatic 998, .istore 2] := by decide +kernel
theorem zb_54_2 : zblk 54 2 = [.iinc 3 1, .goto 1] := by decide +kernel
theorem zb_54_3 : zblk 54 3 = [.iload 2, .ireturn] := by decide +kernel
theorem zb_55_0 : zblk 55 0 = [.sipush 0, .istore 2, .sipush 0, .istore 3] := by decide +kernel
theorem zb_55_1 : zblk 55 1 = [.iload 3, .aload 0, .getfield 324, .if_icmp .ge 3, .aload 0, .getfield 323, .iload 3, .iaload, .iload 1, .sipush (-1), .ixor, .iand, .ifCond .ne 2, .iinc 2 1] := by decide +kernel
theorem zb_55_2 : zblk 55 2 = [.iinc 3 1, .goto 1] := by decide +kernel
theorem zb_55_3 : zblk 55 3 = [.iload 2, .ireturn] := by decide +kernel
theorem zb_56_0 : zblk 56 0 = [.aload 0, .aload 1, .iload 2, .iload 3, .aload 0, .getfield 384, .aload 0, .getfield 385, .invokevirtual 57, .return_] := by decide +kernel
theorem zb_57_0 : zblk 57 0 = [.aload 0, .sipush 0, .putfield 387, .aload 0, .sipush 0, .putfield 388, .iload 2, .iload 5, .iload 3, .isub, .invokestatic 997, .sipush 1, .isub, .istore 6, .sipush 0, .iload 3, .ineg, .invokestatic 998, .istore 7] := by decide +kernel
theorem zb_57_1 : zblk 57 1 = [.iload 7, .iload 6, .if_icmp .ge 4, .aload 1, .iload 7, .invokestatic 58, .aload 4, .iload 3, .iload 7, .iadd, .invokestatic 58, .if_icmp .ne 2, .aload 0, .dup, .getfield 387, .sipush 1, .iadd, .putfield 387, .goto 3] := by decide +kernel
theorem zb_57_2 : zblk 57 2 = [.aload 0, .dup, .getfield 388, .sipush 1, .iadd, .putfield 388] := by decide +kernel
theorem zb_57_3 : zblk 57 3 = [.iinc 7 1, .goto 1] := by decide +kernel
theorem zb_57_4 : zblk 57 4 = [.return_] := by decide +kernel
theorem zb_58_0 : zblk 58 0 = [.aload 0, .iload 1, .iaload, .aload 0, .iload 1, .sipush 1, .iadd, .iaload, .if_icmp .ne 1, .sipush 0, .ireturn] := by decide +kernel
theorem zb_58_1 : zblk 58 1 = [.aload 0, .iload 1, .iaload, .aload 0, .iload 1, .sipush 1, .iadd, .iaload, .if_icmp .ge 2, .sipush 1, .goto 3] := by decide +kernel
theorem zb_58_2 : zblk 58 2 = [.sipush (-1)] := by decide +kernel
theorem zb_58_3 : zblk 58 3 = [.ireturn] := by decide +kernel
theorem zb_59_0 : zblk 59 0 = [.sipush 0, .istore 3, .sipush 1, .iload 2, .isub, .istore 4] := by decide +kernel
theorem zb_59_1 : zblk 59 1 = [.iload 4, .aload 0, .getfield 385, .if_icmp .ge 4, .aload 0, .aload 1, .iload 2, .iload 4, .invokevirtual 56, .aload 0, .getfield 387, .aload 0, .getfield 388, .iadd, .sipush 5, .if_icmp .lt 3, .iload 3, .ifCond .eq 2, .aload 0, .getfield 387, .aload 0, .getfield 388, .isub, .aload 0, .getfield 390, .if_icmp .le 3] := by decide +kernel
theorem zb_59_2 : zblk 59 2 = [.sipush 1, .istore 3, .aload 0, .iload 4, .putfield 389, .aload 0, .aload 0, .getfield 387, .aload 0, .getfield 388, .isub, .putfield 390] := by decide +kernel
theorem zb_59_3 : zblk 59 3 = [.iinc 4 1, .goto 1] := by decide +kernel
theorem zb_59_4 : zblk 59 4 = [.iload 3, .ireturn] := by decide +kernel
theorem zb_60_0 : zblk 60 0 = [.aload 1, .getfield 643, .iload 2, .iaload, .istore 4, .aload 1, .getfield 643, .iload 3, .iaload, .istore 5, .sipush 1, .iload 4, .isub, .istore 6] := by decide +kernel
theorem zb_60_1 : zblk 60 1 = [.iload 6, .iload 5, .if_icmp .ge 3, .aload 0, .aload 1, .getfield 644, .iload 2, .aaload, .iload 4, .iload 6, .aload 1, .getfield 644, .iload 3, .aaload, .iload 5, .invokevirtual 57, .aload 0, .getfield 388, .ifCond .ne 2, .aload 0, .getfield 387, .sipush 5, .if_icmp .lt 2, .sipush 1, .ireturn] := by decide +kernel
theorem zb_60_2 : zblk 60 2 = [.iinc 6 1, .goto 1] := by decide +kernel
theorem zb_60_3 : zblk 60 3 = [.sipush 0, .ireturn] := by decide +kernel
theorem zb_61_0 : zblk 61 0 = [.iload 1, .ifCond .lt 1, .iload 1, .aload 0, .getfield 452, .if_icmp .ge 1, .sipush 1, .goto 2] := by decide +kernel
theorem zb_61_1 : zblk 61 1 = [.sipush 0] := by decide +kernel
theorem zb_61_2 : zblk 61 2 = [.ireturn] := by decide +kernel
theorem zb_62_0 : zblk 62 0 = [.aload 0, .getfield 452, .sipush 10, .if_icmp .lt 1, .sipush (-4), .ireturn] := by decide +kernel
theorem zb_62_1 : zblk 62 1 = [.aload 0, .getfield 448, .aload 0, .getfield 452, .iload 1, .iastore, .aload 0, .dup, .getfield 452, .dup_x1, .sipush 1, .iadd, .putfield 452, .ireturn] := by decide +kernel
theorem zb_63_0 : zblk 63 0 = [.aload 0, .getfield 449, .iload 1, .iaload, .aload 0, .getfield 450, .iload 1, .iaload, .ior, .ireturn] := by decide +kernel
theorem zb_64_0 : zblk 64 0 = [.aload 0, .getfield 451, .iload 1, .aaload, .iload 2, .iaload, .ifCond .le 1, .aload 0, .iload 1, .invokevirtual 63, .iload 3, .ishr, .sipush 1, .iand, .ifCond .ne 1, .sipush 1, .goto 2] := by decide +kernel
theorem zb_64_1 : zblk 64 1 = [.sipush 0] := by decide +kernel
theorem zb_64_2 : zblk 64 2 = [.ireturn] := by decide +kernel
theorem zb_65_0 : zblk 65 0 = [.iload 1, .ifCond .lt 1, .iload 1, .sipush 4, .if_icmp .ge 1, .sipush 1, .goto 2] := by decide +kernel
theorem zb_65_1 : zblk 65 1 = [.sipush 0] := by decide +kernel
theorem zb_65_2 : zblk 65 2 = [.ireturn] := by decide +kernel
theorem zb_66_0 : zblk 66 0 = [.aload 0, .getfield 512, .iload 1, .iload 2, .iastore, .aload 0, .getfield 513, .iload 1, .iload 3, .iastore, .aload 0, .getfield 514, .iload 1, .aaload, .sipush 0, .invokestatic 253, .return_] := by decide +kernel
theorem zb_67_0 : zblk 67 0 = [.iload 0, .lookupswitch 3 #[(0, 1), (1, 2)]] := by decide +kernel
theorem zb_67_1 : zblk 67 1 = [.iload 1, .i2b, .ireturn] := by decide +kernel
theorem zb_67_2 : zblk 67 2 = [.iload 1, .i2s, .ireturn] := by decide +kernel
theorem zb_67_3 : zblk 67 3 = [.iload 1, .ireturn] := by decide +kernel
theorem zb_68_0 : zblk 68 0 = [.aload 0, .getfield 512, .iload 1, .iaload, .sipush (-1), .if_icmp .ne 1, .sipush 1, .ireturn] := by decide +kernel
theorem zb_68_1 : zblk 68 1 = [.iload 3, .ifCond .ge 2, .sipush 4, .ireturn] := by decide +kernel
theorem zb_68_2 : zblk 68 2 = [.iload 2, .ifCond .lt 3, .iload 2, .aload 0, .getfield 513, .iload 1, .iaload, .if_icmp .gt 3, .iload 3, .aload 0, .getfield 513, .iload 1, .iaload, .iload 2, .isub, .if_icmp .le 4] := by decide +kernel
theorem zb_68_3 : zblk 68 3 = [.sipush 3, .goto 5] := by decide +kernel
theorem zb_68_4 : zblk 68 4 = [.sipush 0] := by decide +kernel
theorem zb_68_5 : zblk 68 5 = [.ireturn] := by decide +kernel
theorem zb_69_0 : zblk 69 0 = [.aload 0, .getfield 512, .iload 1, .iaload, .sipush (-1), .if_icmp .eq 1, .aload 0, .getfield 512, .iload 1, .iaload, .iload 2, .if_icmp .eq 1, .sipush 2, .ireturn] := by decide +kernel
theorem zb_69_1 : zblk 69 1 = [.aload 0, .iload 1, .iload 3, .iload 4, .invokevirtual 68, .istore 5, .iload 5, .ifCond .ne 2, .aload 0, .getfield 514, .iload 1, .aaload, .iload 3, .aload 0, .getfield 515, .sipush 0, .iload 4, .invokestatic 999] := by decide +kernel
theorem zb_69_2 : zblk 69 2 = [.iload 5, .ireturn] := by decide +kernel
theorem zb_70_0 : zblk 70 0 = [.sipush 0, .istore 4] := by decide +kernel
theorem zb_70_1 : zblk 70 1 = [.iload 4, .iload 1, .if_icmp .ge 4, .iload 4, .aload 0, .getfield 515, .arraylength, .if_icmp .ge 4, .aload 0, .getfield 515, .iload 4, .iaload, .iload 2, .if_icmp .lt 2, .aload 0, .getfield 515, .iload 4, .iaload, .iload 3, .if_icmp .le 3] := by decide +kernel
theorem zb_70_2 : zblk 70 2 = [.sipush 0, .ireturn] := by decide +kernel
theorem zb_70_3 : zblk 70 3 = [.iinc 4 1, .goto 1] := by decide +kernel
theorem zb_70_4 : zblk 70 4 = [.sipush 1, .ireturn] := by decide +kernel
theorem zb_71_0 : zblk 71 0 = [.sipush 0, .istore 5, .sipush 0, .istore 6, .sipush 0, .istore 7, .sipush 0, .istore 8] := by decide +kernel
theorem zb_71_1 : zblk 71 1 = [.iload 8, .iload 1, .if_icmp .ge 8, .iload 8, .aload 0, .getfield 515, .arraylength, .if_icmp .ge 8, .aload 0, .getfield 515, .iload 8, .iaload, .istore 9, .iload 9, .iload 2, .if_icmp .lt 2, .iload 9, .iload 3, .if_icmp .gt 2, .sipush 0, .istore 6, .sipush 0, .istore 7, .goto 7] := by decide +kernel
theorem zb_71_2 : zblk 71 2 = [.iinc 6 1, .iload 7, .ifCond .ne 3, .iload 9, .sipush (-1), .if_icmp .eq 4] := by decide +kernel
theorem zb_71_3 : zblk 71 3 = [.sipush 1, .goto 5] := by decide +kernel
theorem zb_71_4 : zblk 71 4 = [.sipush 0] := by decide +kernel
theorem zb_71_5 : zblk 71 5 = [.istore 7, .iload 7, .ifCond .ne 6, .iload 4, .ifCond .ne 7] := by decide +kernel
theorem zb_71_6 : zblk 71 6 = [.iload 5, .iload 6, .invokestatic 998, .istore 5] := by decide +kernel
theorem zb_71_7 : zblk 71 7 = [.iinc 8 1, .goto 1] := by decide +kernel
theorem zb_71_8 : zblk 71 8 = [.iload 5, .ireturn] := by decide +kernel
theorem zb_72_0 : zblk 72 0 = [.iload 1, .ifCond .lt 1, .iload 1, .aload 0, .getfield 579, .if_icmp .ge 1, .sipush 1, .goto 2] := by decide +kernel
theorem zb_72_1 : zblk 72 1 = [.sipush 0] := by decide +kernel
theorem zb_72_2 : zblk 72 2 = [.ireturn] := by decide +kernel
theorem zb_73_0 : zblk 73 0 = [.aload 0, .getfield 579, .sipush 40, .if_icmp .lt 1, .sipush (-4), .ireturn] := by decide +kernel
theorem zb_73_1 : zblk 73 1 = [.aload 0, .getfield 576, .aload 0, .getfield 579, .iload 1, .iastore, .aload 0, .getfield 577, .aload 0, .getfield 579, .iload 2, .iastore, .aload 0, .getfield 578, .aload 0, .getfield 579, .iload 3, .iastore, .aload 0, .dup, .getfield 579, .dup_x1, .sipush 1, .iadd, .putfield 579, .ireturn] := by decide +kernel
theorem zb_74_0 : zblk 74 0 = [.sipush 0, .istore 4, .sipush 0, .istore 5] := by decide +kernel
theorem zb_74_1 : zblk 74 1 = [.iload 5, .aload 0, .getfield 579, .if_icmp .ge 3, .aload 0, .getfield 576, .iload 5, .iaload, .iload 1, .if_icmp .ne 2, .aload 0, .getfield 577, .iload 5, .iaload, .iload 2, .if_icmp .lt 2, .aload 0, .getfield 577, .iload 5, .iaload, .iload 3, .if_icmp .gt 2, .iinc 4 1] := by decide +kernel
theorem zb_74_2 : zblk 74 2 = [.iinc 5 1, .goto 1] := by decide +kernel
theorem zb_74_3 : zblk 74 3 = [.iload 4, .ireturn] := by decide +kernel
theorem zb_75_0 : zblk 75 0 = [.aload 0, .sipush 0, .putfield 582, .aload 0, .sipush 0, .putfield 583, .aload 0, .getfield 584, .sipush 0, .invokestatic 253, .aload 0, .getfield 579, .sipush 1, .isub, .istore 3] := by decide +kernel
theorem zb_75_1 : zblk 75 1 = [.iload 3, .ifCond .lt 4, .aload 0, .getfield 577, .iload 3, .iaload, .iload 1, .if_icmp .ne 3, .aload 2, .getfield 642, .aload 0, .getfield 576, .iload 3, .iaload, .iaload, .istore 4, .aload 0, .getfield 578, .iload 3, .iaload, .sipush (-1), .if_icmp .ne 2, .aload 0, .iload 4, .invokevirtual 76, .goto 3] := by decide +kernel
theorem zb_75_2 : zblk 75 2 = [.aload 0, .getfield 584, .aload 0, .getfield 578, .iload 3, .iaload, .dup2, .iaload, .iload 4, .iadd, .iastore] := by decide +kernel
theorem zb_75_3 : zblk 75 3 = [.iinc 3 (-1), .goto 1] := by decide +kernel
theorem zb_75_4 : zblk 75 4 = [.aload 0, .invokevirtual 77, .return_] := by decide +kernel
theorem zb_76_0 : zblk 76 0 = [.sipush 1, .aload 0, .getfield 583, .ishl, .istore 2, .sipush 2, .iload 2, .imul, .aload 0, .getfield 581, .arraylength, .if_icmp .le 1, .return_] := by decide +kernel
theorem zb_76_1 : zblk 76 1 = [.sipush 0, .istore 3] := by decide +kernel
theorem zb_76_2 : zblk 76 2 = [.iload 3, .iload 2, .if_icmp .ge 3, .aload 0, .getfield 581, .iload 2, .iload 3, .iadd, .aload 0, .getfield 581, .iload 3, .iaload, .iload 1, .iadd, .iastore, .iinc 3 1, .goto 2] := by decide +kernel
theorem zb_76_3 : zblk 76 3 = [.aload 0, .dup, .getfield 582, .iload 1, .iadd, .putfield 582, .aload 0, .dup, .getfield 583, .sipush 1, .iadd, .putfield 583, .return_] := by decide +kernel
theorem zb_77_0 : zblk 77 0 = [.aload 0, .sipush 0, .putfield 586, .aload 0, .aload 0, .sipush 0, .invokevirtual 78, .putfield 585, .sipush 1, .istore 1] := by decide +kernel
theorem zb_77_1 : zblk 77 1 = [.iload 1, .sipush 1, .aload 0, .getfield 583, .ishl, .if_icmp .ge 3, .aload 0, .iload 1, .invokevirtual 78, .istore 2, .iload 2, .aload 0, .getfield 585, .if_icmp .ge 2, .aload 0, .iload 2, .putfield 585, .aload 0, .iload 1, .putfield 586] := by decide +kernel
theorem zb_77_2 : zblk 77 2 = [.iinc 1 1, .goto 1] := by decide +kernel
theorem zb_77_3 : zblk 77 3 = [.return_] := by decide +kernel
theorem zb_78_0 : zblk 78 0 = [.aload 0, .getfield 584, .sipush 0, .iaload, .aload 0, .getfield 582, .iadd, .aload 0, .getfield 581, .iload 1, .iaload, .isub, .aload 0, .getfield 584, .sipush 1, .iaload, .aload 0, .getfield 581, .iload 1, .iaload, .iadd, .invokestatic 998, .ireturn] := by decide +kernel
theorem zb_79_0 : zblk 79 0 = [.aload 0, .getfield 578, .iload 1, .iaload, .sipush (-1), .if_icmp .eq 1, .aload 0, .getfield 578, .iload 1, .iaload, .ireturn] := by decide +kernel
theorem zb_79_1 : zblk 79 1 = [.sipush 0, .istore 2, .iload 1, .sipush 1, .iadd, .istore 3] := by decide +kernel
theorem zb_79_2 : zblk 79 2 = [.iload 3, .aload 0, .getfield 579, .if_icmp .ge 4, .aload 0, .getfield 577, .iload 3, .iaload, .aload 0, .getfield 577, .iload 1, .iaload, .if_icmp .ne 3, .aload 0, .getfield 578, .iload 3, .iaload, .sipush (-1), .if_icmp .ne 3, .iinc 2 1] := by decide +kernel
theorem zb_79_3 : zblk 79 3 = [.iinc 3 1, .goto 2] := by decide +kernel
theorem zb_79_4 : zblk 79 4 = [.aload 0, .getfield 586, .iload 2, .ishr, .sipush 1, .iand, .ireturn] := by decide +kernel
theorem zb_80_0 : zblk 80 0 = [.sipush 0, .istore 2, .sipush 0, .istore 3] := by decide +kernel
theorem zb_80_1 : zblk 80 1 = [.iload 3, .aload 0, .getfield 579, .if_icmp .ge 3, .aload 0, .iload 3, .invokevirtual 81, .ifCond .eq 2, .aload 0, .aload 0, .getfield 577, .iload 3, .iaload, .aload 1, .invokevirtual 75, .aload 0, .getfield 585, .aload 0, .getfield 580, .if_icmp .le 2, .iinc 2 1] := by decide +kernel
theorem zb_80_2 : zblk 80 2 = [.iinc 3 1, .goto 1] := by decide +kernel
theorem zb_80_3 : zblk 80 3 = [.iload 2, .ireturn] := by decide +kernel
theorem zb_81_0 : zblk 81 0 = [.sipush 0, .istore 2] := by decide +kernel
theorem zb_81_1 : zblk 81 1 = [.iload 2, .iload 1, .if_icmp .ge 3, .aload 0, .getfield 577, .iload 2, .iaload, .aload 0, .getfield 577, .iload 1, .iaload, .if_icmp .ne 2, .sipush 0, .ireturn] := by decide +kernel
theorem zb_81_2 : zblk 81 2 = [.iinc 2 1, .goto 1] := by decide +kernel
theorem zb_81_3 : zblk 81 3 = [.sipush 1, .ireturn] := by decide +kernel
theorem zb_82_0 : zblk 82 0 = [.iload 1, .ifCond .lt 1, .iload 1, .aload 0, .getfield 645, .if_icmp .ge 1, .sipush 1, .goto 2] := by decide +kernel
theorem zb_82_1 : zblk 82 1 = [.sipush 0] := by decide +kernel
theorem zb_82_2 : zblk 82 2 = [.ireturn] := by decide +kernel
theorem zb_83_0 : zblk 83 0 = [.aload 0, .getfield 645, .sipush 10, .if_icmp .lt 1, .sipush (-4), .ireturn] := by decide +kernel
theorem zb_83_1 : zblk 83 1 = [.aload 0, .getfield 640, .aload 0, .getfield 645, .iload 1, .iastore, .aload 0, .getfield 641, .aload 0, .getfield 645, .iload 2, .iastore, .aload 0, .getfield 642, .aload 0, .getfield 645, .iload 3, .iastore, .aload 0, .dup, .getfield 645, .dup_x1, .sipush 1, .iadd, .putfield 645, .ireturn] := by decide +kernel
theorem zb_84_0 : zblk 84 0 = [.iload 1, .sipush 0, .sipush 2, .invokestatic 133, .ifCond .eq 1, .iload 2, .sipush 0, .sipush 9, .invokestatic 133, .ifCond .eq 1, .iload 3, .sipush 1, .sipush 1000000, .invokestatic 133, .ifCond .ne 2] := by decide +kernel
theorem zb_84_1 : zblk 84 1 = [.sipush (-2), .ireturn] := by decide +kernel
theorem zb_84_2 : zblk 84 2 = [.aload 0, .getfield 704, .iload 1, .iload 2, .iload 3, .invokevirtual 83, .ireturn] := by decide +kernel
theorem zb_85_0 : zblk 85 0 = [.iload 1, .sipush 0, .sipush 99, .invokestatic 133, .ifCond .ne 1, .sipush (-2), .ireturn] := by decide +kernel
theorem zb_85_1 : zblk 85 1 = [.aload 0, .getfield 705, .iload 1, .invokevirtual 62, .ireturn] := by decide +kernel
theorem zb_86_0 : zblk 86 0 = [.aload 0, .getfield 705, .iload 1, .invokevirtual 61, .ifCond .eq 1, .aload 0, .getfield 704, .iload 2, .invokevirtual 82, .ifCond .ne 2] := by decide +kernel
theorem zb_86_1 : zblk 86 1 = [.sipush (-1), .ireturn] := by decide +kernel
theorem zb_86_2 : zblk 86 2 = [.iload 3, .sipush 0, .sipush 99, .invokestatic 133, .ifCond .ne 3, .sipush (-2), .ireturn] := by decide +kernel
theorem zb_86_3 : zblk 86 3 = [.aload 0, .getfield 705, .getfield 451, .iload 1, .aaload, .iload 2, .iaload, .istore 4, .aload 0, .getfield 705, .getfield 451, .iload 1, .aaload, .iload 2, .iload 3, .iastore, .iload 4, .ireturn] := by decide +kernel
theorem zb_87_0 : zblk 87 0 = [.aload 0, .getfield 705, .iload 1, .invokevirtual 61, .ifCond .ne 1, .sipush (-1), .ireturn] := by decide +kernel
theorem zb_87_1 : zblk 87 1 = [.iload 2, .sipush 0, .sipush 9, .invokestatic 133, .ifCond .ne 2, .sipush (-2), .ireturn] := by decide +kernel
theorem zb_87_2 : zblk 87 2 = [.aload 0, .getfield 705, .getfield 449, .iload 1, .iaload, .istore 4, .aload 0, .getfield 705, .getfield 449, .iload 1, .iload 3, .ifCond .eq 3, .iload 4, .sipush 1, .iload 2, .ishl, .ior, .goto 4] := by decide +kernel
theorem zb_87_3 : zblk 87 3 = [.iload 4, .sipush 1, .iload 2, .ishl, .sipush (-1), .ixor, .iand] := by decide +kernel
theorem zb_87_4 : zblk 87 4 = [.iastore, .aload 0, .getfield 705, .getfield 449, .iload 1, .iaload, .iload 4, .if_icmp .ne 5, .sipush 0, .goto 6] := by decide +kernel
theorem zb_87_5 : zblk 87 5 = [.sipush 1] := by decide +kernel
theorem zb_87_6 : zblk 87 6 = [.ireturn] := by decide +kernel
theorem zb_88_0 : zblk 88 0 = [.aload 0, .getfield 705, .iload 1, .invokevirtual 61, .ifCond .eq 1, .aload 0, .getfield 704, .iload 2, .invokevirtual 82, .ifCond .ne 2] := by decide +kernel
theorem zb_88_1 : zblk 88 1 = [.sipush (-1), .ireturn] := by decide +kernel
theorem zb_88_2 : zblk 88 2 = [.aload 0, .iload 1, .iload 2, .invokevirtual 139, .ifCond .eq 3, .sipush 1, .goto 4] := by decide +kernel
theorem zb_88_3 : zblk 88 3 = [.sipush 0] := by decide +kernel
theorem zb_88_4 : zblk 88 4 = [.ireturn] := by decide +kernel
theorem zb_89_0 : zblk 89 0 = [.aload 0, .getfield 704, .iload 1, .invokevirtual 82, .ifCond .ne 1, .sipush (-1), .ireturn] := by decide +kernel
theorem zb_89_1 : zblk 89 1 = [.iload 2, .lookupswitch 10 #[(0, 2), (1, 3), (2, 4), (3, 5), (4, 6), (5, 7), (6, 8), (7, 9)]] := by decide +kernel
theorem zb_89_2 : zblk 89 2 = [.aload 0, .getfield 704, .getfield 640, .iload 1, .iaload, .ireturn] := by decide +kernel
theorem zb_89_3 : zblk 89 3 = [.aload 0, .getfield 704, .getfield 641, .iload 1, .iaload, .ireturn] := by decide +kernel
theorem zb_89_4 : zblk 89 4 = [.aload 0, .getfield 704, .getfield 642, .iload 1, .iaload, .ireturn] := by decide +kernel
theorem zb_89_5 : zblk 89 5 = [.aload 0, .getfield 704, .getfield 643, .iload 1, .iaload, .ireturn] := by decide +kernel
theorem zb_89_6 : zblk 89 6 = [.aload 0, .getfield 706, .getfield 193, .aload 0, .getfield 706, .getfield 197, .iload 1, .invokestatic 135, .ireturn] := by decide +kernel
theorem zb_89_7 : zblk 89 7 = [.aload 0, .getfield 707, .getfield 256, .aload 0, .getfield 707, .getfield 259, .iload 1, .invokestatic 135, .ireturn] := by decide +kernel
theorem zb_89_8 : zblk 89 8 = [.aload 0, .getfield 708, .getfield 64, .aload 0, .getfield 708, .getfield 68, .iload 1, .invokestatic 135, .ireturn] := by decide +kernel
theorem zb_89_9 : zblk 89 9 = [.aload 0, .getfield 709, .getfield 576, .aload 0, .getfield 709, .getfield 579, .iload 1, .invokestatic 135, .ireturn] := by decide +kernel
theorem zb_89_10 : zblk 89 10 = [.sipush (-2), .ireturn] := by decide +kernel
theorem zb_90_0 : zblk 90 0 = [.aload 0, .getfield 705, .iload 1, .invokevirtual 61, .ifCond .ne 1, .sipush (-1), .ireturn] := by decide +kernel
theorem zb_90_1 : zblk 90 1 = [.iload 2, .lookupswitch 6 #[(0, 2), (1, 3), (2, 4), (3, 5)]] := by decide +kernel
theorem zb_90_2 : zblk 90 2 = [.aload 0, .getfield 705, .getfield 448, .iload 1, .iaload, .ireturn] := by decide +kernel
theorem zb_90_3 : zblk 90 3 = [.aload 0, .getfield 705, .iload 1, .invokevirtual 63, .ireturn] := by decide +kernel
theorem zb_90_4 : zblk 90 4 = [.aload 0, .iload 1, .invokevirtual 140, .ireturn] := by decide +kernel
theorem zb_90_5 : zblk 90 5 = [.aload 0, .getfield 706, .getfield 192, .aload 0, .getfield 706, .getfield 197, .iload 1, .invokestatic 135, .ireturn] := by decide +kernel
theorem zb_90_6 : zblk 90 6 = [.sipush (-2), .ireturn] := by decide +kernel
theorem zb_91_0 : zblk 91 0 = [.aload 0, .getfield 713, .aload 0, .getfield 705, .aload 0, .getfield 704, .invokevirtual 21, .aload 0, .getfield 713, .invokevirtual 24, .aload 0, .getfield 713, .invokevirtual 23, .ireturn] := by decide +kernel
theorem zb_92_0 : zblk 92 0 = [.aload 0, .getfield 705, .iload 1, .invokevirtual 61, .ifCond .ne 1, .sipush (-1), .ireturn] := by decide +kernel
theorem zb_92_1 : zblk 92 1 = [.iload 2, .sipush 0, .sipush 1, .invokestatic 133, .ifCond .ne 2, .sipush (-2), .ireturn] := by decide +kernel
theorem zb_92_2 : zblk 92 2 = [.aload 0, .getfield 713, .aload 0, .getfield 705, .aload 0, .getfield 704, .invokevirtual 21, .iload 2, .ifCond .ne 3, .aload 0, .getfield 713, .invokevirtual 24, .goto 4] := by decide +kernel
theorem zb_92_3 : zblk 92 3 = [.aload 0, .getfield 713, .invokevirtual 30] := by decide +kernel
theorem zb_92_4 : zblk 92 4 = [.aload 0, .getfield 713, .getfield 132, .iload 1, .iaload, .istore 3, .iload 3, .ifCond .ge 5, .sipush (-9), .goto 6] := by decide +kernel
theorem zb_92_5 : zblk 92 5 = [.iload 3] := by decide +kernel
theorem zb_92_6 : zblk 92 6 = [.ireturn] := by decide +kernel
theorem zb_93_0 : zblk 93 0 = [.aload 0, .iload 1, .iload 2, .iload 3, .invokevirtual 138, .istore 4, .iload 4, .ifCond .eq 1, .iload 4, .goto 2] := by decide +kernel
theorem zb_93_1 : zblk 93 1 = [.aload 0, .getfield 713, .invokevirtual 36] := by decide +kernel
theorem zb_93_2 : zblk 93 2 = [.ireturn] := by decide +kernel
theorem zb_94_0 : zblk 94 0 = [.aload 0, .sipush 0, .putfield 716, .iload 4, .ifCond .ge 1, .sipush (-1), .ireturn] := by decide +kernel
theorem zb_94_1 : zblk 94 1 = [.aload 0, .iload 1, .iload 2, .iload 3, .invokevirtual 138, .istore 5, .iload 5, .ifCond .eq 2, .iload 5, .goto 3] := by decide +kernel
theorem zb_94_2 : zblk 94 2 = [.aload 0, .getfield 713, .iload 4, .invokevirtual 37] := by decide +kernel
theorem zb_94_3 : zblk 94 3 = [.ireturn] := by decide +kernel
theorem zb_95_0 : zblk 95 0 = [.aload 0, .getfield 705, .iload 1, .invokevirtual 61, .ifCond .eq 1, .aload 0, .getfield 704, .iload 2, .invokevirtual 82, .ifCond .ne 2] := by decide +kernel
theorem zb_95_1 : zblk 95 1 = [.sipush (-1), .ireturn] := by decide +kernel
theorem zb_95_2 : zblk 95 2 = [.iload 3, .sipush 0, .sipush 100000, .invokestatic 133, .ifCond .eq 3, .iload 4, .iload 3, .sipush 100000, .invokestatic 133, .ifCond .ne 4] := by decide +kernel
theorem zb_95_3 : zblk 95 3 = [.sipush (-2), .ireturn] := by decide +kernel
theorem zb_95_4 : zblk 95 4 = [.aload 0, .iload 1, .iload 2, .invokevirtual 139, .ifCond .eq 5, .aload 0, .getfield 706, .iload 1, .iload 2, .iload 3, .iload 4, .invokevirtual 40, .ifCond .eq 6] := by decide +kernel
theorem zb_95_5 : zblk 95 5 = [.sipush (-3), .ireturn] := by decide +kernel
theorem zb_95_6 : zblk 95 6 = [.aload 0, .getfield 706, .iload 1, .iload 2, .iload 3, .iload 4, .invokevirtual 39, .istore 5, .iload 5, .ifCond .lt 7, .aload 0, .getfield 705, .getfield 450, .iload 1, .dup2, .iaload, .sipush 1, .aload 0, .getfield 704, .getfield 641, .iload 2, .iaload, .ishl, .ior, .iastore] := by decide +kernel
theorem zb_95_7 : zblk 95 7 = [.iload 5, .ireturn] := by decide +kernel
theorem zb_96_0 : zblk 96 0 = [.aload 0, .getfield 706, .iload 1, .invokevirtual 38, .ifCond .ne 1, .sipush (-1), .ireturn] := by decide +kernel
theorem zb_96_1 : zblk 96 1 = [.iload 2, .aload 0, .getfield 706, .getfield 194, .iload 1, .iaload, .aload 0, .getfield 706, .getfield 195, .iload 1, .iaload, .invokestatic 133, .ifCond .ne 2, .sipush (-2), .ireturn] := by decide +kernel
theorem zb_96_2 : zblk 96 2 = [.aload 0, .getfield 706, .getfield 195, .iload 1, .iaload, .istore 3, .aload 0, .getfield 706, .getfield 195, .iload 1, .iload 2, .iastore, .iload 3, .ireturn] := by decide +kernel
theorem zb_97_0 : zblk 97 0 = [.aload 0, .getfield 706, .iload 1, .invokevirtual 38, .ifCond .ne 1, .sipush (-1), .ireturn] := by decide +kernel
theorem zb_97_1 : zblk 97 1 = [.iload 2, .sipush 0, .sipush 100000, .invokestatic 133, .ifCond .ne 2, .sipush (-2), .ireturn] := by decide +kernel
theorem zb_97_2 : zblk 97 2 = [.aload 0, .getfield 706, .getfield 196, .iload 1, .iload 2, .iastore, .sipush 1, .ireturn] := by decide +kernel
theorem zb_98_0 : zblk 98 0 = [.aload 0, .getfield 706, .iload 1, .invokevirtual 38, .ifCond .ne 1, .sipush (-1), .ireturn] := by decide +kernel
theorem zb_98_1 : zblk 98 1 = [.iload 2, .lookupswitch 8 #[(0, 2), (1, 3), (2, 4), (3, 5), (4, 6), (5, 7)]] := by decide +kernel
theorem zb_98_2 : zblk 98 2 = [.aload 0, .getfield 706, .getfield 192, .iload 1, .iaload, .ireturn] := by decide +kernel
theorem zb_98_3 : zblk 98 3 = [.aload 0, .getfield 706, .getfield 193, .iload 1, .iaload, .ireturn] := by decide +kernel
theorem zb_98_4 : zblk 98 4 = [.aload 0, .getfield 706, .getfield 194, .iload 1, .iaload, .ireturn] := by decide +kernel
theorem zb_98_5 : zblk 98 5 = [.aload 0, .getfield 706, .getfield 195, .iload 1, .iaload, .ireturn] := by decide +kernel
theorem zb_98_6 : zblk 98 6 = [.aload 0, .getfield 706, .getfield 196, .iload 1, .iaload, .ireturn] := by decide +kernel
theorem zb_98_7 : zblk 98 7 = [.aload 0, .iload 1, .invokevirtual 141, .ireturn] := by decide +kernel
theorem zb_98_8 : zblk 98 8 = [.sipush (-2), .ireturn] := by decide +kernel
theorem zb_99_0 : zblk 99 0 = [.iload 1, .sipush 0, .sipush 1, .invokestatic 133, .ifCond .ne 1, .sipush (-2), .ireturn] := by decide +kernel
theorem zb_99_1 : zblk 99 1 = [.iload 1, .ifCond .ne 2, .aload 0, .getfield 704, .iload 2, .invokevirtual 82, .ifCond .ne 4, .goto 3] := by decide +kernel
theorem zb_99_2 : zblk 99 2 = [.aload 0, .getfield 705, .iload 2, .invokevirtual 61, .ifCond .ne 4] := by decide +kernel
theorem zb_99_3 : zblk 99 3 = [.sipush (-1), .ireturn] := by decide +kernel
theorem zb_99_4 : zblk 99 4 = [.iload 3, .sipush 0, .sipush 100000, .invokestatic 133, .ifCond .ne 5, .sipush (-2), .ireturn] := by decide +kernel
theorem zb_99_5 : zblk 99 5 = [.aload 0, .getfield 706, .iload 1, .ifCond .ne 6, .aload 0, .getfield 706, .getfield 193, .goto 7] := by decide +kernel
theorem zb_99_6 : zblk 99 6 = [.aload 0, .getfield 706, .getfield 192] := by decide +kernel
theorem zb_99_7 : zblk 99 7 = [.iload 2, .iload 3, .invokevirtual 41, .ireturn] := by decide +kernel
theorem zb_100_0 : zblk 100 0 = [.aload 0, .getfield 704, .iload 1, .invokevirtual 82, .ifCond .ne 1, .sipush (-1), .ireturn] := by decide +kernel
theorem zb_100_1 : zblk 100 1 = [.iload 2, .sipush 0, .sipush 100000, .invokestatic 133, .ifCond .eq 2, .iload 3, .sipush 0, .sipush 65535, .invokestatic 133, .ifCond .ne 3] := by decide +kernel
theorem zb_100_2 : zblk 100 2 = [.sipush (-2), .ireturn] := by decide +kernel
theorem zb_100_3 : zblk 100 3 = [.aload 0, .getfield 707, .iload 1, .iload 2, .invokevirtual 44, .ifCond .eq 4, .sipush (-3), .ireturn] := by decide +kernel
theorem zb_100_4 : zblk 100 4 = [.aload 0, .getfield 707, .iload 1, .iload 2, .iload 3, .invokevirtual 43, .ireturn] := by decide +kernel
theorem zb_101_0 : zblk 101 0 = [.aload 0, .getfield 704, .iload 1, .invokevirtual 82, .ifCond .eq 1, .iload 2, .sipush 0, .sipush 15, .invokestatic 133, .ifCond .ne 2] := by decide +kernel
theorem zb_101_1 : zblk 101 1 = [.sipush (-1), .ireturn] := by decide +kernel
theorem zb_101_2 : zblk 101 2 = [.iload 3, .sipush 0, .sipush 1, .invokestatic 133, .ifCond .ne 3, .sipush (-2), .ireturn] := by decide +kernel
theorem zb_101_3 : zblk 101 3 = [.aload 0, .getfield 707, .iload 1, .iload 2, .invokevirtual 45, .istore 4, .iload 4, .sipush (-9), .if_icmp .ne 4, .sipush (-9), .ireturn] := by decide +kernel
theorem zb_101_4 : zblk 101 4 = [.iload 3, .ifCond .ne 5, .aload 0, .getfield 707, .iload 1, .iload 4, .invokevirtual 46, .goto 6] := by decide +kernel
theorem zb_101_5 : zblk 101 5 = [.iload 4] := by decide +kernel
theorem zb_101_6 : zblk 101 6 = [.ireturn] := by decide +kernel
theorem zb_102_0 : zblk 102 0 = [.aload 0, .getfield 704, .iload 1, .invokevirtual 82, .ifCond .eq 1, .iload 2, .sipush 0, .sipush 15, .invokestatic 133, .ifCond .ne 2] := by decide +kernel
theorem zb_102_1 : zblk 102 1 = [.sipush (-1), .ireturn] := by decide +kernel
theorem zb_102_2 : zblk 102 2 = [.aload 0, .getfield 707, .iload 1, .iload 2, .invokevirtual 45, .istore 3, .iload 3, .sipush (-9), .if_icmp .ne 3, .sipush (-9), .ireturn] := by decide +kernel
theorem zb_102_3 : zblk 102 3 = [.aload 0, .getfield 706, .iload 1, .aload 0, .getfield 707, .iload 1, .iload 3, .invokevirtual 46, .iload 3, .invokevirtual 42, .ireturn] := by decide +kernel
theorem zb_103_0 : zblk 103 0 = [.aload 0, .getfield 704, .iload 1, .invokevirtual 82, .ifCond .eq 1, .aload 0, .getfield 707, .iload 1, .invokevirtual 47, .goto 2] := by decide +kernel
theorem zb_103_1 : zblk 103 1 = [.sipush (-1)] := by decide +kernel
theorem zb_103_2 : zblk 103 2 = [.ireturn] := by decide +kernel
theorem zb_104_0 : zblk 104 0 = [.aload 0, .sipush 0, .putfield 716, .aload 0, .getfield 710, .iload 3, .invokevirtual 65, .ifCond .ne 1, .sipush (-1), .ireturn] := by decide +kernel
theorem zb_104_1 : zblk 104 1 = [.iload 4, .invokestatic 134, .ifCond .eq 2, .iload 1, .sipush 0, .sipush 100000, .invokestatic 133, .ifCond .eq 2, .iload 2, .sipush 1, .sipush 9, .invokestatic 133, .ifCond .ne 3] := by decide +kernel
theorem zb_104_2 : zblk 104 2 = [.sipush (-2), .ireturn] := by decide +kernel
theorem zb_104_3 : zblk 104 3 = [.aload 0, .aload 0, .getfield 710, .iload 3, .iload 4, .iload 5, .aload 0, .getfield 705, .getfield 452, .invokevirtual 69, .invokevirtual 136, .istore 6, .iload 6, .ifCond .eq 4, .iload 6, .ireturn] := by decide +kernel
theorem zb_104_4 : zblk 104 4 = [.aload 0, .getfield 714, .aload 0, .getfield 706, .iload 1, .invokevirtual 49, .aload 0, .getfield 714, .aload 0, .getfield 710, .getfield 515, .aload 0, .getfield 705, .getfield 452, .aload 0, .getfield 704, .getfield 645, .invokevirtual 50, .ifCond .ne 5, .sipush (-2), .ireturn] := by decide +kernel
theorem zb_104_5 : zblk 104 5 = [.aload 0, .getfield 714, .iload 2, .invokevirtual 52, .ireturn] := by decide +kernel
theorem zb_105_0 : zblk 105 0 = [.aload 0, .getfield 704, .iload 1, .invokevirtual 82, .ifCond .ne 1, .sipush (-1), .ireturn] := by decide +kernel
theorem zb_105_1 : zblk 105 1 = [.iload 2, .sipush 0, .sipush 99, .invokestatic 133, .ifCond .eq 2, .iload 3, .sipush 1500, .sipush 2100, .invokestatic 133, .ifCond .eq 2, .iload 4, .iload 3, .sipush 2100, .invokestatic 133, .ifCond .ne 3] := by decide +kernel
theorem zb_105_2 : zblk 105 2 = [.sipush (-2), .ireturn] := by decide +kernel
theorem zb_105_3 : zblk 105 3 = [.aload 0, .getfield 708, .iload 1, .iload 2, .iload 3, .iload 4, .invokevirtual 7, .ireturn] := by decide +kernel
theorem zb_106_0 : zblk 106 0 = [.aload 0, .getfield 704, .iload 1, .invokevirtual 82, .ifCond .ne 1, .sipush (-1), .ireturn] := by decide +kernel
theorem zb_106_1 : zblk 106 1 = [.iload 2, .lookupswitch 4 #[(0, 2), (1, 3)]] := by decide +kernel
theorem zb_106_2 : zblk 106 2 = [.aload 0, .getfield 708, .iload 1, .invokevirtual 11, .ireturn] := by decide +kernel
theorem zb_106_3 : zblk 106 3 = [.aload 0, .getfield 708, .iload 1, .invokevirtual 14, .ireturn] := by decide +kernel
theorem zb_106_4 : zblk 106 4 = [.sipush (-2), .ireturn] := by decide +kernel
theorem zb_107_0 : zblk 107 0 = [.aload 0, .getfield 704, .iload 1, .invokevirtual 82, .ifCond .eq 1, .iload 2, .ifCond .lt 1, .aload 0, .getfield 708, .iload 1, .iload 2, .invokevirtual 12, .ifCond .ne 2] := by decide +kernel
theorem zb_107_1 : zblk 107 1 = [.sipush (-1), .ireturn] := by decide +kernel
theorem zb_107_2 : zblk 107 2 = [.iload 3, .lookupswitch 5 #[(0, 3), (1, 4)]] := by decide +kernel
theorem zb_107_3 : zblk 107 3 = [.aload 0, .getfield 708, .getfield 71, .ireturn] := by decide +kernel
theorem zb_107_4 : zblk 107 4 = [.aload 0, .getfield 708, .getfield 72, .ireturn] := by decide +kernel
theorem zb_107_5 : zblk 107 5 = [.sipush (-2), .ireturn] := by decide +kernel
theorem zb_108_0 : zblk 108 0 = [.aload 0, .getfield 704, .iload 1, .invokevirtual 82, .ifCond .ne 1, .sipush (-1), .ireturn] := by decide +kernel
theorem zb_108_1 : zblk 108 1 = [.iload 2, .sipush 0, .sipush 99, .invokestatic 133, .ifCond .eq 2, .iload 3, .sipush 1500, .sipush 2100, .invokestatic 133, .ifCond .ne 3] := by decide +kernel
theorem zb_108_2 : zblk 108 2 = [.sipush (-2), .ireturn] := by decide +kernel
theorem zb_108_3 : zblk 108 3 = [.aload 0, .getfield 708, .iload 1, .iload 2, .iload 3, .invokevirtual 15, .ifCond .eq 4, .sipush 2, .ireturn] := by decide +kernel
theorem zb_108_4 : zblk 108 4 = [.aload 0, .getfield 708, .iload 1, .iload 2, .iload 3, .invokevirtual 18, .ifCond .eq 5, .sipush 1, .goto 6] := by decide +kernel
theorem zb_108_5 : zblk 108 5 = [.sipush 0] := by decide +kernel
theorem zb_108_6 : zblk 108 6 = [.ireturn] := by decide +kernel
theorem zb_109_0 : zblk 109 0 = [.aload 0, .getfield 704, .iload 1, .invokevirtual 82, .ifCond .ne 1, .sipush (-1), .ireturn] := by decide +kernel
theorem zb_109_1 : zblk 109 1 = [.iload 2, .sipush 0, .sipush 100000, .invokestatic 133, .ifCond .eq 2, .iload 3, .sipush (-1), .sipush 1, .invokestatic 133, .ifCond .ne 3] := by decide +kernel
theorem zb_109_2 : zblk 109 2 = [.sipush (-2), .ireturn] := by decide +kernel
theorem zb_109_3 : zblk 109 3 = [.aload 0, .getfield 709, .iload 1, .iload 2, .iload 2, .invokevirtual 74, .ifCond .le 4, .sipush (-3), .ireturn] := by decide +kernel
theorem zb_109_4 : zblk 109 4 = [.aload 0, .getfield 709, .iload 1, .iload 2, .iload 3, .invokevirtual 73, .ireturn] := by decide +kernel
theorem zb_110_0 : zblk 110 0 = [.aload 0, .getfield 709, .iload 1, .invokevirtual 72, .ifCond .ne 1, .sipush (-1), .ireturn] := by decide +kernel
theorem zb_110_1 : zblk 110 1 = [.iload 2, .sipush (-1), .sipush 1, .invokestatic 133, .ifCond .ne 2, .sipush (-2), .ireturn] := by decide +kernel
theorem zb_110_2 : zblk 110 2 = [.aload 0, .getfield 709, .getfield 578, .iload 1, .iaload, .istore 3, .aload 0, .getfield 709, .getfield 578, .iload 1, .iload 2, .iastore, .iload 3, .sipush (-1), .if_icmp .ne 3, .sipush (-9), .goto 4] := by decide +kernel
theorem zb_110_3 : zblk 110 3 = [.iload 3] := by decide +kernel
theorem zb_110_4 : zblk 110 4 = [.ireturn] := by decide +kernel
theorem zb_111_0 : zblk 111 0 = [.iload 1, .sipush 0, .sipush 100000, .invokestatic 133, .ifCond .ne 1, .sipush (-2), .ireturn] := by decide +kernel
theorem zb_111_1 : zblk 111 1 = [.aload 0, .getfield 709, .iload 1, .aload 0, .getfield 704, .invokevirtual 75, .aload 0, .getfield 709, .getfield 585, .ireturn] := by decide +kernel
theorem zb_112_0 : zblk 112 0 = [.aload 0, .getfield 709, .iload 1, .invokevirtual 72, .ifCond .ne 1, .sipush (-1), .ireturn] := by decide +kernel
theorem zb_112_1 : zblk 112 1 = [.aload 0, .getfield 709, .aload 0, .getfield 709, .getfield 577, .iload 1, .iaload, .aload 0, .getfield 704, .invokevirtual 75, .aload 0, .getfield 709, .iload 1, .invokevirtual 79, .ireturn] := by decide +kernel
theorem zb_113_0 : zblk 113 0 = [.iload 1, .sipush 1, .sipush 100000000, .invokestatic 133, .ifCond .ne 1, .sipush (-2), .ireturn] := by decide +kernel
theorem zb_113_1 : zblk 113 1 = [.aload 0, .getfield 709, .getfield 580, .istore 2, .aload 0, .getfield 709, .iload 1, .putfield 580, .iload 2, .ireturn] := by decide +kernel
theorem zb_114_0 : zblk 114 0 = [.aload 0, .getfield 709, .aload 0, .getfield 704, .invokevirtual 80, .ireturn] := by decide +kernel
theorem zb_115_0 : zblk 115 0 = [.aload 0, .sipush 0, .putfield 716, .aload 0, .getfield 710, .iload 1, .invokevirtual 65, .ifCond .ne 1, .sipush (-1), .ireturn] := by decide +kernel
theorem zb_115_1 : zblk 115 1 = [.iload 2, .invokestatic 134, .ifCond .eq 2, .iload 5, .sipush 0, .sipush 100, .invokestatic 133, .ifCond .eq 2, .iload 6, .iload 5, .sipush 100, .invokestatic 133, .ifCond .eq 2, .iload 7, .sipush 0, .sipush 1, .invokestatic 133, .ifCond .ne 3] := by decide +kernel
theorem zb_115_2 : zblk 115 2 = [.sipush (-2), .ireturn] := by decide +kernel
theorem zb_115_3 : zblk 115 3 = [.aload 0, .aload 0, .getfield 710, .iload 1, .iload 2, .iload 3, .iload 4, .invokevirtual 69, .invokevirtual 136, .istore 8, .iload 8, .ifCond .eq 4, .iload 8, .ireturn] := by decide +kernel
theorem zb_115_4 : zblk 115 4 = [.aload 0, .getfield 710, .iload 4, .sipush (-1), .sipush 100, .invokevirtual 70, .ifCond .ne 5, .sipush (-2), .ireturn] := by decide +kernel
theorem zb_115_5 : zblk 115 5 = [.aload 0, .getfield 710, .iload 4, .iload 5, .iload 6, .iload 7, .sipush 1, .if_icmp .ne 6, .sipush 1, .goto 7] := by decide +kernel
theorem zb_115_6 : zblk 115 6 = [.sipush 0] := by decide +kernel
theorem zb_115_7 : zblk 115 7 = [.invokevirtual 71, .ireturn] := by decide +kernel
theorem zb_116_0 : zblk 116 0 = [.aload 0, .sipush 0, .putfield 716, .aload 0, .getfield 704, .iload 1, .invokevirtual 82, .ifCond .eq 1, .aload 0, .getfield 710, .iload 2, .invokevirtual 65, .ifCond .ne 2] := by decide +kernel
theorem zb_116_1 : zblk 116 1 = [.sipush (-1), .ireturn] := by decide +kernel
theorem zb_116_2 : zblk 116 2 = [.iload 3, .invokestatic 134, .ifCond .ne 3, .sipush (-2), .ireturn] := by decide +kernel
theorem zb_116_3 : zblk 116 3 = [.aload 0, .aload 0, .getfield 710, .iload 2, .iload 3, .iload 4, .iload 5, .invokevirtual 69, .invokevirtual 136, .istore 6, .iload 6, .ifCond .eq 4, .iload 6, .ireturn] := by decide +kernel
theorem zb_116_4 : zblk 116 4 = [.iload 5, .sipush 20, .if_icmp .gt 5, .aload 0, .getfield 710, .iload 5, .sipush 1, .sipush 255, .invokevirtual 70, .ifCond .ne 6] := by decide +kernel
theorem zb_116_5 : zblk 116 5 = [.sipush (-2), .ireturn] := by decide +kernel
theorem zb_116_6 : zblk 116 6 = [.aload 0, .getfield 710, .getfield 515, .sipush 0, .aload 0, .getfield 704, .getfield 644, .iload 1, .aaload, .sipush 0, .iload 5, .invokestatic 999, .aload 0, .getfield 704, .getfield 643, .iload 1, .iload 5, .iastore, .iload 5, .ireturn] := by decide +kernel
theorem zb_117_0 : zblk 117 0 = [.aload 0, .sipush 0, .putfield 716, .aload 0, .getfield 710, .iload 1, .invokevirtual 65, .ifCond .ne 1, .sipush (-1), .ireturn] := by decide +kernel
theorem zb_117_1 : zblk 117 1 = [.iload 2, .invokestatic 134, .ifCond .eq 2, .iload 5, .sipush 0, .sipush 2100, .invokestatic 133, .ifCond .ne 3] := by decide +kernel
theorem zb_117_2 : zblk 117 2 = [.sipush (-2), .ireturn] := by decide +kernel
theorem zb_117_3 : zblk 117 3 = [.aload 0, .aload 0, .getfield 710, .iload 1, .iload 2, .iload 3, .iload 4, .invokevirtual 69, .invokevirtual 136, .istore 6, .iload 6, .ifCond .eq 4, .iload 6, .ireturn] := by decide +kernel
theorem zb_117_4 : zblk 117 4 = [.aload 0, .getfield 710, .iload 4, .sipush 1, .sipush 255, .invokevirtual 70, .ifCond .ne 5, .sipush (-2), .ireturn] := by decide +kernel
theorem zb_117_5 : zblk 117 5 = [.aload 0, .getfield 710, .getfield 515, .sipush 0, .aload 0, .getfield 711, .getfield 384, .sipush 0, .iload 4, .invokestatic 999, .aload 0, .getfield 711, .iload 4, .putfield 385, .aload 0, .getfield 711, .iload 5, .putfield 386, .iload 4, .ireturn] := by decide +kernel
theorem zb_118_0 : zblk 118 0 = [.aload 0, .getfield 704, .iload 1, .invokevirtual 82, .ifCond .eq 1, .iload 3, .sipush 0, .sipush 1, .invokestatic 133, .ifCond .ne 2] := by decide +kernel
theorem zb_118_1 : zblk 118 1 = [.ldc2_w 0, .lreturn] := by decide +kernel
theorem zb_118_2 : zblk 118 2 = [.aload 0, .getfield 704, .getfield 643, .iload 1, .iaload, .istore 4, .iload 4, .ifCond .eq 3, .aload 0, .getfield 711, .getfield 385, .ifCond .eq 3, .iload 2, .sipush 1, .iload 4, .isub, .aload 0, .getfield 711, .getfield 385, .sipush 1, .isub, .invokestatic 133, .ifCond .ne 4] := by decide +kernel
theorem zb_118_3 : zblk 118 3 = [.ldc2_w 0, .lreturn] := by decide +kernel
theorem zb_118_4 : zblk 118 4 = [.aload 0, .getfield 711, .aload 0, .getfield 704, .getfield 644, .iload 1, .aaload, .iload 4, .iload 2, .invokevirtual 56, .iload 3, .ifCond .ne 5, .aload 0, .getfield 711, .getfield 387, .aload 0, .getfield 711, .getfield 388, .isub, .i2l, .goto 6] := by decide +kernel
theorem zb_118_5 : zblk 118 5 = [.aload 0, .getfield 711, .getfield 387, .aload 0, .getfield 711, .getfield 388, .iadd, .i2l] := by decide +kernel
theorem zb_118_6 : zblk 118 6 = [.lreturn] := by decide +kernel
theorem zb_119_0 : zblk 119 0 = [.aload 0, .getfield 704, .iload 1, .invokevirtual 82, .ifCond .eq 1, .aload 0, .getfield 711, .aload 0, .getfield 704, .getfield 644, .iload 1, .aaload, .aload 0, .getfield 704, .getfield 643, .iload 1, .iaload, .invokevirtual 59, .ifCond .ne 2] := by decide +kernel
theorem zb_119_1 : zblk 119 1 = [.ldc2_w 0, .lreturn] := by decide +kernel
theorem zb_119_2 : zblk 119 2 = [.iload 2, .lookupswitch 6 #[(0, 3), (1, 4), (2, 5)]] := by decide +kernel
theorem zb_119_3 : zblk 119 3 = [.aload 0, .getfield 711, .getfield 389, .i2l, .lreturn] := by decide +kernel
theorem zb_119_4 : zblk 119 4 = [.aload 0, .getfield 711, .getfield 390, .i2l, .lreturn] := by decide +kernel
theorem zb_119_5 : zblk 119 5 = [.aload 0, .getfield 711, .getfield 386, .aload 0, .getfield 711, .getfield 389, .iadd, .aload 0, .getfield 704, .getfield 643, .iload 1, .iaload, .iadd, .sipush 1, .isub, .i2l, .lreturn] := by decide +kernel
theorem zb_119_6 : zblk 119 6 = [.ldc2_w 0, .lreturn] := by decide +kernel
theorem zb_120_0 : zblk 120 0 = [.aload 0, .getfield 704, .iload 1, .invokevirtual 82, .ifCond .eq 1, .aload 0, .getfield 704, .iload 2, .invokevirtual 82, .ifCond .ne 2] := by decide +kernel
theorem zb_120_1 : zblk 120 1 = [.sipush (-1), .ireturn] := by decide +kernel
theorem zb_120_2 : zblk 120 2 = [.iload 1, .iload 2, .if_icmp .ne 3, .sipush (-3), .ireturn] := by decide +kernel
theorem zb_120_3 : zblk 120 3 = [.aload 0, .getfield 711, .aload 0, .getfield 704, .iload 1, .iload 2, .invokevirtual 60, .ifCond .eq 4, .sipush 1, .goto 5] := by decide +kernel
theorem zb_120_4 : zblk 120 4 = [.sipush 0] := by decide +kernel
theorem zb_120_5 : zblk 120 5 = [.ireturn] := by decide +kernel
theorem zb_121_0 : zblk 121 0 = [.aload 0, .iload 1, .iload 2, .iload 3, .iload 4, .invokevirtual 137, .istore 5, .iload 5, .ifCond .eq 1, .iload 5, .ireturn] := by decide +kernel
theorem zb_121_1 : zblk 121 1 = [.aload 0, .getfield 712, .aload 0, .getfield 710, .getfield 515, .iload 4, .invokevirtual 0, .istore 6, .iload 6, .sipush (-1), .if_icmp .ne 2, .aload 0, .getfield 712, .getfield 1, .goto 3] := by decide +kernel
theorem zb_121_2 : zblk 121 2 = [.sipush (-100), .iload 6, .isub] := by decide +kernel
theorem zb_121_3 : zblk 121 3 = [.ireturn] := by decide +kernel
theorem zb_122_0 : zblk 122 0 = [.iload 1, .sipush 0, .sipush 3, .invokestatic 133, .ifCond .eq 1, .aload 0, .getfield 712, .getfield 0, .iload 1, .iaload, .goto 2] := by decide +kernel
theorem zb_122_1 : zblk 122 1 = [.sipush (-1)] := by decide +kernel
theorem zb_122_2 : zblk 122 2 = [.ireturn] := by decide +kernel
theorem zb_123_0 : zblk 123 0 = [.aload 0, .sipush 0, .putfield 716, .aload 0, .getfield 710, .iload 1, .invokevirtual 65, .ifCond .ne 1, .sipush (-1), .ireturn] := by decide +kernel
theorem zb_123_1 : zblk 123 1 = [.iload 2, .invokestatic 134, .ifCond .eq 2, .iload 3, .sipush 60, .if_icmp .le 3] := by decide +kernel
theorem zb_123_2 : zblk 123 2 = [.sipush (-2), .ireturn] := by decide +kernel
theorem zb_123_3 : zblk 123 3 = [.iload 3, .ifCond .ge 4, .aload 0, .sipush 4, .invokevirtual 136, .ireturn] := by decide +kernel
theorem zb_123_4 : zblk 123 4 = [.aload 0, .getfield 710, .iload 1, .iload 2, .iload 3, .invokevirtual 66, .sipush 1, .ireturn] := by decide +kernel
theorem zb_124_0 : zblk 124 0 = [.aload 0, .getfield 710, .iload 1, .invokevirtual 65, .ifCond .ne 1, .sipush (-1), .ireturn] := by decide +kernel
theorem zb_124_1 : zblk 124 1 = [.aload 0, .getfield 710, .getfield 512, .iload 1, .iaload, .sipush (-1), .if_icmp .eq 2, .sipush 1, .goto 3] := by decide +kernel
theorem zb_124_2 : zblk 124 2 = [.sipush 0] := by decide +kernel
theorem zb_124_3 : zblk 124 3 = [.istore 2, .aload 0, .getfield 710, .iload 1, .sipush (-1), .sipush 0, .invokevirtual 66, .iload 2, .ifCond .eq 4, .sipush 1, .goto 5] := by decide +kernel
theorem zb_124_4 : zblk 124 4 = [.sipush 0] := by decide +kernel
theorem zb_124_5 : zblk 124 5 = [.ireturn] := by decide +kernel
theorem zb_125_0 : zblk 125 0 = [.aload 0, .sipush 0, .putfield 716, .aload 0, .getfield 710, .iload 1, .invokevirtual 65, .ifCond .ne 1, .sipush (-1), .ireturn] := by decide +kernel
theorem zb_125_1 : zblk 125 1 = [.aload 0, .aload 0, .getfield 710, .iload 1, .iload 2, .sipush 1, .invokevirtual 68, .invokevirtual 136, .istore 4, .iload 4, .ifCond .eq 2, .iload 4, .ireturn] := by decide +kernel
theorem zb_125_2 : zblk 125 2 = [.aload 0, .getfield 710, .getfield 514, .iload 1, .aaload, .iload 2, .aload 0, .getfield 710, .getfield 512, .iload 1, .iaload, .iload 3, .invokestatic 67, .iastore, .sipush 1, .ireturn] := by decide +kernel
theorem zb_126_0 : zblk 126 0 = [.aload 0, .iload 1, .iload 3, .iload 2, .sipush 1, .invokevirtual 137, .istore 4, .iload 4, .ifCond .eq 1, .ldc2_w 0, .goto 2] := by decide +kernel
theorem zb_126_1 : zblk 126 1 = [.aload 0, .getfield 710, .getfield 515, .sipush 0, .iaload, .i2l] := by decide +kernel
theorem zb_126_2 : zblk 126 2 = [.lreturn] := by decide +kernel
theorem zb_127_0 : zblk 127 0 = [.aload 0, .getfield 704, .iload 1, .invokevirtual 82, .ifCond .ne 1, .sipush (-1), .ireturn] := by decide +kernel
theorem zb_127_1 : zblk 127 1 = [.aload 0, .getfield 704, .getfield 640, .iload 1, .iaload, .lookupswitch 4 #[(1, 2), (2, 3)]] := by decide +kernel
theorem zb_127_2 : zblk 127 2 = [.aload 0, .iload 1, .invokevirtual 144, .ireturn] := by decide +kernel
theorem zb_127_3 : zblk 127 3 = [.aload 0, .iload 1, .invokevirtual 145, .ireturn] := by decide +kernel
theorem zb_127_4 : zblk 127 4 = [.aload 0, .iload 1, .invokevirtual 143, .ireturn] := by decide +kernel
theorem zb_128_0 : zblk 128 0 = [.aload 0, .getfield 704, .iload 1, .invokevirtual 82, .ifCond .ne 1, .sipush (-1), .ireturn] := by decide +kernel
theorem zb_128_1 : zblk 128 1 = [.aload 0, .getfield 704, .getfield 640, .iload 1, .iaload, .sipush 2, .if_icmp .ne 2, .aload 0, .invokevirtual 147, .goto 3] := by decide +kernel
theorem zb_128_2 : zblk 128 2 = [.aload 0, .iload 1, .invokevirtual 146] := by decide +kernel
theorem zb_128_3 : zblk 128 3 = [.ireturn] := by decide +kernel
theorem zb_129_0 : zblk 129 0 = [.aload 0, .sipush 0, .putfield 716, .aload 0, .getfield 704, .iload 1, .invokevirtual 82, .ifCond .ne 1, .sipush (-1), .ireturn] := by decide +kernel
theorem zb_129_1 : zblk 129 1 = [.iload 2, .sipush 0, .sipush 2, .invokestatic 133, .ifCond .ne 2, .sipush (-2), .ireturn] := by decide +kernel
theorem zb_129_2 : zblk 129 2 = [.aload 0, .getfield 704, .getfield 640, .iload 1, .iaload, .iload 2, .if_icmp .ge 3, .aload 0, .sipush 2, .invokevirtual 136, .goto 4] := by decide +kernel
theorem zb_129_3 : zblk 129 3 = [.sipush 1] := by decide +kernel
theorem zb_129_4 : zblk 129 4 = [.ireturn] := by decide +kernel
theorem zb_130_0 : zblk 130 0 = [.aload 0, .getfield 715, .ireturn] := by decide +kernel
theorem zb_131_0 : zblk 131 0 = [.aload 0, .getfield 716, .ireturn] := by decide +kernel
theorem zb_132_0 : zblk 132 0 = [.iload 1, .lookupswitch 9 #[(0, 1), (1, 2), (2, 3), (3, 4), (4, 5), (5, 6), (6, 7), (7, 8)]] := by decide +kernel
theorem zb_132_1 : zblk 132 1 = [.aload 0, .getfield 704, .getfield 645, .ireturn] := by decide +kernel
theorem zb_132_2 : zblk 132 2 = [.aload 0, .getfield 705, .getfield 452, .ireturn] := by decide +kernel
theorem zb_132_3 : zblk 132 3 = [.aload 0, .getfield 706, .getfield 197, .ireturn] := by decide +kernel
theorem zb_132_4 : zblk 132 4 = [.aload 0, .getfield 707, .getfield 259, .ireturn] := by decide +kernel
theorem zb_132_5 : zblk 132 5 = [.aload 0, .getfield 708, .getfield 68, .ireturn] := by decide +kernel
theorem zb_132_6 : zblk 132 6 = [.aload 0, .getfield 709, .getfield 579, .ireturn] := by decide +kernel
theorem zb_132_7 : zblk 132 7 = [.aload 0, .getfield 711, .getfield 385, .ireturn] := by decide +kernel
theorem zb_132_8 : zblk 132 8 = [.aload 0, .getfield 712, .getfield 1, .ireturn] := by decide +kernel
theorem zb_132_9 : zblk 132 9 = [.sipush (-2), .ireturn] := by decide +kernel
theorem zb_133_0 : zblk 133 0 = [.iload 0, .iload 1, .if_icmp .lt 1, .iload 0, .iload 2, .if_icmp .gt 1, .sipush 1, .goto 2] := by decide +kernel
theorem zb_133_1 : zblk 133 1 = [.sipush 0] := by decide +kernel
theorem zb_133_2 : zblk 133 2 = [.ireturn] := by decide +kernel
theorem zb_134_0 : zblk 134 0 = [.iload 0, .sipush 0, .sipush 2, .invokestatic 133, .ireturn] := by decide +kernel
theorem zb_135_0 : zblk 135 0 = [.sipush 0, .istore 3, .sipush 0, .istore 4] := by decide +kernel
theorem zb_135_1 : zblk 135 1 = [.iload 4, .iload 1, .if_icmp .ge 3, .iload 4, .aload 0, .arraylength, .if_icmp .ge 3, .aload 0, .iload 4, .iaload, .iload 2, .if_icmp .ne 2, .iinc 3 1] := by decide +kernel
theorem zb_135_2 : zblk 135 2 = [.iinc 4 1, .goto 1] := by decide +kernel
theorem zb_135_3 : zblk 135 3 = [.iload 3, .ireturn] := by decide +kernel
theorem zb_136_0 : zblk 136 0 = [.aload 0, .iload 1, .putfield 716, .iload 1, .ifCond .ne 1, .sipush 0, .goto 2] := by decide +kernel
theorem zb_136_1 : zblk 136 1 = [.sipush (-10), .iload 1, .isub] := by decide +kernel
theorem zb_136_2 : zblk 136 2 = [.ireturn] := by decide +kernel
theorem zb_137_0 : zblk 137 0 = [.aload 0, .sipush 0, .putfield 716, .aload 0, .getfield 710, .iload 1, .invokevirtual 65, .ifCond .ne 1, .sipush (-1), .ireturn] := by decide +kernel
theorem zb_137_1 : zblk 137 1 = [.iload 2, .invokestatic 134, .ifCond .eq 2, .aload 0, .aload 0, .getfield 710, .iload 1, .iload 2, .iload 3, .iload 4, .invokevirtual 69, .invokevirtual 136, .goto 3] := by decide +kernel
theorem zb_137_2 : zblk 137 2 = [.sipush (-2)] := by decide +kernel
theorem zb_137_3 : zblk 137 3 = [.ireturn] := by decide +kernel
theorem zb_138_0 : zblk 138 0 = [.aload 0, .iload 1, .iload 2, .iload 3, .aload 0, .getfield 705, .getfield 452, .invokevirtual 137, .istore 4, .iload 4, .ifCond .eq 1, .iload 4, .ireturn] := by decide +kernel
theorem zb_138_1 : zblk 138 1 = [.aload 0, .getfield 713, .aload 0, .getfield 705, .aload 0, .getfield 704, .invokevirtual 21, .aload 0, .getfield 713, .aload 0, .getfield 710, .getfield 515, .invokevirtual 34, .ifCond .eq 2, .sipush 0, .goto 3] := by decide +kernel
theorem zb_138_2 : zblk 138 2 = [.sipush (-2)] := by decide +kernel
theorem zb_138_3 : zblk 138 3 = [.ireturn] := by decide +kernel
theorem zb_139_0 : zblk 139 0 = [.aload 0, .getfield 705, .iload 1, .iload 2, .aload 0, .getfield 704, .getfield 641, .iload 2, .iaload, .invokevirtual 64, .ireturn] := by decide +kernel
theorem zb_140_0 : zblk 140 0 = [.sipush 0, .istore 2, .sipush 0, .istore 3] := by decide +kernel
theorem zb_140_1 : zblk 140 1 = [.iload 3, .aload 0, .getfield 704, .getfield 645, .if_icmp .ge 3, .aload 0, .iload 1, .iload 3, .invokevirtual 139, .ifCond .eq 2, .iload 2, .sipush 1, .iload 3, .ishl, .ior, .istore 2] := by decide +kernel
theorem zb_140_2 : zblk 140 2 = [.iinc 3 1, .goto 1] := by decide +kernel
theorem zb_140_3 : zblk 140 3 = [.iload 2, .ireturn] := by decide +kernel
theorem zb_141_0 : zblk 141 0 = [.aload 0, .getfield 709, .aload 0, .getfield 706, .getfield 193, .iload 1, .iaload, .aload 0, .getfield 706, .getfield 194, .iload 1, .iaload, .aload 0, .getfield 706, .getfield 195, .iload 1, .iaload, .invokevirtual 74, .istore 2, .aload 0, .getfield 712, .aload 0, .getfield 706, .iload 1, .iload 2, .aload 0, .getfield 705, .getfield 448, .aload 0, .getfield 706, .getfield 192, .iload 1, .iaload, .iaload, .invokevirtual 6, .ireturn] := by decide +kernel
theorem zb_142_0 : zblk 142 0 = [.aload 0, .sipush 31, .aload 0, .getfield 715, .imul, .iload 1, .iadd, .putfield 715, .return_] := by decide +kernel
theorem zb_143_0 : zblk 143 0 = [.aload 0, .sipush 1, .invokevirtual 142, .aload 0, .getfield 704, .getfield 641, .iload 1, .iaload, .ireturn] := by decide +kernel
theorem zb_144_0 : zblk 144 0 = [.aload 0, .sipush 2, .invokevirtual 142, .aload 0, .iload 1, .invokevirtual 143, .aload 0, .getfield 704, .getfield 643, .iload 1, .iaload, .iadd, .ireturn] := by decide +kernel
theorem zb_145_0 : zblk 145 0 = [.aload 0, .sipush 3, .invokevirtual 142, .aload 0, .iload 1, .invokevirtual 144, .istore 2, .iload 2, .aload 0, .iload 1, .invokevirtual 143, .iadd, .ireturn] := by decide +kernel
theorem zb_146_0 : zblk 146 0 = [.aload 0, .sipush 4, .invokevirtual 142, .iload 1, .ireturn] := by decide +kernel
theorem zb_147_0 : zblk 147 0 = [.aload 0, .sipush 5, .invokevirtual 142, .sipush 70, .ireturn] := by decide +kernel
theorem zb_148_0 : zblk 148 0 = [.aload 0, .iload 1, .putfield 768, .sipush (-10), .iload 1, .isub, .ireturn] := by decide +kernel
theorem zb_149_0 : zblk 149 0 = [.aload 0, .iload 1, .putfield 768, .ldc2_w 5, .lreturn] := by decide +kernel
theorem zb_150_0 : zblk 150 0 = [.iload 0, .iload 1, .if_icmp .lt 1, .iload 0, .iload 2, .if_icmp .gt 1, .sipush 1, .goto 2] := by decide +kernel
theorem zb_150_1 : zblk 150 1 = [.sipush 0] := by decide +kernel
theorem zb_150_2 : zblk 150 2 = [.ireturn] := by decide +kernel
theorem zb_151_0 : zblk 151 0 = [.iload 0, .sipush 0, .sipush 100000, .invokestatic 150, .ireturn] := by decide +kernel
theorem zb_152_0 : zblk 152 0 = [.iload 1, .ifCond .lt 1, .iload 1, .aload 0, .getfield 770, .if_icmp .ge 1, .sipush 1, .goto 2] := by decide +kernel
theorem zb_152_1 : zblk 152 1 = [.sipush 0] := by decide +kernel
theorem zb_152_2 : zblk 152 2 = [.ireturn] := by decide +kernel
theorem zb_153_0 : zblk 153 0 = [.iload 1, .ifCond .lt 1, .iload 1, .aload 0, .getfield 774, .if_icmp .ge 1, .sipush 1, .goto 2] := by decide +kernel
theorem zb_153_1 : zblk 153 1 = [.sipush 0] := by decide +kernel
theorem zb_153_2 : zblk 153 2 = [.ireturn] := by decide +kernel
theorem zb_154_0 : zblk 154 0 = [.iload 1, .sipush 0, .sipush 2, .invokestatic 150, .ifCond .eq 1, .iload 2, .sipush 0, .sipush 9, .invokestatic 150, .ifCond .eq 1, .iload 3, .sipush 1, .sipush 1000000, .invokestatic 150, .ifCond .ne 2] := by decide +kernel
theorem zb_154_1 : zblk 154 1 = [.sipush (-2), .ireturn] := by decide +kernel
theorem zb_154_2 : zblk 154 2 = [.aload 0, .getfield 770, .sipush 10, .if_icmp .ne 3, .sipush (-4), .ireturn] := by decide +kernel
theorem zb_154_3 : zblk 154 3 = [.aload 0, .getfield 771, .aload 0, .getfield 770, .iload 1, .iastore, .aload 0, .getfield 772, .aload 0, .getfield 770, .iload 2, .iastore, .aload 0, .getfield 773, .aload 0, .getfield 770, .iload 3, .iastore, .aload 0, .dup, .getfield 770, .sipush 1, .iadd, .putfield 770, .aload 0, .getfield 770, .sipush 1, .isub, .ireturn] := by decide +kernel
theorem zb_155_0 : zblk 155 0 = [.iload 1, .sipush 0, .sipush 99, .invokestatic 150, .ifCond .ne 1, .sipush (-2), .ireturn] := by decide +kernel
theorem zb_155_1 : zblk 155 1 = [.aload 0, .getfield 774, .sipush 10, .if_icmp .ne 2, .sipush (-4), .ireturn] := by decide +kernel
theorem zb_155_2 : zblk 155 2 = [.aload 0, .getfield 775, .aload 0, .getfield 774, .iload 1, .iastore, .aload 0, .dup, .getfield 774, .sipush 1, .iadd, .putfield 774, .aload 0, .getfield 774, .sipush 1, .isub, .ireturn] := by decide +kernel
theorem zb_156_0 : zblk 156 0 = [.aload 0, .iload 1, .invokevirtual 153, .ifCond .eq 1, .aload 0, .iload 2, .invokevirtual 152, .ifCond .ne 2] := by decide +kernel
theorem zb_156_1 : zblk 156 1 = [.sipush (-1), .ireturn] := by decide +kernel
theorem zb_156_2 : zblk 156 2 = [.iload 3, .sipush 0, .sipush 99, .invokestatic 150, .ifCond .ne 3, .sipush (-2), .ireturn] := by decide +kernel
theorem zb_156_3 : zblk 156 3 = [.aload 0, .getfield 776, .sipush 10, .iload 1, .imul, .iload 2, .iadd, .iaload, .istore 4, .aload 0, .getfield 776, .sipush 10, .iload 1, .imul, .iload 2, .iadd, .iload 3, .iastore, .iload 4, .ireturn] := by decide +kernel
theorem zb_157_0 : zblk 157 0 = [.aload 0, .iload 1, .invokevirtual 153, .ifCond .ne 1, .sipush (-1), .ireturn] := by decide +kernel
theorem zb_157_1 : zblk 157 1 = [.iload 2, .sipush 0, .sipush 9, .invokestatic 150, .ifCond .ne 2, .sipush (-2), .ireturn] := by decide +kernel
theorem zb_157_2 : zblk 157 2 = [.aload 0, .getfield 777, .sipush 10, .iload 1, .imul, .iload 2, .iadd, .baload, .iload 3, .if_icmp .ne 3, .sipush 0, .goto 4] := by decide +kernel
theorem zb_157_3 : zblk 157 3 = [.sipush 1] := by decide +kernel
theorem zb_157_4 : zblk 157 4 = [.istore 4, .aload 0, .getfield 777, .sipush 10, .iload 1, .imul, .iload 2, .iadd, .iload 3, .bastore, .iload 4, .ireturn] := by decide +kernel
theorem zb_158_0 : zblk 158 0 = [.aload 0, .getfield 777, .sipush 10, .iload 1, .imul, .iload 2, .iadd, .baload, .ifCond .eq 1, .sipush 1, .ireturn] := by decide +kernel
theorem zb_158_1 : zblk 158 1 = [.sipush 0, .istore 3] := by decide +kernel
theorem zb_158_2 : zblk 158 2 = [.iload 3, .aload 0, .getfield 787, .if_icmp .ge 4, .aload 0, .getfield 788, .iload 3, .iaload, .iload 1, .if_icmp .ne 3, .aload 0, .getfield 772, .aload 0, .getfield 789, .iload 3, .iaload, .iaload, .iload 2, .if_icmp .ne 3, .sipush 1, .ireturn] := by decide +kernel
theorem zb_158_3 : zblk 158 3 = [.iinc 3 1, .goto 2] := by decide +kernel
theorem zb_158_4 : zblk 158 4 = [.sipush 0, .ireturn] := by decide +kernel
theorem zb_159_0 : zblk 159 0 = [.aload 0, .getfield 776, .sipush 10, .iload 1, .imul, .iload 2, .iadd, .iaload, .ifCond .le 1, .aload 0, .iload 1, .aload 0, .getfield 772, .iload 2, .iaload, .invokevirtual 158, .ifCond .ne 1, .sipush 1, .goto 2] := by decide +kernel
theorem zb_159_1 : zblk 159 1 = [.sipush 0] := by decide +kernel
theorem zb_159_2 : zblk 159 2 = [.ireturn] := by decide +kernel
theorem zb_160_0 : zblk 160 0 = [.aload 0, .iload 1, .invokevirtual 153, .ifCond .eq 1, .aload 0, .iload 2, .invokevirtual 152, .ifCond .ne 2] := by decide +kernel
theorem zb_160_1 : zblk 160 1 = [.sipush (-1), .ireturn] := by decide +kernel
theorem zb_160_2 : zblk 160 2 = [.aload 0, .iload 1, .iload 2, .invokevirtual 159, .ifCond .eq 3, .sipush 1, .goto 4] := by decide +kernel
theorem zb_160_3 : zblk 160 3 = [.sipush 0] := by decide +kernel
theorem zb_160_4 : zblk 160 4 = [.ireturn] := by decide +kernel
theorem zb_161_0 : zblk 161 0 = [.sipush 0, .istore 3, .sipush 0, .istore 4] := by decide +kernel
theorem zb_161_1 : zblk 161 1 = [.iload 4, .iload 1, .if_icmp .ge 4, .iload 3, .aload 0, .iload 4, .iaload, .iload 2, .if_icmp .ne 2, .sipush 1, .goto 3] := by decide +kernel
theorem zb_161_2 : zblk 161 2 = [.sipush 0] := by decide +kernel
theorem zb_161_3 : zblk 161 3 = [.iadd, .istore 3, .iinc 4 1, .goto 1] := by decide +kernel
theorem zb_161_4 : zblk 161 4 = [.iload 3, .ireturn] := by decide +kernel
theorem zb_162_0 : zblk 162 0 = [.aload 0, .iload 1, .invokevirtual 152, .ifCond .ne 1, .sipush (-1), .ireturn] := by decide +kernel
theorem zb_162_1 : zblk 162 1 = [.iload 2, .lookupswitch 10 #[(0, 2), (1, 3), (2, 4), (3, 5), (4, 6), (5, 7), (6, 8), (7, 9)]] := by decide +kernel
theorem zb_162_2 : zblk 162 2 = [.aload 0, .getfield 771, .iload 1, .iaload, .ireturn] := by decide +kernel
theorem zb_162_3 : zblk 162 3 = [.aload 0, .getfield 772, .iload 1, .iaload, .ireturn] := by decide +kernel
theorem zb_162_4 : zblk 162 4 = [.aload 0, .getfield 773, .iload 1, .iaload, .ireturn] := by decide +kernel
theorem zb_162_5 : zblk 162 5 = [.aload 0, .getfield 822, .iload 1, .iaload, .ireturn] := by decide +kernel
theorem zb_162_6 : zblk 162 6 = [.aload 0, .getfield 789, .aload 0, .getfield 787, .iload 1, .invokestatic 161, .ireturn] := by decide +kernel
theorem zb_162_7 : zblk 162 7 = [.aload 0, .getfield 794, .aload 0, .getfield 793, .iload 1, .invokestatic 161, .ireturn] := by decide +kernel
theorem zb_162_8 : zblk 162 8 = [.aload 0, .getfield 805, .aload 0, .getfield 804, .iload 1, .invokestatic 161, .ireturn] := by decide +kernel
theorem zb_162_9 : zblk 162 9 = [.aload 0, .getfield 814, .aload 0, .getfield 813, .iload 1, .invokestatic 161, .ireturn] := by decide +kernel
theorem zb_162_10 : zblk 162 10 = [.sipush (-2), .ireturn] := by decide +kernel
theorem zb_163_0 : zblk 163 0 = [.aload 0, .iload 1, .invokevirtual 153, .ifCond .ne 1, .sipush (-1), .ireturn] := by decide +kernel
theorem zb_163_1 : zblk 163 1 = [.sipush 0, .istore 3, .iload 2, .lookupswitch 14 #[(0, 2), (1, 3), (2, 8), (3, 13)]] := by decide +kernel
theorem zb_163_2 : zblk 163 2 = [.aload 0, .getfield 775, .iload 1, .iaload, .ireturn] := by decide +kernel
theorem zb_163_3 : zblk 163 3 = [.sipush 0, .istore 4] := by decide +kernel
theorem zb_163_4 : zblk 163 4 = [.iload 4, .sipush 10, .if_icmp .ge 7, .iload 3, .aload 0, .iload 1, .iload 4, .invokevirtual 158, .ifCond .eq 5, .sipush 1, .iload 4, .ishl, .goto 6] := by decide +kernel
theorem zb_163_5 : zblk 163 5 = [.sipush 0] := by decide +kernel
theorem zb_163_6 : zblk 163 6 = [.ior, .istore 3, .iinc 4 1, .goto 4] := by decide +kernel
theorem zb_163_7 : zblk 163 7 = [.iload 3, .ireturn] := by decide +kernel
theorem zb_163_8 : zblk 163 8 = [.sipush 0, .istore 4] := by decide +kernel
theorem zb_163_9 : zblk 163 9 = [.iload 4, .aload 0, .getfield 770, .if_icmp .ge 12, .iload 3, .aload 0, .iload 1, .iload 4, .invokevirtual 159, .ifCond .eq 10, .sipush 1, .iload 4, .ishl, .goto 11] := by decide +kernel
theorem zb_163_10 : zblk 163 10 = [.sipush 0] := by decide +kernel
theorem zb_163_11 : zblk 163 11 = [.ior, .istore 3, .iinc 4 1, .goto 9] := by decide +kernel
theorem zb_163_12 : zblk 163 12 = [.iload 3, .ireturn] := by decide +kernel
theorem zb_163_13 : zblk 163 13 = [.aload 0, .getfield 788, .aload 0, .getfield 787, .iload 1, .invokestatic 161, .ireturn] := by decide +kernel
theorem zb_163_14 : zblk 163 14 = [.sipush (-2), .ireturn] := by decide +kernel
theorem zb_164_0 : zblk 164 0 = [.sipush 0, .istore 1] := by decide +kernel
theorem zb_164_1 : zblk 164 1 = [.iload 1, .aload 0, .getfield 774, .if_icmp .ge 4, .sipush 0, .istore 2] := by decide +kernel
theorem zb_164_2 : zblk 164 2 = [.iload 2, .aload 0, .getfield 770, .if_icmp .ge 3, .aload 0, .getfield 779, .sipush 10, .iload 1, .imul, .iload 2, .iadd, .aload 0, .iload 1, .iload 2, .invokevirtual 159, .bastore, .iinc 2 1, .goto 2] := by decide +kernel
theorem zb_164_3 : zblk 164 3 = [.iinc 1 1, .goto 1] := by decide +kernel
theorem zb_164_4 : zblk 164 4 = [.return_] := by decide +kernel
theorem zb_165_0 : zblk 165 0 = [.aload 0, .invokevirtual 164, .sipush 0, .istore 1] := by decide +kernel
theorem zb_165_1 : zblk 165 1 = [.iload 1, .sipush 1, .aload 0, .getfield 770, .ishl, .if_icmp .ge 2, .aload 0, .getfield 778, .sipush 1024, .aload 0, .getfield 774, .imul, .iload 1, .iadd, .sipush 0, .iastore, .iinc 1 1, .goto 1] := by decide +kernel
theorem zb_165_2 : zblk 165 2 = [.aload 0, .getfield 774, .sipush 1, .isub, .istore 1] := by decide +kernel
theorem zb_165_3 : zblk 165 3 = [.iload 1, .ifCond .lt 11, .sipush 0, .istore 2] := by decide +kernel
theorem zb_165_4 : zblk 165 4 = [.iload 2, .sipush 1, .aload 0, .getfield 770, .ishl, .if_icmp .ge 10, .aload 0, .getfield 778, .sipush 1024, .iload 1, .imul, .sipush 1024, .iadd, .iload 2, .iadd, .iaload, .istore 3, .sipush 0, .istore 4] := by decide +kernel
theorem zb_165_5 : zblk 165 5 = [.iload 4, .aload 0, .getfield 770, .if_icmp .ge 9, .iload 2, .iload 4, .ishr, .sipush 1, .iand, .ifCond .ne 8, .aload 0, .getfield 779, .sipush 10, .iload 1, .imul, .iload 4, .iadd, .baload, .ifCond .eq 8, .aload 0, .getfield 776, .sipush 10, .iload 1, .imul, .iload 4, .iadd, .iaload, .aload 0, .getfield 778, .sipush 1024, .iload 1, .imul, .sipush 1024, .iadd, .iload 2, .sipush 1, .iload 4, .ishl, .ior, .iadd, .iaload, .iadd, .istore 5, .iload 5, .iload 3, .if_icmp .le 6, .iload 5, .goto 7] := by decide +kernel
theorem zb_165_6 : zblk 165 6 = [.iload 3] := by decide +kernel
theorem zb_165_7 : zblk 165 7 = [.istore 3] := by decide +kernel
theorem zb_165_8 : zblk 165 8 = [.iinc 4 1, .goto 5] := by decide +kernel
theorem zb_165_9 : zblk 165 9 = [.aload 0, .getfield 778, .sipush 1024, .iload 1, .imul, .iload 2, .iadd, .iload 3, .iastore, .iinc 2 1, .goto 4] := by decide +kernel
theorem zb_165_10 : zblk 165 10 = [.iinc 1 (-1), .goto 3] := by decide +kernel
theorem zb_165_11 : zblk 165 11 = [.return_] := by decide +kernel
theorem zb_166_0 : zblk 166 0 = [.aload 0, .invokevirtual 165, .aload 0, .getfield 778, .sipush 0, .iaload, .ireturn] := by decide +kernel
theorem zb_167_0 : zblk 167 0 = [.aload 0, .invokevirtual 165, .sipush 0, .istore 1, .sipush 0, .istore 2] := by decide +kernel
theorem zb_167_1 : zblk 167 1 = [.iload 2, .aload 0, .getfield 774, .if_icmp .ge 9, .aload 0, .getfield 780, .iload 2, .sipush (-9), .iastore, .aload 0, .getfield 770, .sipush 1, .isub, .istore 3] := by decide +kernel
theorem zb_167_2 : zblk 167 2 = [.iload 3, .ifCond .lt 6, .iload 1, .iload 3, .ishr, .sipush 1, .iand, .ifCond .ne 3, .aload 0, .getfield 779, .sipush 10, .iload 2, .imul, .iload 3, .iadd, .baload, .ifCond .eq 3, .sipush 1, .goto 4] := by decide +kernel
theorem zb_167_3 : zblk 167 3 = [.sipush 0] := by decide +kernel
theorem zb_167_4 : zblk 167 4 = [.istore 4, .iload 4, .ifCond .eq 5, .aload 0, .getfield 776, .sipush 10, .iload 2, .imul, .iload 3, .iadd, .iaload, .aload 0, .getfield 778, .sipush 1024, .iload 2, .imul, .sipush 1024, .iadd, .iload 1, .sipush 1, .iload 3, .ishl, .ior, .iadd, .iaload, .iadd, .aload 0, .getfield 778, .sipush 1024, .iload 2, .imul, .iload 1, .iadd, .iaload, .if_icmp .ne 5, .aload 0, .getfield 780, .iload 2, .iload 3, .iastore] := by decide +kernel
theorem zb_167_5 : zblk 167 5 = [.iinc 3 (-1), .goto 2] := by decide +kernel
theorem zb_167_6 : zblk 167 6 = [.iload 1, .aload 0, .getfield 780, .iload 2, .iaload, .sipush (-9), .if_icmp .ne 7, .sipush 0, .goto 8] := by decide +kernel
theorem zb_167_7 : zblk 167 7 = [.sipush 1, .aload 0, .getfield 780, .iload 2, .iaload, .ishl] := by decide +kernel
theorem zb_167_8 : zblk 167 8 = [.ior, .istore 1, .iinc 2 1, .goto 1] := by decide +kernel
theorem zb_167_9 : zblk 167 9 = [.return_] := by decide +kernel
theorem zb_168_0 : zblk 168 0 = [.aload 0, .getfield 776, .sipush 10, .iload 1, .imul, .iload 2, .iadd, .iaload, .aload 0, .getfield 776, .sipush 10, .iload 1, .imul, .iload 3, .iadd, .iaload, .isub, .istore 4, .iload 4, .ifCond .gt 1, .iload 4, .ifCond .ne 2, .iload 2, .iload 3, .if_icmp .ge 2] := by decide +kernel
theorem zb_168_1 : zblk 168 1 = [.sipush 1, .goto 3] := by decide +kernel
theorem zb_168_2 : zblk 168 2 = [.sipush 0] := by decide +kernel
theorem zb_168_3 : zblk 168 3 = [.ireturn] := by decide +kernel
theorem zb_169_0 : zblk 169 0 = [.aload 0, .getfield 775, .iload 1, .iaload, .aload 0, .getfield 775, .iload 2, .iaload, .if_icmp .gt 1, .aload 0, .getfield 775, .iload 1, .iaload, .aload 0, .getfield 775, .iload 2, .iaload, .if_icmp .ne 2, .iload 1, .iload 2, .if_icmp .ge 2] := by decide +kernel
theorem zb_169_1 : zblk 169 1 = [.sipush 1, .goto 3] := by decide +kernel
theorem zb_169_2 : zblk 169 2 = [.sipush 0] := by decide +kernel
theorem zb_169_3 : zblk 169 3 = [.ireturn] := by decide +kernel
theorem zb_170_0 : zblk 170 0 = [.sipush (-9), .istore 2, .sipush 0, .istore 3] := by decide +kernel
theorem zb_170_1 : zblk 170 1 = [.iload 3, .aload 0, .getfield 770, .if_icmp .ge 4, .aload 0, .getfield 779, .sipush 10, .iload 1, .imul, .iload 3, .iadd, .baload, .ifCond .eq 3, .aload 0, .getfield 781, .sipush 10, .iload 1, .imul, .iload 3, .iadd, .baload, .ifCond .ne 3, .iload 2, .sipush (-9), .if_icmp .eq 2, .aload 0, .iload 1, .iload 3, .iload 2, .invokevirtual 168, .ifCond .eq 3] := by decide +kernel
theorem zb_170_2 : zblk 170 2 = [.iload 3, .istore 2] := by decide +kernel
theorem zb_170_3 : zblk 170 3 = [.iinc 3 1, .goto 1] := by decide +kernel
theorem zb_170_4 : zblk 170 4 = [.iload 2, .ireturn] := by decide +kernel
theorem zb_171_0 : zblk 171 0 = [.aload 0, .invokevirtual 164, .sipush 0, .istore 1] := by decide +kernel
theorem zb_171_1 : zblk 171 1 = [.iload 1, .sipush 100, .if_icmp .ge 2, .aload 0, .getfield 781, .iload 1, .sipush 0, .bastore, .iinc 1 1, .goto 1] := by decide +kernel
theorem zb_171_2 : zblk 171 2 = [.sipush 0, .istore 1] := by decide +kernel
theorem zb_171_3 : zblk 171 3 = [.iload 1, .sipush 10, .if_icmp .ge 4, .aload 0, .getfield 782, .iload 1, .sipush (-9), .iastore, .aload 0, .getfield 780, .iload 1, .sipush (-9), .iastore, .iinc 1 1, .goto 3] := by decide +kernel
theorem zb_171_4 : zblk 171 4 = [.sipush 1, .istore 1] := by decide +kernel
theorem zb_171_5 : zblk 171 5 = [.iload 1, .ifCond .eq 14, .sipush 0, .istore 1, .sipush 0, .istore 2] := by decide +kernel
theorem zb_171_6 : zblk 171 6 = [.iload 2, .aload 0, .getfield 774, .if_icmp .ge 13, .aload 0, .getfield 780, .iload 2, .iaload, .sipush (-9), .if_icmp .ne 7, .aload 0, .iload 2, .invokevirtual 170, .goto 8] := by decide +kernel
theorem zb_171_7 : zblk 171 7 = [.sipush (-9)] := by decide +kernel
theorem zb_171_8 : zblk 171 8 = [.istore 3, .iload 3, .sipush (-9), .if_icmp .ne 9, .goto 12] := by decide +kernel
theorem zb_171_9 : zblk 171 9 = [.sipush 1, .istore 1, .aload 0, .getfield 781, .sipush 10, .iload 2, .imul, .iload 3, .iadd, .sipush 1, .bastore, .aload 0, .getfield 782, .iload 3, .iaload, .istore 4, .iload 4, .sipush (-9), .if_icmp .eq 10, .aload 0, .iload 2, .iload 4, .invokevirtual 169, .ifCond .eq 12] := by decide +kernel
theorem zb_171_10 : zblk 171 10 = [.iload 4, .sipush (-9), .if_icmp .eq 11, .aload 0, .getfield 780, .iload 4, .sipush (-9), .iastore] := by decide +kernel
theorem zb_171_11 : zblk 171 11 = [.aload 0, .getfield 782, .iload 3, .iload 2, .iastore, .aload 0, .getfield 780, .iload 2, .iload 3, .iastore] := by decide +kernel
theorem zb_171_12 : zblk 171 12 = [.iinc 2 1, .goto 6] := by decide +kernel
theorem zb_171_13 : zblk 171 13 = [.goto 5] := by decide +kernel
theorem zb_171_14 : zblk 171 14 = [.return_] := by decide +kernel
theorem zb_172_0 : zblk 172 0 = [.aload 0, .iload 1, .invokevirtual 153, .ifCond .ne 1, .sipush (-1), .ireturn] := by decide +kernel
theorem zb_172_1 : zblk 172 1 = [.iload 2, .sipush 0, .sipush 1, .invokestatic 150, .ifCond .ne 2, .sipush (-2), .ireturn] := by decide +kernel
theorem zb_172_2 : zblk 172 2 = [.iload 2, .ifCond .ne 3, .aload 0, .invokevirtual 167, .goto 4] := by decide +kernel
theorem zb_172_3 : zblk 172 3 = [.aload 0, .invokevirtual 171] := by decide +kernel
theorem zb_172_4 : zblk 172 4 = [.aload 0, .getfield 780, .iload 1, .iaload, .ireturn] := by decide +kernel
theorem zb_173_0 : zblk 173 0 = [.aload 0, .getfield 783, .iload 1, .iaload, .sipush (-9), .if_icmp .eq 1, .aload 0, .getfield 783, .iload 1, .iaload, .iload 2, .if_icmp .eq 1, .aload 0, .sipush 2, .invokevirtual 148, .ireturn] := by decide +kernel
theorem zb_173_1 : zblk 173 1 = [.aload 0, .getfield 783, .iload 1, .iaload, .sipush (-9), .if_icmp .ne 2, .aload 0, .sipush 1, .invokevirtual 148, .ireturn] := by decide +kernel
theorem zb_173_2 : zblk 173 2 = [.iload 4, .ifCond .ge 3, .aload 0, .sipush 4, .invokevirtual 148, .ireturn] := by decide +kernel
theorem zb_173_3 : zblk 173 3 = [.iload 3, .ifCond .lt 4, .iload 3, .aload 0, .getfield 784, .iload 1, .iaload, .if_icmp .gt 4, .iload 4, .aload 0, .getfield 784, .iload 1, .iaload, .iload 3, .isub, .if_icmp .le 5] := by decide +kernel
theorem zb_173_4 : zblk 173 4 = [.aload 0, .sipush 3, .invokevirtual 148, .ireturn] := by decide +kernel
theorem zb_173_5 : zblk 173 5 = [.sipush 0, .ireturn] := by decide +kernel
theorem zb_174_0 : zblk 174 0 = [.iload 0, .sipush 0, .sipush 3, .invokestatic 150, .ireturn] := by decide +kernel
theorem zb_175_0 : zblk 175 0 = [.iload 0, .sipush 0, .sipush 2, .invokestatic 150, .ireturn] := by decide +kernel
theorem zb_176_0 : zblk 176 0 = [.sipush 0, .istore 3, .sipush 0, .istore 4] := by decide +kernel
theorem zb_176_1 : zblk 176 1 = [.iload 4, .aload 0, .getfield 774, .if_icmp .ge 6, .aload 0, .getfield 785, .sipush 60, .iload 1, .imul, .iload 2, .iadd, .iload 4, .iadd, .iaload, .istore 5, .iload 5, .sipush (-1), .aload 0, .getfield 770, .sipush 1, .isub, .invokestatic 150, .ifCond .eq 2, .iload 5, .ifCond .lt 3, .iload 3, .iload 5, .ishr, .sipush 1, .iand, .sipush 1, .if_icmp .ne 3] := by decide +kernel
theorem zb_176_2 : zblk 176 2 = [.sipush 0, .ireturn] := by decide +kernel
theorem zb_176_3 : zblk 176 3 = [.aload 0, .getfield 786, .iload 4, .iload 5, .iastore, .iload 3, .iload 5, .ifCond .ge 4, .sipush 0, .goto 5] := by decide +kernel
theorem zb_176_4 : zblk 176 4 = [.sipush 1, .iload 5, .ishl] := by decide +kernel
theorem zb_176_5 : zblk 176 5 = [.ior, .istore 3, .iinc 4 1, .goto 1] := by decide +kernel
theorem zb_176_6 : zblk 176 6 = [.sipush 1, .ireturn] := by decide +kernel
theorem zb_177_0 : zblk 177 0 = [.sipush 0, .istore 1] := by decide +kernel
theorem zb_177_1 : zblk 177 1 = [.iload 1, .aload 0, .getfield 774, .if_icmp .ge 3, .aload 0, .getfield 786, .iload 1, .iaload, .ifCond .lt 2, .aload 0, .iload 1, .aload 0, .getfield 786, .iload 1, .iaload, .invokevirtual 159, .ifCond .ne 2, .sipush 0, .ireturn] := by decide +kernel
theorem zb_177_2 : zblk 177 2 = [.iinc 1 1, .goto 1] := by decide +kernel
theorem zb_177_3 : zblk 177 3 = [.sipush 1, .ireturn] := by decide +kernel
theorem zb_178_0 : zblk 178 0 = [.sipush 0, .istore 2] := by decide +kernel
theorem zb_178_1 : zblk 178 1 = [.iload 2, .aload 0, .getfield 774, .if_icmp .ge 3, .aload 0, .getfield 786, .iload 2, .iaload, .iload 1, .if_icmp .ne 2, .iload 2, .ireturn] := by decide +kernel
theorem zb_178_2 : zblk 178 2 = [.iinc 2 1, .goto 1] := by decide +kernel
theorem zb_178_3 : zblk 178 3 = [.sipush (-9), .ireturn] := by decide +kernel
theorem zb_179_0 : zblk 179 0 = [.aload 0, .iload 1, .iload 2, .invokevirtual 159, .ifCond .eq 1, .aload 0, .getfield 786, .iload 1, .iaload, .ifCond .lt 2, .aload 0, .getfield 776, .sipush 10, .iload 1, .imul, .aload 0, .getfield 786, .iload 1, .iaload, .iadd, .iaload, .aload 0, .getfield 776, .sipush 10, .iload 1, .imul, .iload 2, .iadd, .iaload, .if_icmp .lt 2] := by decide +kernel
theorem zb_179_1 : zblk 179 1 = [.sipush 0, .ireturn] := by decide +kernel
theorem zb_179_2 : zblk 179 2 = [.aload 0, .iload 2, .invokevirtual 178, .istore 3, .iload 3, .sipush (-9), .if_icmp .eq 3, .aload 0, .iload 1, .iload 3, .invokevirtual 169, .ifCond .eq 4] := by decide +kernel
theorem zb_179_3 : zblk 179 3 = [.sipush 1, .goto 5] := by decide +kernel
theorem zb_179_4 : zblk 179 4 = [.sipush 0] := by decide +kernel
theorem zb_179_5 : zblk 179 5 = [.ireturn] := by decide +kernel
theorem zb_180_0 : zblk 180 0 = [.sipush 0, .istore 2, .sipush 0, .istore 3] := by decide +kernel
theorem zb_180_1 : zblk 180 1 = [.iload 3, .aload 0, .getfield 774, .if_icmp .ge 6, .sipush 0, .istore 4] := by decide +kernel
theorem zb_180_2 : zblk 180 2 = [.iload 4, .aload 0, .getfield 770, .if_icmp .ge 5, .aload 0, .iload 3, .iload 4, .invokevirtual 179, .ifCond .eq 4, .iload 2, .iload 1, .if_icmp .ne 3, .sipush 10, .iload 3, .imul, .iload 4, .iadd, .ireturn] := by decide +kernel
theorem zb_180_3 : zblk 180 3 = [.iinc 2 1] := by decide +kernel
theorem zb_180_4 : zblk 180 4 = [.iinc 4 1, .goto 2] := by decide +kernel
theorem zb_180_5 : zblk 180 5 = [.iinc 3 1, .goto 1] := by decide +kernel
theorem zb_180_6 : zblk 180 6 = [.sipush (-1), .iload 2, .isub, .ireturn] := by decide +kernel
theorem zb_181_0 : zblk 181 0 = [.iload 2, .invokestatic 175, .ifCond .ne 1, .sipush (-2), .ireturn] := by decide +kernel
theorem zb_181_1 : zblk 181 1 = [.aload 0, .iload 1, .iload 2, .iload 3, .aload 0, .getfield 774, .invokevirtual 173, .istore 4, .iload 4, .ifCond .eq 2, .iload 4, .ireturn] := by decide +kernel
theorem zb_181_2 : zblk 181 2 = [.aload 0, .iload 1, .iload 3, .invokevirtual 176, .ifCond .eq 3, .aload 0, .invokevirtual 177, .ifCond .eq 3, .sipush 0, .goto 4] := by decide +kernel
theorem zb_181_3 : zblk 181 3 = [.sipush (-2)] := by decide +kernel
theorem zb_181_4 : zblk 181 4 = [.ireturn] := by decide +kernel
theorem zb_182_0 : zblk 182 0 = [.aload 0, .sipush 0, .putfield 768, .iload 1, .invokestatic 174, .ifCond .ne 1, .sipush (-1), .ireturn] := by decide +kernel
theorem zb_182_1 : zblk 182 1 = [.aload 0, .iload 1, .iload 2, .iload 3, .invokevirtual 181, .istore 4, .iload 4, .ifCond .eq 2, .iload 4, .goto 3] := by decide +kernel
theorem zb_182_2 : zblk 182 2 = [.sipush (-1), .aload 0, .sipush (-1), .invokevirtual 180, .isub] := by decide +kernel
theorem zb_182_3 : zblk 182 3 = [.ireturn] := by decide +kernel
theorem zb_183_0 : zblk 183 0 = [.aload 0, .sipush 0, .putfield 768, .iload 1, .invokestatic 174, .ifCond .eq 1, .iload 4, .ifCond .ge 2] := by decide +kernel
theorem zb_183_1 : zblk 183 1 = [.sipush (-1), .ireturn] := by decide +kernel
theorem zb_183_2 : zblk 183 2 = [.aload 0, .iload 1, .iload 2, .iload 3, .invokevirtual 181, .istore 5, .iload 5, .ifCond .eq 3, .iload 5, .ireturn] := by decide +kernel
theorem zb_183_3 : zblk 183 3 = [.aload 0, .iload 4, .invokevirtual 180, .istore 6, .iload 6, .ifCond .ge 4, .sipush (-1), .goto 5] := by decide +kernel
theorem zb_183_4 : zblk 183 4 = [.iload 6] := by decide +kernel
theorem zb_183_5 : zblk 183 5 = [.ireturn] := by decide +kernel
theorem zb_184_0 : zblk 184 0 = [.iload 1, .ifCond .lt 1, .iload 1, .aload 0, .getfield 787, .if_icmp .ge 1, .sipush 1, .goto 2] := by decide +kernel
theorem zb_184_1 : zblk 184 1 = [.sipush 0] := by decide +kernel
theorem zb_184_2 : zblk 184 2 = [.ireturn] := by decide +kernel
theorem zb_185_0 : zblk 185 0 = [.sipush 0, .istore 5] := by decide +kernel
theorem zb_185_1 : zblk 185 1 = [.iload 5, .aload 0, .getfield 787, .if_icmp .ge 4, .aload 0, .getfield 788, .iload 5, .iaload, .iload 1, .if_icmp .eq 2, .aload 0, .getfield 789, .iload 5, .iaload, .iload 2, .if_icmp .ne 3] := by decide +kernel
theorem zb_185_2 : zblk 185 2 = [.aload 0, .getfield 790, .iload 5, .iaload, .iload 4, .if_icmp .gt 3, .iload 3, .aload 0, .getfield 791, .iload 5, .iaload, .if_icmp .gt 3, .sipush 1, .ireturn] := by decide +kernel
theorem zb_185_3 : zblk 185 3 = [.iinc 5 1, .goto 1] := by decide +kernel
theorem zb_185_4 : zblk 185 4 = [.sipush 0, .ireturn] := by decide +kernel
theorem zb_186_0 : zblk 186 0 = [.aload 0, .iload 1, .invokevirtual 153, .ifCond .eq 1, .aload 0, .iload 2, .invokevirtual 152, .ifCond .ne 2] := by decide +kernel
theorem zb_186_1 : zblk 186 1 = [.sipush (-1), .ireturn] := by decide +kernel
theorem zb_186_2 : zblk 186 2 = [.iload 3, .invokestatic 151, .ifCond .eq 3, .iload 4, .invokestatic 151, .ifCond .eq 3, .iload 3, .iload 4, .if_icmp .le 4] := by decide +kernel
theorem zb_186_3 : zblk 186 3 = [.sipush (-2), .ireturn] := by decide +kernel
theorem zb_186_4 : zblk 186 4 = [.aload 0, .iload 1, .iload 2, .invokevirtual 159, .ifCond .eq 5, .aload 0, .iload 1, .iload 2, .iload 3, .iload 4, .invokevirtual 185, .ifCond .eq 6] := by decide +kernel
theorem zb_186_5 : zblk 186 5 = [.sipush (-3), .ireturn] := by decide +kernel
theorem zb_186_6 : zblk 186 6 = [.aload 0, .getfield 787, .sipush 40, .if_icmp .ne 7, .sipush (-4), .ireturn] := by decide +kernel
theorem zb_186_7 : zblk 186 7 = [.aload 0, .getfield 788, .aload 0, .getfield 787, .iload 1, .iastore, .aload 0, .getfield 789, .aload 0, .getfield 787, .iload 2, .iastore, .aload 0, .getfield 790, .aload 0, .getfield 787, .iload 3, .iastore, .aload 0, .getfield 791, .aload 0, .getfield 787, .iload 4, .iastore, .aload 0, .getfield 792, .aload 0, .getfield 787, .sipush (-9), .iastore, .aload 0, .dup, .getfield 787, .sipush 1, .iadd, .putfield 787, .aload 0, .getfield 787, .sipush 1, .isub, .ireturn] := by decide +kernel
theorem zb_187_0 : zblk 187 0 = [.aload 0, .iload 1, .invokevirtual 184, .ifCond .ne 1, .sipush (-1), .ireturn] := by decide +kernel
theorem zb_187_1 : zblk 187 1 = [.iload 2, .aload 0, .getfield 790, .iload 1, .iaload, .aload 0, .getfield 791, .iload 1, .iaload, .invokestatic 150, .ifCond .ne 2, .sipush (-2), .ireturn] := by decide +kernel
theorem zb_187_2 : zblk 187 2 = [.aload 0, .getfield 791, .iload 1, .iaload, .istore 3, .aload 0, .getfield 791, .iload 1, .iload 2, .iastore, .iload 3, .ireturn] := by decide +kernel
theorem zb_188_0 : zblk 188 0 = [.aload 0, .iload 1, .invokevirtual 184, .ifCond .ne 1, .sipush (-1), .ireturn] := by decide +kernel
theorem zb_188_1 : zblk 188 1 = [.iload 2, .invokestatic 151, .ifCond .ne 2, .sipush (-2), .ireturn] := by decide +kernel
theorem zb_188_2 : zblk 188 2 = [.aload 0, .getfield 792, .iload 1, .iload 2, .iastore, .sipush 1, .ireturn] := by decide +kernel
theorem zb_189_0 : zblk 189 0 = [.sipush 0, .istore 2, .sipush 0, .istore 3] := by decide +kernel
theorem zb_189_1 : zblk 189 1 = [.iload 3, .aload 0, .getfield 813, .if_icmp .ge 4, .iload 2, .aload 0, .getfield 814, .iload 3, .iaload, .aload 0, .getfield 789, .iload 1, .iaload, .if_icmp .ne 2, .aload 0, .getfield 815, .iload 3, .iaload, .aload 0, .getfield 790, .iload 1, .iaload, .aload 0, .getfield 791, .iload 1, .iaload, .invokestatic 150, .ifCond .eq 2, .sipush 1, .goto 3] := by decide +kernel
theorem zb_189_2 : zblk 189 2 = [.sipush 0] := by decide +kernel
theorem zb_189_3 : zblk 189 3 = [.iadd, .istore 2, .iinc 3 1, .goto 1] := by decide +kernel
theorem zb_189_4 : zblk 189 4 = [.iload 2, .ireturn] := by decide +kernel
theorem zb_190_0 : zblk 190 0 = [.sipush 0, .istore 2, .iload 2, .aload 0, .getfield 829, .sipush 0, .iaload, .sipush (-9), .if_icmp .eq 1, .aload 0, .iload 1, .invokevirtual 189, .aload 0, .getfield 829, .sipush 0, .iaload, .if_icmp .le 1, .sipush 1, .goto 2] := by decide +kernel
theorem zb_190_1 : zblk 190 1 = [.sipush 0] := by decide +kernel
theorem zb_190_2 : zblk 190 2 = [.ior, .istore 2, .iload 2, .aload 0, .getfield 829, .sipush 1, .iaload, .sipush (-9), .if_icmp .eq 4, .aload 0, .getfield 792, .iload 1, .iaload, .sipush (-9), .if_icmp .eq 3, .aload 0, .getfield 791, .iload 1, .iaload, .aload 0, .getfield 792, .iload 1, .iaload, .isub, .aload 0, .getfield 829, .sipush 1, .iaload, .if_icmp .ge 4] := by decide +kernel
theorem zb_190_3 : zblk 190 3 = [.sipush 2, .goto 5] := by decide +kernel
theorem zb_190_4 : zblk 190 4 = [.sipush 0] := by decide +kernel
theorem zb_190_5 : zblk 190 5 = [.ior, .istore 2, .iload 2, .aload 0, .getfield 829, .sipush 2, .iaload, .sipush (-9), .if_icmp .eq 6, .aload 0, .getfield 775, .aload 0, .getfield 788, .iload 1, .iaload, .iaload, .aload 0, .getfield 829, .sipush 2, .iaload, .if_icmp .ge 6, .sipush 4, .goto 7] := by decide +kernel
theorem zb_190_6 : zblk 190 6 = [.sipush 0] := by decide +kernel
theorem zb_190_7 : zblk 190 7 = [.ior, .istore 2, .iload 2, .aload 0, .getfield 829, .sipush 3, .iaload, .sipush (-9), .if_icmp .eq 8, .aload 0, .getfield 791, .iload 1, .iaload, .aload 0, .getfield 790, .iload 1, .iaload, .isub, .sipush 1, .iadd, .aload 0, .getfield 829, .sipush 3, .iaload, .if_icmp .le 8, .sipush 8, .goto 9] := by decide +kernel
theorem zb_190_8 : zblk 190 8 = [.sipush 0] := by decide +kernel
theorem zb_190_9 : zblk 190 9 = [.ior, .istore 2, .iload 2, .ireturn] := by decide +kernel
theorem zb_191_0 : zblk 191 0 = [.aload 0, .iload 1, .invokevirtual 184, .ifCond .ne 1, .sipush (-1), .ireturn] := by decide +kernel
theorem zb_191_1 : zblk 191 1 = [.iload 2, .lookupswitch 8 #[(0, 2), (1, 3), (2, 4), (3, 5), (4, 6), (5, 7)]] := by decide +kernel
theorem zb_191_2 : zblk 191 2 = [.aload 0, .getfield 788, .iload 1, .iaload, .ireturn] := by decide +kernel
theorem zb_191_3 : zblk 191 3 = [.aload 0, .getfield 789, .iload 1, .iaload, .ireturn] := by decide +kernel
theorem zb_191_4 : zblk 191 4 = [.aload 0, .getfield 790, .iload 1, .iaload, .ireturn] := by decide +kernel
theorem zb_191_5 : zblk 191 5 = [.aload 0, .getfield 791, .iload 1, .iaload, .ireturn] := by decide +kernel
theorem zb_191_6 : zblk 191 6 = [.aload 0, .getfield 792, .iload 1, .iaload, .ireturn] := by decide +kernel
theorem zb_191_7 : zblk 191 7 = [.aload 0, .iload 1, .invokevirtual 190, .ireturn] := by decide +kernel
theorem zb_191_8 : zblk 191 8 = [.sipush (-2), .ireturn] := by decide +kernel
theorem zb_192_0 : zblk 192 0 = [.sipush 0, .istore 4] := by decide +kernel
theorem zb_192_1 : zblk 192 1 = [.iload 4, .aload 0, .getfield 787, .if_icmp .ge 5, .iload 1, .ifCond .eq 2, .aload 0, .getfield 788, .iload 4, .iaload, .goto 3] := by decide +kernel
theorem zb_192_2 : zblk 192 2 = [.aload 0, .getfield 789, .iload 4, .iaload] := by decide +kernel
theorem zb_192_3 : zblk 192 3 = [.iload 2, .if_icmp .ne 4, .iload 3, .aload 0, .getfield 790, .iload 4, .iaload, .aload 0, .getfield 791, .iload 4, .iaload, .invokestatic 150, .ifCond .eq 4, .iload 4, .ireturn] := by decide +kernel
theorem zb_192_4 : zblk 192 4 = [.iinc 4 1, .goto 1] := by decide +kernel
theorem zb_192_5 : zblk 192 5 = [.sipush (-9), .ireturn] := by decide +kernel
theorem zb_193_0 : zblk 193 0 = [.iload 1, .sipush 0, .sipush 1, .invokestatic 150, .ifCond .ne 1, .sipush (-2), .ireturn] := by decide +kernel
theorem zb_193_1 : zblk 193 1 = [.iload 1, .ifCond .ne 2, .aload 0, .iload 2, .invokevirtual 152, .ifCond .ne 4, .goto 3] := by decide +kernel
theorem zb_193_2 : zblk 193 2 = [.aload 0, .iload 2, .invokevirtual 153, .ifCond .ne 4] := by decide +kernel
theorem zb_193_3 : zblk 193 3 = [.sipush (-1), .ireturn] := by decide +kernel
theorem zb_193_4 : zblk 193 4 = [.iload 3, .invokestatic 151, .ifCond .eq 7, .aload 0, .iload 1, .sipush 1, .if_icmp .ne 5, .sipush 1, .goto 6] := by decide +kernel
theorem zb_193_5 : zblk 193 5 = [.sipush 0] := by decide +kernel
theorem zb_193_6 : zblk 193 6 = [.iload 2, .iload 3, .invokevirtual 192, .goto 8] := by decide +kernel
theorem zb_193_7 : zblk 193 7 = [.sipush (-2)] := by decide +kernel
theorem zb_193_8 : zblk 193 8 = [.ireturn] := by decide +kernel
theorem zb_194_0 : zblk 194 0 = [.aload 0, .iload 1, .invokevirtual 152, .ifCond .ne 1, .sipush (-1), .ireturn] := by decide +kernel
theorem zb_194_1 : zblk 194 1 = [.iload 2, .invokestatic 151, .ifCond .eq 2, .iload 3, .sipush 0, .sipush 65535, .invokestatic 150, .ifCond .ne 3] := by decide +kernel
theorem zb_194_2 : zblk 194 2 = [.sipush (-2), .ireturn] := by decide +kernel
theorem zb_194_3 : zblk 194 3 = [.sipush 0, .istore 4] := by decide +kernel
theorem zb_194_4 : zblk 194 4 = [.iload 4, .aload 0, .getfield 793, .if_icmp .ge 6, .aload 0, .getfield 794, .iload 4, .iaload, .iload 1, .if_icmp .ne 5, .aload 0, .getfield 795, .iload 4, .iaload, .iload 2, .if_icmp .ne 5, .sipush (-3), .ireturn] := by decide +kernel
theorem zb_194_5 : zblk 194 5 = [.iinc 4 1, .goto 4] := by decide +kernel
theorem zb_194_6 : zblk 194 6 = [.aload 0, .getfield 793, .sipush 40, .if_icmp .ne 7, .sipush (-4), .ireturn] := by decide +kernel
theorem zb_194_7 : zblk 194 7 = [.aload 0, .getfield 794, .aload 0, .getfield 793, .iload 1, .iastore, .aload 0, .getfield 795, .aload 0, .getfield 793, .iload 2, .iastore, .aload 0, .getfield 796, .aload 0, .getfield 793, .iload 3, .iastore, .aload 0, .dup, .getfield 793, .sipush 1, .iadd, .putfield 793, .aload 0, .getfield 793, .sipush 1, .isub, .ireturn] := by decide +kernel
theorem zb_195_0 : zblk 195 0 = [.aload 0, .sipush (-9), .putfield 798, .sipush 0, .istore 3] := by decide +kernel
theorem zb_195_1 : zblk 195 1 = [.iload 3, .aload 0, .getfield 793, .if_icmp .ge 6, .aload 0, .getfield 794, .iload 3, .iaload, .iload 1, .if_icmp .ne 2, .aload 0, .getfield 796, .iload 3, .iaload, .iload 2, .ishr, .sipush 1, .iand, .sipush 1, .if_icmp .ne 2, .sipush 1, .goto 3] := by decide +kernel
theorem zb_195_2 : zblk 195 2 = [.sipush 0] := by decide +kernel
theorem zb_195_3 : zblk 195 3 = [.istore 4, .iload 4, .ifCond .eq 5, .aload 0, .getfield 798, .sipush (-9), .if_icmp .eq 4, .aload 0, .getfield 795, .iload 3, .iaload, .aload 0, .getfield 798, .if_icmp .ge 5] := by decide +kernel
theorem zb_195_4 : zblk 195 4 = [.aload 0, .aload 0, .getfield 795, .iload 3, .iaload, .putfield 798] := by decide +kernel
theorem zb_195_5 : zblk 195 5 = [.iinc 3 1, .goto 1] := by decide +kernel
theorem zb_195_6 : zblk 195 6 = [.aload 0, .getfield 798, .sipush (-9), .if_icmp .ne 7, .sipush 0, .ireturn] := by decide +kernel
theorem zb_195_7 : zblk 195 7 = [.aload 0, .sipush 0, .putfield 797, .sipush 0, .istore 3] := by decide +kernel
theorem zb_195_8 : zblk 195 8 = [.iload 3, .aload 0, .getfield 793, .if_icmp .ge 10, .aload 0, .getfield 794, .iload 3, .iaload, .iload 1, .if_icmp .ne 9, .aload 0, .getfield 795, .iload 3, .iaload, .aload 0, .getfield 798, .if_icmp .ge 9, .aload 0, .getfield 795, .iload 3, .iaload, .sipush 1, .iadd, .aload 0, .getfield 797, .if_icmp .le 9, .aload 0, .aload 0, .getfield 795, .iload 3, .iaload, .sipush 1, .iadd, .putfield 797] := by decide +kernel
theorem zb_195_9 : zblk 195 9 = [.iinc 3 1, .goto 8] := by decide +kernel
theorem zb_195_10 : zblk 195 10 = [.sipush 1, .ireturn] := by decide +kernel
theorem zb_196_0 : zblk 196 0 = [.aload 0, .iload 1, .invokevirtual 152, .ifCond .eq 1, .iload 2, .sipush 0, .sipush 15, .invokestatic 150, .ifCond .ne 2] := by decide +kernel
theorem zb_196_1 : zblk 196 1 = [.sipush (-1), .ireturn] := by decide +kernel
theorem zb_196_2 : zblk 196 2 = [.iload 3, .sipush 0, .sipush 1, .invokestatic 150, .ifCond .ne 3, .sipush (-2), .ireturn] := by decide +kernel
theorem zb_196_3 : zblk 196 3 = [.aload 0, .iload 1, .iload 2, .invokevirtual 195, .ifCond .ne 4, .sipush (-9), .goto 6] := by decide +kernel
theorem zb_196_4 : zblk 196 4 = [.iload 3, .ifCond .ne 5, .aload 0, .getfield 797, .goto 6] := by decide +kernel
theorem zb_196_5 : zblk 196 5 = [.aload 0, .getfield 798] := by decide +kernel
theorem zb_196_6 : zblk 196 6 = [.ireturn] := by decide +kernel
theorem zb_197_0 : zblk 197 0 = [.aload 0, .iload 1, .invokevirtual 152, .ifCond .eq 1, .iload 2, .sipush 0, .sipush 15, .invokestatic 150, .ifCond .ne 2] := by decide +kernel
theorem zb_197_1 : zblk 197 1 = [.sipush (-1), .ireturn] := by decide +kernel
theorem zb_197_2 : zblk 197 2 = [.aload 0, .iload 1, .iload 2, .invokevirtual 195, .ifCond .ne 3, .sipush (-9), .ireturn] := by decide +kernel
theorem zb_197_3 : zblk 197 3 = [.aload 0, .sipush 0, .iload 1, .aload 0, .getfield 797, .invokevirtual 192, .istore 3, .iload 3, .sipush (-9), .if_icmp .eq 4, .aload 0, .getfield 791, .iload 3, .iaload, .aload 0, .getfield 798, .if_icmp .lt 4, .iload 3, .goto 5] := by decide +kernel
theorem zb_197_4 : zblk 197 4 = [.sipush (-9)] := by decide +kernel
theorem zb_197_5 : zblk 197 5 = [.ireturn] := by decide +kernel
theorem zb_198_0 : zblk 198 0 = [.aload 0, .iload 1, .invokevirtual 152, .ifCond .ne 1, .sipush (-1), .ireturn] := by decide +kernel
theorem zb_198_1 : zblk 198 1 = [.sipush 0, .istore 2, .sipush 0, .istore 3] := by decide +kernel
theorem zb_198_2 : zblk 198 2 = [.iload 3, .aload 0, .getfield 793, .if_icmp .ge 9, .sipush 0, .istore 4, .sipush 0, .istore 5] := by decide +kernel
theorem zb_198_3 : zblk 198 3 = [.iload 5, .aload 0, .getfield 793, .if_icmp .ge 6, .iload 4, .aload 0, .getfield 794, .iload 5, .iaload, .iload 1, .if_icmp .ne 4, .aload 0, .getfield 795, .iload 5, .iaload, .aload 0, .getfield 795, .iload 3, .iaload, .if_icmp .ge 4, .aload 0, .getfield 796, .iload 5, .iaload, .goto 5] := by decide +kernel
theorem zb_198_4 : zblk 198 4 = [.sipush 0] := by decide +kernel
theorem zb_198_5 : zblk 198 5 = [.ior, .istore 4, .iinc 5 1, .goto 3] := by decide +kernel
theorem zb_198_6 : zblk 198 6 = [.iload 2, .aload 0, .getfield 794, .iload 3, .iaload, .iload 1, .if_icmp .ne 7, .iload 4, .aload 0, .getfield 796, .iload 3, .iaload, .sipush (-1), .ixor, .iand, .ifCond .eq 7, .sipush 1, .goto 8] := by decide +kernel
theorem zb_198_7 : zblk 198 7 = [.sipush 0] := by decide +kernel
theorem zb_198_8 : zblk 198 8 = [.iadd, .istore 2, .iinc 3 1, .goto 2] := by decide +kernel
theorem zb_198_9 : zblk 198 9 = [.iload 2, .ireturn] := by decide +kernel
theorem zb_199_0 : zblk 199 0 = [.sipush 0, .istore 1, .sipush 0, .istore 2] := by decide +kernel
theorem zb_199_1 : zblk 199 1 = [.iload 2, .sipush 10, .if_icmp .ge 2, .iload 1, .iload 0, .iload 2, .ishr, .sipush 1, .iand, .iadd, .istore 1, .iinc 2 1, .goto 1] := by decide +kernel
theorem zb_199_2 : zblk 199 2 = [.iload 1, .ireturn] := by decide +kernel
theorem zb_200_0 : zblk 200 0 = [.sipush 0, .istore 3] := by decide +kernel
theorem zb_200_1 : zblk 200 1 = [.iload 3, .sipush 1, .aload 0, .getfield 774, .ishl, .if_icmp .ge 8, .aload 0, .getfield 802, .iload 3, .iload 3, .ifCond .ne 2, .sipush 0, .goto 3] := by decide +kernel
theorem zb_200_2 : zblk 200 2 = [.sipush (-9)] := by decide +kernel
theorem zb_200_3 : zblk 200 3 = [.iastore, .aload 0, .getfield 801, .iload 3, .sipush 0, .iastore, .sipush 0, .istore 4] := by decide +kernel
theorem zb_200_4 : zblk 200 4 = [.iload 4, .aload 0, .getfield 800, .if_icmp .ge 7, .aload 0, .getfield 801, .iload 3, .dup2, .iaload, .aload 0, .getfield 799, .iload 4, .iaload, .iload 3, .sipush (-1), .ixor, .iand, .ifCond .ne 5, .sipush 1, .goto 6] := by decide +kernel
theorem zb_200_5 : zblk 200 5 = [.sipush 0] := by decide +kernel
theorem zb_200_6 : zblk 200 6 = [.iadd, .iastore, .iinc 4 1, .goto 4] := by decide +kernel
theorem zb_200_7 : zblk 200 7 = [.iinc 3 1, .goto 1] := by decide +kernel
theorem zb_200_8 : zblk 200 8 = [.sipush 0, .istore 3] := by decide +kernel
theorem zb_200_9 : zblk 200 9 = [.aload 0, .getfield 802, .iload 1, .iaload, .aload 0, .getfield 800, .if_icmp .ge 26, .sipush 0, .istore 4] := by decide +kernel
theorem zb_200_10 : zblk 200 10 = [.iload 4, .sipush 1, .aload 0, .getfield 774, .ishl, .if_icmp .ge 11, .aload 0, .getfield 803, .iload 4, .sipush (-9), .iastore, .iinc 4 1, .goto 10] := by decide +kernel
theorem zb_200_11 : zblk 200 11 = [.sipush 0, .istore 4] := by decide +kernel
theorem zb_200_12 : zblk 200 12 = [.iload 4, .sipush 1, .aload 0, .getfield 774, .ishl, .if_icmp .ge 23, .aload 0, .getfield 802, .iload 4, .iaload, .sipush (-9), .if_icmp .ne 13, .goto 22] := by decide +kernel
theorem zb_200_13 : zblk 200 13 = [.iload 1, .iload 4, .sipush (-1), .ixor, .iand, .istore 5, .iload 5, .istore 6, .sipush 1, .istore 7] := by decide +kernel
theorem zb_200_14 : zblk 200 14 = [.iload 7, .ifCond .eq 22, .iload 2, .iload 6, .invokestatic 199, .isub, .istore 8, .iload 8, .ifCond .lt 19, .aload 0, .getfield 801, .iload 4, .iaload, .aload 0, .getfield 802, .iload 4, .iaload, .isub, .istore 9, .aload 0, .getfield 802, .iload 4, .iaload, .iload 9, .iload 8, .if_icmp .ge 15, .iload 9, .goto 16] := by decide +kernel
theorem zb_200_15 : zblk 200 15 = [.iload 8] := by decide +kernel
theorem zb_200_16 : zblk 200 16 = [.iadd, .istore 10, .aload 0, .getfield 803, .iload 4, .iload 6, .ior, .iload 10, .aload 0, .getfield 803, .iload 4, .iload 6, .ior, .iaload, .if_icmp .le 17, .iload 10, .goto 18] := by decide +kernel
theorem zb_200_17 : zblk 200 17 = [.aload 0, .getfield 803, .iload 4, .iload 6, .ior, .iaload] := by decide +kernel
theorem zb_200_18 : zblk 200 18 = [.iastore] := by decide +kernel
theorem zb_200_19 : zblk 200 19 = [.iload 6, .ifCond .le 20, .sipush 1, .goto 21] := by decide +kernel
theorem zb_200_20 : zblk 200 20 = [.sipush 0] := by decide +kernel
theorem zb_200_21 : zblk 200 21 = [.istore 7, .iload 6, .sipush 1, .isub, .iload 5, .iand, .istore 6, .goto 14] := by decide +kernel
theorem zb_200_22 : zblk 200 22 = [.iinc 4 1, .goto 12] := by decide +kernel
theorem zb_200_23 : zblk 200 23 = [.sipush 0, .istore 4] := by decide +kernel
theorem zb_200_24 : zblk 200 24 = [.iload 4, .sipush 1, .aload 0, .getfield 774, .ishl, .if_icmp .ge 25, .aload 0, .getfield 802, .iload 4, .aload 0, .getfield 803, .iload 4, .iaload, .iastore, .iinc 4 1, .goto 24] := by decide +kernel
theorem zb_200_25 : zblk 200 25 = [.iinc 3 1, .goto 9] := by decide +kernel
theorem zb_200_26 : zblk 200 26 = [.iload 3, .ireturn] := by decide +kernel
theorem zb_201_0 : zblk 201 0 = [.aload 0, .sipush 0, .putfield 768, .iload 3, .invokestatic 174, .ifCond .ne 1, .sipush (-1), .ireturn] := by decide +kernel
theorem zb_201_1 : zblk 201 1 = [.iload 4, .invokestatic 175, .ifCond .eq 2, .iload 1, .invokestatic 151, .ifCond .eq 2, .iload 2, .sipush 1, .sipush 9, .invokestatic 150, .ifCond .ne 3] := by decide +kernel
theorem zb_201_2 : zblk 201 2 = [.sipush (-2), .ireturn] := by decide +kernel
theorem zb_201_3 : zblk 201 3 = [.aload 0, .iload 3, .iload 4, .iload 5, .aload 0, .getfield 774, .invokevirtual 173, .istore 6, .iload 6, .ifCond .eq 4, .iload 6, .ireturn] := by decide +kernel
theorem zb_201_4 : zblk 201 4 = [.aload 0, .iload 3, .iload 5, .invokevirtual 176, .ifCond .ne 5, .sipush (-2), .ireturn] := by decide +kernel
theorem zb_201_5 : zblk 201 5 = [.sipush 0, .istore 7, .aload 0, .sipush 0, .putfield 800, .sipush 0, .istore 8] := by decide +kernel
theorem zb_201_6 : zblk 201 6 = [.iload 8, .aload 0, .getfield 774, .if_icmp .ge 16, .aload 0, .sipush 1, .iload 8, .iload 1, .invokevirtual 192, .istore 9, .iload 9, .sipush (-9), .if_icmp .ne 7, .sipush (-1), .goto 8] := by decide +kernel
theorem zb_201_7 : zblk 201 7 = [.aload 0, .getfield 789, .iload 9, .iaload] := by decide +kernel
theorem zb_201_8 : zblk 201 8 = [.istore 10, .iload 7, .iload 10, .ifCond .lt 9, .iload 10, .aload 0, .getfield 786, .iload 8, .iaload, .if_icmp .eq 9, .sipush 1, .iload 8, .ishl, .goto 10] := by decide +kernel
theorem zb_201_9 : zblk 201 9 = [.sipush 0] := by decide +kernel
theorem zb_201_10 : zblk 201 10 = [.ior, .istore 7, .aload 0, .getfield 786, .iload 8, .iaload, .ifCond .lt 15, .aload 0, .getfield 786, .iload 8, .iaload, .iload 10, .if_icmp .eq 15, .aload 0, .sipush 0, .aload 0, .getfield 786, .iload 8, .iaload, .iload 1, .invokevirtual 192, .istore 11, .aload 0, .getfield 799, .aload 0, .getfield 800, .iload 10, .ifCond .lt 11, .sipush 1, .iload 8, .ishl, .goto 12] := by decide +kernel
theorem zb_201_11 : zblk 201 11 = [.sipush 0] := by decide +kernel
theorem zb_201_12 : zblk 201 12 = [.iload 11, .sipush (-9), .if_icmp .ne 13, .sipush 0, .goto 14] := by decide +kernel
theorem zb_201_13 : zblk 201 13 = [.sipush 1, .aload 0, .getfield 788, .iload 11, .iaload, .ishl] := by decide +kernel
theorem zb_201_14 : zblk 201 14 = [.ior, .iastore, .aload 0, .dup, .getfield 800, .sipush 1, .iadd, .putfield 800] := by decide +kernel
theorem zb_201_15 : zblk 201 15 = [.iinc 8 1, .goto 6] := by decide +kernel
theorem zb_201_16 : zblk 201 16 = [.iload 7, .ifCond .ne 17, .aload 0, .getfield 800, .ifCond .ne 17, .sipush 0, .goto 18] := by decide +kernel
theorem zb_201_17 : zblk 201 17 = [.aload 0, .iload 7, .iload 2, .invokevirtual 200] := by decide +kernel
theorem zb_201_18 : zblk 201 18 = [.ireturn] := by decide +kernel
theorem zb_202_0 : zblk 202 0 = [.iload 0, .sipush 1500, .sipush 2100, .invokestatic 150, .ireturn] := by decide +kernel
theorem zb_203_0 : zblk 203 0 = [.aload 0, .iload 1, .invokevirtual 152, .ifCond .ne 1, .sipush (-1), .ireturn] := by decide +kernel
theorem zb_203_1 : zblk 203 1 = [.iload 2, .sipush 0, .sipush 99, .invokestatic 150, .ifCond .eq 2, .iload 3, .invokestatic 202, .ifCond .eq 2, .iload 4, .invokestatic 202, .ifCond .eq 2, .iload 3, .iload 4, .if_icmp .le 3] := by decide +kernel
theorem zb_203_2 : zblk 203 2 = [.sipush (-2), .ireturn] := by decide +kernel
theorem zb_203_3 : zblk 203 3 = [.aload 0, .getfield 804, .sipush 40, .if_icmp .ne 4, .sipush (-4), .ireturn] := by decide +kernel
theorem zb_203_4 : zblk 203 4 = [.aload 0, .getfield 805, .aload 0, .getfield 804, .iload 1, .iastore, .aload 0, .getfield 806, .aload 0, .getfield 804, .iload 2, .iastore, .aload 0, .getfield 807, .aload 0, .getfield 804, .iload 3, .iastore, .aload 0, .getfield 808, .aload 0, .getfield 804, .iload 4, .iastore, .aload 0, .dup, .getfield 804, .sipush 1, .iadd, .putfield 804, .aload 0, .getfield 804, .sipush 1, .isub, .ireturn] := by decide +kernel
theorem zb_204_0 : zblk 204 0 = [.aload 0, .getfield 805, .iload 1, .iaload, .iload 2, .if_icmp .ne 1, .iload 3, .aload 0, .getfield 807, .iload 1, .iaload, .aload 0, .getfield 808, .iload 1, .iaload, .invokestatic 150, .ifCond .eq 1, .sipush 1, .goto 2] := by decide +kernel
theorem zb_204_1 : zblk 204 1 = [.sipush 0] := by decide +kernel
theorem zb_204_2 : zblk 204 2 = [.ireturn] := by decide +kernel
theorem zb_205_0 : zblk 205 0 = [.sipush 0, .istore 3] := by decide +kernel
theorem zb_205_1 : zblk 205 1 = [.iload 3, .aload 0, .getfield 804, .if_icmp .ge 3, .aload 0, .iload 3, .iload 1, .iload 2, .invokevirtual 204, .ifCond .eq 2, .sipush 1, .ireturn] := by decide +kernel
theorem zb_205_2 : zblk 205 2 = [.iinc 3 1, .goto 1] := by decide +kernel
theorem zb_205_3 : zblk 205 3 = [.sipush 0, .ireturn] := by decide +kernel
theorem zb_206_0 : zblk 206 0 = [.aload 0, .sipush 2101, .putfield 809, .aload 0, .sipush 0, .putfield 810, .sipush 0, .istore 2] := by decide +kernel
theorem zb_206_1 : zblk 206 1 = [.iload 2, .aload 0, .getfield 804, .if_icmp .ge 7, .aload 0, .getfield 805, .iload 2, .iaload, .iload 1, .if_icmp .ne 6, .aload 0, .aload 0, .getfield 807, .iload 2, .iaload, .aload 0, .getfield 809, .if_icmp .ge 2, .aload 0, .getfield 807, .iload 2, .iaload, .goto 3] := by decide +kernel
theorem zb_206_2 : zblk 206 2 = [.aload 0, .getfield 809] := by decide +kernel
theorem zb_206_3 : zblk 206 3 = [.putfield 809, .aload 0, .aload 0, .getfield 808, .iload 2, .iaload, .aload 0, .getfield 810, .if_icmp .le 4, .aload 0, .getfield 808, .iload 2, .iaload, .goto 5] := by decide +kernel
theorem zb_206_4 : zblk 206 4 = [.aload 0, .getfield 810] := by decide +kernel
theorem zb_206_5 : zblk 206 5 = [.putfield 810] := by decide +kernel
theorem zb_206_6 : zblk 206 6 = [.iinc 2 1, .goto 1] := by decide +kernel
theorem zb_206_7 : zblk 206 7 = [.return_] := by decide +kernel
theorem zb_207_0 : zblk 207 0 = [.iload 2, .aload 0, .getfield 809, .if_icmp .le 1, .iload 2, .aload 0, .getfield 810, .if_icmp .ge 1, .aload 0, .iload 1, .iload 2, .invokevirtual 205, .ifCond .ne 1, .sipush 1, .goto 2] := by decide +kernel
theorem zb_207_1 : zblk 207 1 = [.sipush 0] := by decide +kernel
theorem zb_207_2 : zblk 207 2 = [.ireturn] := by decide +kernel
theorem zb_208_0 : zblk 208 0 = [.aload 0, .iload 1, .invokevirtual 206, .sipush 0, .istore 3, .aload 0, .getfield 809, .istore 4] := by decide +kernel
theorem zb_208_1 : zblk 208 1 = [.iload 4, .aload 0, .getfield 810, .if_icmp .gt 7, .aload 0, .iload 1, .iload 4, .invokevirtual 207, .ifCond .ne 2, .goto 6] := by decide +kernel
theorem zb_208_2 : zblk 208 2 = [.aload 0, .iload 1, .iload 4, .sipush 1, .isub, .invokevirtual 207, .ifCond .ne 3, .iinc 3 1] := by decide +kernel
theorem zb_208_3 : zblk 208 3 = [.iload 3, .sipush 1, .isub, .iload 2, .if_icmp .ne 6, .aload 0, .aload 0, .iload 1, .iload 4, .sipush 1, .isub, .invokevirtual 207, .ifCond .eq 4, .aload 0, .getfield 811, .goto 5] := by decide +kernel
theorem zb_208_4 : zblk 208 4 = [.iload 4] := by decide +kernel
theorem zb_208_5 : zblk 208 5 = [.putfield 811, .aload 0, .iload 4, .putfield 812] := by decide +kernel
theorem zb_208_6 : zblk 208 6 = [.iinc 4 1, .goto 1] := by decide +kernel
theorem zb_208_7 : zblk 208 7 = [.iload 3, .ireturn] := by decide +kernel
theorem zb_209_0 : zblk 209 0 = [.sipush 0, .istore 2, .sipush 0, .istore 3] := by decide +kernel
theorem zb_209_1 : zblk 209 1 = [.iload 3, .aload 0, .getfield 804, .if_icmp .ge 8, .sipush 0, .istore 4] := by decide +kernel
theorem zb_209_2 : zblk 209 2 = [.iload 4, .iload 3, .if_icmp .ge 7, .aload 0, .getfield 805, .iload 3, .iaload, .iload 1, .if_icmp .ne 3, .aload 0, .getfield 805, .iload 4, .iaload, .iload 1, .if_icmp .ne 3, .aload 0, .getfield 806, .iload 3, .iaload, .aload 0, .getfield 806, .iload 4, .iaload, .if_icmp .eq 3, .sipush 1, .goto 4] := by decide +kernel
theorem zb_209_3 : zblk 209 3 = [.sipush 0] := by decide +kernel
theorem zb_209_4 : zblk 209 4 = [.istore 5, .iload 2, .iload 5, .ifCond .eq 5, .aload 0, .getfield 807, .iload 3, .iaload, .aload 0, .getfield 808, .iload 4, .iaload, .if_icmp .gt 5, .aload 0, .getfield 807, .iload 4, .iaload, .aload 0, .getfield 808, .iload 3, .iaload, .if_icmp .gt 5, .sipush 1, .goto 6] := by decide +kernel
theorem zb_209_5 : zblk 209 5 = [.sipush 0] := by decide +kernel
theorem zb_209_6 : zblk 209 6 = [.iadd, .istore 2, .iinc 4 1, .goto 2] := by decide +kernel
theorem zb_209_7 : zblk 209 7 = [.iinc 3 1, .goto 1] := by decide +kernel
theorem zb_209_8 : zblk 209 8 = [.iload 2, .ireturn] := by decide +kernel
theorem zb_210_0 : zblk 210 0 = [.aload 0, .iload 1, .invokevirtual 152, .ifCond .ne 1, .sipush (-1), .ireturn] := by decide +kernel
theorem zb_210_1 : zblk 210 1 = [.iload 2, .sipush 0, .sipush 1, .invokestatic 150, .ifCond .ne 2, .sipush (-2), .ireturn] := by decide +kernel
theorem zb_210_2 : zblk 210 2 = [.iload 2, .ifCond .ne 3, .aload 0, .iload 1, .sipush (-1), .invokevirtual 208, .goto 4] := by decide +kernel
theorem zb_210_3 : zblk 210 3 = [.aload 0, .iload 1, .invokevirtual 209] := by decide +kernel
theorem zb_210_4 : zblk 210 4 = [.ireturn] := by decide +kernel
theorem zb_211_0 : zblk 211 0 = [.aload 0, .iload 1, .invokevirtual 152, .ifCond .eq 1, .iload 2, .ifCond .lt 1, .iload 2, .aload 0, .iload 1, .iload 2, .invokevirtual 208, .if_icmp .lt 2] := by decide +kernel
theorem zb_211_1 : zblk 211 1 = [.sipush (-1), .ireturn] := by decide +kernel
theorem zb_211_2 : zblk 211 2 = [.iload 3, .ifCond .ne 3, .aload 0, .getfield 811, .goto 5] := by decide +kernel
theorem zb_211_3 : zblk 211 3 = [.iload 3, .sipush 1, .if_icmp .ne 4, .aload 0, .getfield 812, .goto 5] := by decide +kernel
theorem zb_211_4 : zblk 211 4 = [.sipush (-2)] := by decide +kernel
theorem zb_211_5 : zblk 211 5 = [.ireturn] := by decide +kernel
theorem zb_212_0 : zblk 212 0 = [.sipush (-9), .istore 4, .aload 0, .getfield 804, .sipush 1, .isub, .istore 5] := by decide +kernel
theorem zb_212_1 : zblk 212 1 = [.iload 5, .ifCond .lt 4, .aload 0, .iload 5, .iload 1, .iload 3, .invokevirtual 204, .ifCond .eq 2, .aload 0, .getfield 806, .iload 5, .iaload, .iload 2, .if_icmp .ne 2, .iload 5, .goto 3] := by decide +kernel
theorem zb_212_2 : zblk 212 2 = [.iload 4] := by decide +kernel
theorem zb_212_3 : zblk 212 3 = [.istore 4, .iinc 5 (-1), .goto 1] := by decide +kernel
theorem zb_212_4 : zblk 212 4 = [.iload 4, .sipush (-9), .if_icmp .eq 5, .aload 0, .iload 1, .aload 0, .getfield 808, .iload 4, .iaload, .sipush 1, .iadd, .invokevirtual 205, .ifCond .eq 6] := by decide +kernel
theorem zb_212_5 : zblk 212 5 = [.sipush 0, .ireturn] := by decide +kernel
theorem zb_212_6 : zblk 212 6 = [.sipush (-9), .istore 5, .sipush 0, .istore 6] := by decide +kernel
theorem zb_212_7 : zblk 212 7 = [.iload 6, .aload 0, .getfield 804, .if_icmp .ge 10, .aload 0, .getfield 805, .iload 6, .iaload, .iload 1, .if_icmp .ne 9, .aload 0, .getfield 807, .iload 6, .iaload, .iload 3, .if_icmp .le 9, .iload 5, .sipush (-9), .if_icmp .eq 8, .aload 0, .getfield 807, .iload 6, .iaload, .aload 0, .getfield 807, .iload 5, .iaload, .if_icmp .ge 9] := by decide +kernel
theorem zb_212_8 : zblk 212 8 = [.iload 6, .istore 5] := by decide +kernel
theorem zb_212_9 : zblk 212 9 = [.iinc 6 1, .goto 7] := by decide +kernel
theorem zb_212_10 : zblk 212 10 = [.iload 5, .sipush (-9), .if_icmp .eq 11, .aload 0, .getfield 806, .iload 5, .iaload, .iload 2, .if_icmp .eq 11, .sipush 1, .goto 12] := by decide +kernel
theorem zb_212_11 : zblk 212 11 = [.sipush 0] := by decide +kernel
theorem zb_212_12 : zblk 212 12 = [.ireturn] := by decide +kernel
theorem zb_213_0 : zblk 213 0 = [.aload 0, .iload 1, .invokevirtual 206, .sipush 0, .istore 4, .sipush 0, .istore 5, .sipush 0, .istore 6] := by decide +kernel
theorem zb_213_1 : zblk 213 1 = [.iload 6, .aload 0, .getfield 804, .if_icmp .ge 7, .aload 0, .iload 6, .iload 1, .iload 3, .invokevirtual 204, .ifCond .eq 6, .iload 4, .aload 0, .getfield 806, .iload 6, .iaload, .iload 2, .if_icmp .ne 2, .sipush 1, .goto 3] := by decide +kernel
theorem zb_213_2 : zblk 213 2 = [.sipush 0] := by decide +kernel
theorem zb_213_3 : zblk 213 3 = [.ior, .istore 4, .iload 5, .aload 0, .getfield 806, .iload 6, .iaload, .iload 2, .if_icmp .eq 4, .sipush 1, .goto 5] := by decide +kernel
theorem zb_213_4 : zblk 213 4 = [.sipush 0] := by decide +kernel
theorem zb_213_5 : zblk 213 5 = [.ior, .istore 5] := by decide +kernel
theorem zb_213_6 : zblk 213 6 = [.iinc 6 1, .goto 1] := by decide +kernel
theorem zb_213_7 : zblk 213 7 = [.aload 0, .iload 1, .iload 3, .invokevirtual 207, .ifCond .ne 8, .iload 4, .ifCond .eq 9, .iload 5, .ifCond .eq 9] := by decide +kernel
theorem zb_213_8 : zblk 213 8 = [.sipush 1, .goto 10] := by decide +kernel
theorem zb_213_9 : zblk 213 9 = [.sipush 0] := by decide +kernel
theorem zb_213_10 : zblk 213 10 = [.ireturn] := by decide +kernel
theorem zb_214_0 : zblk 214 0 = [.aload 0, .iload 1, .invokevirtual 152, .ifCond .ne 1, .sipush (-1), .ireturn] := by decide +kernel
theorem zb_214_1 : zblk 214 1 = [.iload 2, .sipush 0, .sipush 99, .invokestatic 150, .ifCond .eq 2, .iload 3, .invokestatic 202, .ifCond .ne 3] := by decide +kernel
theorem zb_214_2 : zblk 214 2 = [.sipush (-2), .ireturn] := by decide +kernel
theorem zb_214_3 : zblk 214 3 = [.aload 0, .iload 1, .iload 2, .iload 3, .invokevirtual 212, .ifCond .eq 4, .sipush 2, .goto 6] := by decide +kernel
theorem zb_214_4 : zblk 214 4 = [.aload 0, .iload 1, .iload 2, .iload 3, .invokevirtual 213, .ifCond .eq 5, .sipush 1, .goto 6] := by decide +kernel
theorem zb_214_5 : zblk 214 5 = [.sipush 0] := by decide +kernel
theorem zb_214_6 : zblk 214 6 = [.ireturn] := by decide +kernel
theorem zb_215_0 : zblk 215 0 = [.aload 0, .iload 1, .invokevirtual 152, .ifCond .ne 1, .sipush (-1), .ireturn] := by decide +kernel
theorem zb_215_1 : zblk 215 1 = [.iload 2, .invokestatic 151, .ifCond .eq 2, .iload 3, .sipush (-1), .sipush 1, .invokestatic 150, .ifCond .ne 3] := by decide +kernel
theorem zb_215_2 : zblk 215 2 = [.sipush (-2), .ireturn] := by decide +kernel
theorem zb_215_3 : zblk 215 3 = [.sipush 0, .istore 4] := by decide +kernel
theorem zb_215_4 : zblk 215 4 = [.iload 4, .aload 0, .getfield 813, .if_icmp .ge 6, .aload 0, .getfield 814, .iload 4, .iaload, .iload 1, .if_icmp .ne 5, .aload 0, .getfield 815, .iload 4, .iaload, .iload 2, .if_icmp .ne 5, .sipush (-3), .ireturn] := by decide +kernel
theorem zb_215_5 : zblk 215 5 = [.iinc 4 1, .goto 4] := by decide +kernel
theorem zb_215_6 : zblk 215 6 = [.aload 0, .getfield 813, .sipush 40, .if_icmp .ne 7, .sipush (-4), .ireturn] := by decide +kernel
theorem zb_215_7 : zblk 215 7 = [.aload 0, .getfield 814, .aload 0, .getfield 813, .iload 1, .iastore, .aload 0, .getfield 815, .aload 0, .getfield 813, .iload 2, .iastore, .aload 0, .getfield 816, .aload 0, .getfield 813, .iload 3, .iastore, .aload 0, .dup, .getfield 813, .sipush 1, .iadd, .putfield 813, .aload 0, .getfield 813, .sipush 1, .isub, .ireturn] := by decide +kernel
theorem zb_216_0 : zblk 216 0 = [.iload 1, .ifCond .lt 1, .iload 1, .aload 0, .getfield 813, .if_icmp .lt 2] := by decide +kernel
theorem zb_216_1 : zblk 216 1 = [.sipush (-1), .ireturn] := by decide +kernel
theorem zb_216_2 : zblk 216 2 = [.iload 2, .sipush (-1), .sipush 1, .invokestatic 150, .ifCond .ne 3, .sipush (-2), .ireturn] := by decide +kernel
theorem zb_216_3 : zblk 216 3 = [.aload 0, .getfield 816, .iload 1, .iaload, .ifCond .ge 4, .sipush (-9), .goto 5] := by decide +kernel
theorem zb_216_4 : zblk 216 4 = [.aload 0, .getfield 816, .iload 1, .iaload] := by decide +kernel
theorem zb_216_5 : zblk 216 5 = [.istore 3, .aload 0, .getfield 816, .iload 1, .iload 2, .iastore, .iload 3, .ireturn] := by decide +kernel
theorem zb_217_0 : zblk 217 0 = [.iload 1, .aload 0, .getfield 819, .sipush 1, .isub, .iload 2, .isub, .ishr, .sipush 1, .iand, .ireturn] := by decide +kernel
theorem zb_218_0 : zblk 218 0 = [.sipush 0, .istore 2] := by decide +kernel
theorem zb_218_1 : zblk 218 1 = [.iload 2, .aload 0, .getfield 819, .if_icmp .ge 3, .aload 0, .getfield 816, .aload 0, .getfield 818, .iload 2, .iaload, .iaload, .ifCond .lt 2, .aload 0, .getfield 816, .aload 0, .getfield 818, .iload 2, .iaload, .iaload, .aload 0, .iload 1, .iload 2, .invokevirtual 217, .if_icmp .eq 2, .sipush 0, .ireturn] := by decide +kernel
theorem zb_218_2 : zblk 218 2 = [.iinc 2 1, .goto 1] := by decide +kernel
theorem zb_218_3 : zblk 218 3 = [.sipush 1, .ireturn] := by decide +kernel
theorem zb_219_0 : zblk 219 0 = [.sipush 0, .istore 2, .sipush 0, .istore 3, .sipush 0, .istore 4] := by decide +kernel
theorem zb_219_1 : zblk 219 1 = [.iload 4, .aload 0, .getfield 819, .if_icmp .ge 6, .aload 0, .getfield 773, .aload 0, .getfield 814, .aload 0, .getfield 818, .iload 4, .iaload, .iaload, .iaload, .istore 5, .iload 2, .aload 0, .iload 1, .iload 4, .invokevirtual 217, .ifCond .ne 2, .iload 5, .goto 3] := by decide +kernel
theorem zb_219_2 : zblk 219 2 = [.sipush 0] := by decide +kernel
theorem zb_219_3 : zblk 219 3 = [.iadd, .istore 2, .iload 3, .aload 0, .iload 1, .iload 4, .invokevirtual 217, .sipush 1, .if_icmp .ne 4, .iload 5, .goto 5] := by decide +kernel
theorem zb_219_4 : zblk 219 4 = [.sipush 0] := by decide +kernel
theorem zb_219_5 : zblk 219 5 = [.iadd, .istore 3, .iinc 4 1, .goto 1] := by decide +kernel
theorem zb_219_6 : zblk 219 6 = [.iload 2, .iload 3, .if_icmp .le 7, .iload 2, .goto 8] := by decide +kernel
theorem zb_219_7 : zblk 219 7 = [.iload 3] := by decide +kernel
theorem zb_219_8 : zblk 219 8 = [.ireturn] := by decide +kernel
theorem zb_220_0 : zblk 220 0 = [.aload 0, .sipush 0, .putfield 819, .sipush 0, .istore 2] := by decide +kernel
theorem zb_220_1 : zblk 220 1 = [.iload 2, .aload 0, .getfield 813, .if_icmp .ge 3, .aload 0, .getfield 815, .iload 2, .iaload, .iload 1, .if_icmp .ne 2, .aload 0, .getfield 818, .aload 0, .getfield 819, .iload 2, .iastore, .aload 0, .dup, .getfield 819, .sipush 1, .iadd, .putfield 819] := by decide +kernel
theorem zb_220_2 : zblk 220 2 = [.iinc 2 1, .goto 1] := by decide +kernel
theorem zb_220_3 : zblk 220 3 = [.aload 0, .sipush (-9), .putfield 820, .aload 0, .sipush 0, .putfield 821, .sipush 0, .istore 2] := by decide +kernel
theorem zb_220_4 : zblk 220 4 = [.iload 2, .sipush 1, .aload 0, .getfield 819, .ishl, .if_icmp .ge 7, .aload 0, .iload 2, .invokevirtual 218, .ifCond .eq 6, .aload 0, .iload 2, .invokevirtual 219, .istore 3, .aload 0, .getfield 820, .sipush (-9), .if_icmp .eq 5, .iload 3, .aload 0, .getfield 821, .if_icmp .ge 6] := by decide +kernel
theorem zb_220_5 : zblk 220 5 = [.aload 0, .iload 2, .putfield 820, .aload 0, .iload 3, .putfield 821] := by decide +kernel
theorem zb_220_6 : zblk 220 6 = [.iinc 2 1, .goto 4] := by decide +kernel
theorem zb_220_7 : zblk 220 7 = [.return_] := by decide +kernel
theorem zb_221_0 : zblk 221 0 = [.iload 1, .invokestatic 151, .ifCond .ne 1, .sipush (-2), .ireturn] := by decide +kernel
theorem zb_221_1 : zblk 221 1 = [.aload 0, .iload 1, .invokevirtual 220, .aload 0, .getfield 821, .ireturn] := by decide +kernel
theorem zb_222_0 : zblk 222 0 = [.iload 1, .ifCond .lt 1, .iload 1, .aload 0, .getfield 813, .if_icmp .lt 2] := by decide +kernel
theorem zb_222_1 : zblk 222 1 = [.sipush (-1), .ireturn] := by decide +kernel
theorem zb_222_2 : zblk 222 2 = [.aload 0, .aload 0, .getfield 815, .iload 1, .iaload, .invokevirtual 220, .sipush 0, .istore 2] := by decide +kernel
theorem zb_222_3 : zblk 222 3 = [.aload 0, .getfield 818, .iload 2, .iaload, .iload 1, .if_icmp .eq 4, .iinc 2 1, .goto 3] := by decide +kernel
theorem zb_222_4 : zblk 222 4 = [.aload 0, .aload 0, .getfield 820, .iload 2, .invokevirtual 217, .ireturn] := by decide +kernel
theorem zb_223_0 : zblk 223 0 = [.iload 1, .sipush 1, .sipush 100000000, .invokestatic 150, .ifCond .ne 1, .sipush (-2), .ireturn] := by decide +kernel
theorem zb_223_1 : zblk 223 1 = [.aload 0, .getfield 817, .istore 2, .aload 0, .iload 1, .putfield 817, .iload 2, .ireturn] := by decide +kernel
theorem zb_224_0 : zblk 224 0 = [.sipush 0, .istore 1, .sipush 0, .istore 2] := by decide +kernel
theorem zb_224_1 : zblk 224 1 = [.iload 2, .aload 0, .getfield 813, .if_icmp .ge 9, .sipush 1, .istore 3, .sipush 0, .istore 4] := by decide +kernel
theorem zb_224_2 : zblk 224 2 = [.iload 4, .iload 2, .if_icmp .ge 5, .iload 3, .aload 0, .getfield 815, .iload 4, .iaload, .aload 0, .getfield 815, .iload 2, .iaload, .if_icmp .eq 3, .sipush 1, .goto 4] := by decide +kernel
theorem zb_224_3 : zblk 224 3 = [.sipush 0] := by decide +kernel
theorem zb_224_4 : zblk 224 4 = [.iand, .istore 3, .iinc 4 1, .goto 2] := by decide +kernel
theorem zb_224_5 : zblk 224 5 = [.iload 3, .ifCond .eq 8, .aload 0, .aload 0, .getfield 815, .iload 2, .iaload, .invokevirtual 220, .iload 1, .aload 0, .getfield 821, .aload 0, .getfield 817, .if_icmp .le 6, .sipush 1, .goto 7] := by decide +kernel
theorem zb_224_6 : zblk 224 6 = [.sipush 0] := by decide +kernel
theorem zb_224_7 : zblk 224 7 = [.iadd, .istore 1] := by decide +kernel
theorem zb_224_8 : zblk 224 8 = [.iinc 2 1, .goto 1] := by decide +kernel
theorem zb_224_9 : zblk 224 9 = [.iload 1, .ireturn] := by decide +kernel
theorem zb_225_0 : zblk 225 0 = [.aload 0, .sipush 0, .putfield 768, .iload 1, .invokestatic 174, .ifCond .ne 1, .sipush (-1), .ireturn] := by decide +kernel
theorem zb_225_1 : zblk 225 1 = [.iload 2, .invokestatic 175, .ifCond .eq 2, .iload 5, .sipush 0, .sipush 100, .invokestatic 150, .ifCond .eq 2, .iload 6, .iload 5, .sipush 100, .invokestatic 150, .ifCond .eq 2, .iload 7, .sipush 0, .sipush 1, .invokestatic 150, .ifCond .ne 3] := by decide +kernel
theorem zb_225_2 : zblk 225 2 = [.sipush (-2), .ireturn] := by decide +kernel
theorem zb_225_3 : zblk 225 3 = [.aload 0, .iload 1, .iload 2, .iload 3, .iload 4, .invokevirtual 173, .istore 8, .iload 8, .ifCond .eq 4, .iload 8, .ireturn] := by decide +kernel
theorem zb_225_4 : zblk 225 4 = [.sipush 60, .iload 1, .imul, .iload 3, .iadd, .istore 9, .sipush 0, .istore 10] := by decide +kernel
theorem zb_225_5 : zblk 225 5 = [.iload 10, .iload 4, .if_icmp .ge 7, .aload 0, .getfield 785, .iload 9, .iload 10, .iadd, .iaload, .sipush (-1), .sipush 100, .invokestatic 150, .ifCond .ne 6, .sipush (-2), .ireturn] := by decide +kernel
theorem zb_225_6 : zblk 225 6 = [.iinc 10 1, .goto 5] := by decide +kernel
theorem zb_225_7 : zblk 225 7 = [.sipush 0, .istore 10, .sipush 0, .istore 11, .sipush 0, .istore 12, .sipush 0, .istore 13] := by decide +kernel
theorem zb_225_8 : zblk 225 8 = [.iload 13, .iload 4, .if_icmp .ge 16, .aload 0, .getfield 785, .iload 9, .iload 13, .iadd, .iaload, .istore 14, .iload 14, .iload 5, .iload 6, .invokestatic 150, .ifCond .eq 9, .sipush 0, .istore 11, .sipush 0, .istore 12, .goto 15] := by decide +kernel
theorem zb_225_9 : zblk 225 9 = [.iinc 11 1, .iload 12, .iload 14, .ifCond .lt 10, .sipush 1, .goto 11] := by decide +kernel
theorem zb_225_10 : zblk 225 10 = [.sipush 0] := by decide +kernel
theorem zb_225_11 : zblk 225 11 = [.ior, .istore 12, .iload 11, .iload 10, .if_icmp .le 13, .iload 7, .ifCond .eq 12, .iload 12, .ifCond .eq 13] := by decide +kernel
theorem zb_225_12 : zblk 225 12 = [.iload 11, .goto 14] := by decide +kernel
theorem zb_225_13 : zblk 225 13 = [.iload 10] := by decide +kernel
theorem zb_225_14 : zblk 225 14 = [.istore 10] := by decide +kernel
theorem zb_225_15 : zblk 225 15 = [.iinc 13 1, .goto 8] := by decide +kernel
theorem zb_225_16 : zblk 225 16 = [.iload 10, .ireturn] := by decide +kernel
theorem zb_226_0 : zblk 226 0 = [.sipush 0, .istore 3] := by decide +kernel
theorem zb_226_1 : zblk 226 1 = [.iload 3, .iload 2, .if_icmp .ge 3, .aload 0, .getfield 785, .iload 1, .iload 3, .iadd, .iaload, .sipush 1, .sipush 255, .invokestatic 150, .ifCond .ne 2, .sipush 0, .ireturn] := by decide +kernel
theorem zb_226_2 : zblk 226 2 = [.iinc 3 1, .goto 1] := by decide +kernel
theorem zb_226_3 : zblk 226 3 = [.sipush 1, .ireturn] := by decide +kernel
theorem zb_227_0 : zblk 227 0 = [.aload 0, .sipush 0, .putfield 768, .aload 0, .iload 1, .invokevirtual 152, .ifCond .eq 1, .iload 2, .invokestatic 174, .ifCond .ne 2] := by decide +kernel
theorem zb_227_1 : zblk 227 1 = [.sipush (-1), .ireturn] := by decide +kernel
theorem zb_227_2 : zblk 227 2 = [.iload 3, .invokestatic 175, .ifCond .ne 3, .sipush (-2), .ireturn] := by decide +kernel
theorem zb_227_3 : zblk 227 3 = [.aload 0, .iload 2, .iload 3, .iload 4, .iload 5, .invokevirtual 173, .istore 6, .iload 6, .ifCond .eq 4, .iload 6, .ireturn] := by decide +kernel
theorem zb_227_4 : zblk 227 4 = [.sipush 60, .iload 2, .imul, .iload 4, .iadd, .istore 7, .iload 5, .sipush 20, .if_icmp .gt 5, .aload 0, .iload 7, .iload 5, .invokevirtual 226, .ifCond .ne 6] := by decide +kernel
theorem zb_227_5 : zblk 227 5 = [.sipush (-2), .ireturn] := by decide +kernel
theorem zb_227_6 : zblk 227 6 = [.aload 0, .getfield 822, .iload 1, .iload 5, .iastore, .sipush 0, .istore 8] := by decide +kernel
theorem zb_227_7 : zblk 227 7 = [.iload 8, .iload 5, .if_icmp .ge 8, .aload 0, .getfield 823, .sipush 20, .iload 1, .imul, .iload 8, .iadd, .aload 0, .getfield 785, .iload 7, .iload 8, .iadd, .iaload, .iastore, .iinc 8 1, .goto 7] := by decide +kernel
theorem zb_227_8 : zblk 227 8 = [.iload 5, .ireturn] := by decide +kernel
theorem zb_228_0 : zblk 228 0 = [.aload 0, .sipush 0, .putfield 768, .iload 1, .invokestatic 174, .ifCond .ne 1, .sipush (-1), .ireturn] := by decide +kernel
theorem zb_228_1 : zblk 228 1 = [.iload 2, .invokestatic 175, .ifCond .eq 2, .iload 5, .sipush 0, .sipush 2100, .invokestatic 150, .ifCond .ne 3] := by decide +kernel
theorem zb_228_2 : zblk 228 2 = [.sipush (-2), .ireturn] := by decide +kernel
theorem zb_228_3 : zblk 228 3 = [.aload 0, .iload 1, .iload 2, .iload 3, .iload 4, .invokevirtual 173, .istore 6, .iload 6, .ifCond .eq 4, .iload 6, .ireturn] := by decide +kernel
theorem zb_228_4 : zblk 228 4 = [.sipush 60, .iload 1, .imul, .iload 3, .iadd, .istore 7, .aload 0, .iload 7, .iload 4, .invokevirtual 226, .ifCond .ne 5, .sipush (-2), .ireturn] := by decide +kernel
theorem zb_228_5 : zblk 228 5 = [.aload 0, .iload 4, .putfield 824, .aload 0, .iload 5, .putfield 826, .sipush 0, .istore 8] := by decide +kernel
theorem zb_228_6 : zblk 228 6 = [.iload 8, .iload 4, .if_icmp .ge 7, .aload 0, .getfield 825, .iload 8, .aload 0, .getfield 785, .iload 7, .iload 8, .iadd, .iaload, .iastore, .iinc 8 1, .goto 6] := by decide +kernel
theorem zb_228_7 : zblk 228 7 = [.iload 4, .ireturn] := by decide +kernel
theorem zb_229_0 : zblk 229 0 = [.iload 0, .ifCond .le 1, .sipush 1, .goto 3] := by decide +kernel
theorem zb_229_1 : zblk 229 1 = [.iload 0, .ifCond .ge 2, .sipush (-1), .goto 3] := by decide +kernel
theorem zb_229_2 : zblk 229 2 = [.sipush 0] := by decide +kernel
theorem zb_229_3 : zblk 229 3 = [.ireturn] := by decide +kernel
theorem zb_230_0 : zblk 230 0 = [.aload 0, .sipush 0, .putfield 827, .aload 0, .sipush 0, .putfield 828, .sipush 0, .istore 3] := by decide +kernel
theorem zb_230_1 : zblk 230 1 = [.iload 3, .sipush 1, .iadd, .aload 0, .getfield 822, .iload 1, .iaload, .if_icmp .ge 7, .iload 2, .iload 3, .iadd, .istore 4, .iload 4, .ifCond .lt 6, .iload 4, .sipush 1, .iadd, .aload 0, .getfield 824, .if_icmp .ge 6, .aload 0, .getfield 823, .sipush 20, .iload 1, .imul, .iload 3, .iadd, .sipush 1, .iadd, .iaload, .aload 0, .getfield 823, .sipush 20, .iload 1, .imul, .iload 3, .iadd, .iaload, .isub, .invokestatic 229, .aload 0, .getfield 825, .iload 4, .sipush 1, .iadd, .iaload, .aload 0, .getfield 825, .iload 4, .iaload, .isub, .invokestatic 229, .if_icmp .ne 2, .sipush 1, .goto 3] := by decide +kernel
theorem zb_230_2 : zblk 230 2 = [.sipush 0] := by decide +kernel
theorem zb_230_3 : zblk 230 3 = [.istore 5, .aload 0, .dup, .getfield 827, .sipush 1, .iadd, .putfield 827, .aload 0, .dup, .getfield 828, .iload 5, .ifCond .eq 4, .sipush 1, .goto 5] := by decide +kernel
theorem zb_230_4 : zblk 230 4 = [.sipush (-1)] := by decide +kernel
theorem zb_230_5 : zblk 230 5 = [.iadd, .putfield 828] := by decide +kernel
theorem zb_230_6 : zblk 230 6 = [.iinc 3 1, .goto 1] := by decide +kernel
theorem zb_230_7 : zblk 230 7 = [.return_] := by decide +kernel
theorem zb_231_0 : zblk 231 0 = [.aload 0, .sipush 0, .putfield 827, .aload 0, .sipush 0, .putfield 828, .sipush 0, .istore 4] := by decide +kernel
theorem zb_231_1 : zblk 231 1 = [.iload 4, .sipush 1, .iadd, .aload 0, .getfield 822, .iload 1, .iaload, .if_icmp .ge 7, .iload 3, .iload 4, .iadd, .istore 5, .iload 5, .ifCond .lt 6, .iload 5, .sipush 1, .iadd, .aload 0, .getfield 822, .iload 2, .iaload, .if_icmp .ge 6, .aload 0, .getfield 823, .sipush 20, .iload 1, .imul, .iload 4, .iadd, .sipush 1, .iadd, .iaload, .aload 0, .getfield 823, .sipush 20, .iload 1, .imul, .iload 4, .iadd, .iaload, .isub, .invokestatic 229, .aload 0, .getfield 823, .sipush 20, .iload 2, .imul, .iload 5, .iadd, .sipush 1, .iadd, .iaload, .aload 0, .getfield 823, .sipush 20, .iload 2, .imul, .iload 5, .iadd, .iaload, .isub, .invokestatic 229, .if_icmp .ne 2, .sipush 1, .goto 3] := by decide +kernel
theorem zb_231_2 : zblk 231 2 = [.sipush 0] := by decide +kernel
theorem zb_231_3 : zblk 231 3 = [.istore 6, .aload 0, .dup, .getfield 827, .sipush 1, .iadd, .putfield 827, .aload 0, .dup, .getfield 828, .iload 6, .ifCond .eq 4, .sipush 1, .goto 5] := by decide +kernel
theorem zb_231_4 : zblk 231 4 = [.sipush (-1)] := by decide +kernel
theorem zb_231_5 : zblk 231 5 = [.iadd, .putfield 828] := by decide +kernel
theorem zb_231_6 : zblk 231 6 = [.iinc 4 1, .goto 1] := by decide +kernel
theorem zb_231_7 : zblk 231 7 = [.return_] := by decide +kernel
theorem zb_232_0 : zblk 232 0 = [.aload 0, .iload 1, .invokevirtual 152, .ifCond .eq 1, .aload 0, .getfield 822, .iload 1, .iaload, .ifCond .eq 1, .aload 0, .getfield 824, .ifCond .eq 1, .iload 2, .sipush 1, .aload 0, .getfield 822, .iload 1, .iaload, .isub, .aload 0, .getfield 824, .sipush 1, .isub, .invokestatic 150, .ifCond .eq 1, .iload 3, .sipush 0, .sipush 1, .invokestatic 150, .ifCond .ne 2] := by decide +kernel
theorem zb_232_1 : zblk 232 1 = [.ldc2_w 5, .lreturn] := by decide +kernel
theorem zb_232_2 : zblk 232 2 = [.aload 0, .iload 1, .iload 2, .invokevirtual 230, .iload 3, .ifCond .ne 3, .aload 0, .getfield 828, .i2l, .goto 4] := by decide +kernel
theorem zb_232_3 : zblk 232 3 = [.aload 0, .getfield 827, .i2l] := by decide +kernel
theorem zb_232_4 : zblk 232 4 = [.lreturn] := by decide +kernel
theorem zb_233_0 : zblk 233 0 = [.aload 0, .iload 1, .invokevirtual 152, .ifCond .eq 1, .iload 2, .sipush 0, .sipush 2, .invokestatic 150, .ifCond .ne 2] := by decide +kernel
theorem zb_233_1 : zblk 233 1 = [.ldc2_w 5, .lreturn] := by decide +kernel
theorem zb_233_2 : zblk 233 2 = [.sipush 0, .istore 3, .sipush 0, .istore 4, .sipush 0, .istore 5, .sipush 1, .aload 0, .getfield 822, .iload 1, .iaload, .isub, .istore 6] := by decide +kernel
theorem zb_233_3 : zblk 233 3 = [.iload 6, .aload 0, .getfield 824, .if_icmp .ge 6, .aload 0, .iload 1, .iload 6, .invokevirtual 230, .aload 0, .getfield 827, .sipush 5, .if_icmp .lt 5, .iload 3, .ifCond .eq 4, .aload 0, .getfield 828, .iload 5, .if_icmp .le 5] := by decide +kernel
theorem zb_233_4 : zblk 233 4 = [.sipush 1, .istore 3, .iload 6, .istore 4, .aload 0, .getfield 828, .istore 5] := by decide +kernel
theorem zb_233_5 : zblk 233 5 = [.iinc 6 1, .goto 3] := by decide +kernel
theorem zb_233_6 : zblk 233 6 = [.iload 3, .ifCond .ne 7, .ldc2_w 5, .lreturn] := by decide +kernel
theorem zb_233_7 : zblk 233 7 = [.iload 2, .ifCond .ne 8, .iload 4, .i2l, .goto 10] := by decide +kernel
theorem zb_233_8 : zblk 233 8 = [.iload 2, .sipush 1, .if_icmp .ne 9, .iload 5, .i2l, .goto 10] := by decide +kernel
theorem zb_233_9 : zblk 233 9 = [.aload 0, .getfield 826, .iload 4, .iadd, .aload 0, .getfield 822, .iload 1, .iaload, .iadd, .sipush 1, .isub, .i2l] := by decide +kernel
theorem zb_233_10 : zblk 233 10 = [.lreturn] := by decide +kernel
theorem zb_234_0 : zblk 234 0 = [.aload 0, .iload 1, .invokevirtual 152, .ifCond .eq 1, .aload 0, .iload 2, .invokevirtual 152, .ifCond .ne 2] := by decide +kernel
theorem zb_234_1 : zblk 234 1 = [.sipush (-1), .ireturn] := by decide +kernel
theorem zb_234_2 : zblk 234 2 = [.iload 1, .iload 2, .if_icmp .ne 3, .sipush (-3), .ireturn] := by decide +kernel
theorem zb_234_3 : zblk 234 3 = [.sipush 1, .aload 0, .getfield 822, .iload 1, .iaload, .isub, .istore 3] := by decide +kernel
theorem zb_234_4 : zblk 234 4 = [.iload 3, .aload 0, .getfield 822, .iload 2, .iaload, .if_icmp .ge 6, .aload 0, .iload 1, .iload 2, .iload 3, .invokevirtual 231, .aload 0, .getfield 827, .sipush 5, .if_icmp .lt 5, .aload 0, .getfield 828, .aload 0, .getfield 827, .if_icmp .ne 5, .sipush 1, .ireturn] := by decide +kernel
theorem zb_234_5 : zblk 234 5 = [.iinc 3 1, .goto 4] := by decide +kernel
theorem zb_234_6 : zblk 234 6 = [.sipush 0, .ireturn] := by decide +kernel
theorem zb_235_0 : zblk 235 0 = [.iload 0, .lookupswitch 5 #[(65, 1), (66, 2), (72, 3), (89, 4)]] := by decide +kernel
theorem zb_235_1 : zblk 235 1 = [.sipush 0, .ireturn] := by decide +kernel
theorem zb_235_2 : zblk 235 2 = [.sipush 1, .ireturn] := by decide +kernel
theorem zb_235_3 : zblk 235 3 = [.sipush 2, .ireturn] := by decide +kernel
theorem zb_235_4 : zblk 235 4 = [.sipush 3, .ireturn] := by decide +kernel
theorem zb_235_5 : zblk 235 5 = [.sipush (-9), .ireturn] := by decide +kernel
theorem zb_236_0 : zblk 236 0 = [.sipush 0, .istore 3] := by decide +kernel
theorem zb_236_1 : zblk 236 1 = [.iload 3, .sipush 4, .if_icmp .ge 2, .aload 0, .getfield 830, .iload 3, .sipush (-9), .iastore, .iinc 3 1, .goto 1] := by decide +kernel
theorem zb_236_2 : zblk 236 2 = [.sipush 0, .istore 3, .sipush (-9), .istore 4, .sipush 0, .istore 5, .sipush 0, .istore 6] := by decide +kernel
theorem zb_236_3 : zblk 236 3 = [.iload 6, .iload 2, .if_icmp .ge 15, .aload 0, .getfield 785, .iload 1, .iload 6, .iadd, .iaload, .istore 7, .iload 4, .sipush (-9), .if_icmp .ne 6, .iload 7, .invokestatic 235, .istore 4, .iload 4, .sipush (-9), .if_icmp .eq 4, .aload 0, .getfield 830, .iload 4, .iaload, .sipush (-9), .if_icmp .eq 5] := by decide +kernel
theorem zb_236_4 : zblk 236 4 = [.iload 6, .ireturn] := by decide +kernel
theorem zb_236_5 : zblk 236 5 = [.sipush 0, .istore 5, .goto 14] := by decide +kernel
theorem zb_236_6 : zblk 236 6 = [.iload 7, .sipush 48, .sipush 57, .invokestatic 150, .ifCond .eq 11, .iload 5, .sipush 3, .if_icmp .eq 7, .iload 5, .ifCond .le 8, .aload 0, .getfield 830, .iload 4, .iaload, .ifCond .ne 8] := by decide +kernel
theorem zb_236_7 : zblk 236 7 = [.iload 6, .ireturn] := by decide +kernel
theorem zb_236_8 : zblk 236 8 = [.aload 0, .getfield 830, .iload 4, .iload 5, .ifCond .ne 9, .sipush 0, .goto 10] := by decide +kernel
theorem zb_236_9 : zblk 236 9 = [.sipush 10, .aload 0, .getfield 830, .iload 4, .iaload, .imul] := by decide +kernel
theorem zb_236_10 : zblk 236 10 = [.iload 7, .iadd, .sipush 48, .isub, .iastore, .iinc 5 1, .goto 14] := by decide +kernel
theorem zb_236_11 : zblk 236 11 = [.iload 7, .sipush 59, .if_icmp .ne 12, .iload 5, .ifCond .eq 12, .iload 3, .sipush 3, .if_icmp .ne 13] := by decide +kernel
theorem zb_236_12 : zblk 236 12 = [.iload 6, .ireturn] := by decide +kernel
theorem zb_236_13 : zblk 236 13 = [.iinc 3 1, .sipush (-9), .istore 4] := by decide +kernel
theorem zb_236_14 : zblk 236 14 = [.iinc 6 1, .goto 3] := by decide +kernel
theorem zb_236_15 : zblk 236 15 = [.iload 2, .ifCond .eq 16, .iload 4, .sipush (-9), .if_icmp .eq 17, .iload 5, .ifCond .le 17] := by decide +kernel
theorem zb_236_16 : zblk 236 16 = [.sipush 1, .goto 18] := by decide +kernel
theorem zb_236_17 : zblk 236 17 = [.sipush 0] := by decide +kernel
theorem zb_236_18 : zblk 236 18 = [.istore 6, .iload 6, .ifCond .eq 19, .sipush (-9), .goto 20] := by decide +kernel
theorem zb_236_19 : zblk 236 19 = [.iload 2] := by decide +kernel
theorem zb_236_20 : zblk 236 20 = [.ireturn] := by decide +kernel
theorem zb_237_0 : zblk 237 0 = [.sipush 0, .istore 1, .sipush 0, .istore 2] := by decide +kernel
theorem zb_237_1 : zblk 237 1 = [.iload 2, .sipush 4, .if_icmp .ge 4, .iload 1, .aload 0, .getfield 829, .iload 2, .iaload, .sipush (-9), .if_icmp .ne 2, .sipush 0, .goto 3] := by decide +kernel
theorem zb_237_2 : zblk 237 2 = [.sipush 1] := by decide +kernel
theorem zb_237_3 : zblk 237 3 = [.iadd, .istore 1, .iinc 2 1, .goto 1] := by decide +kernel
theorem zb_237_4 : zblk 237 4 = [.iload 1, .ireturn] := by decide +kernel
theorem zb_238_0 : zblk 238 0 = [.aload 0, .sipush 0, .putfield 768, .iload 1, .invokestatic 174, .ifCond .ne 1, .sipush (-1), .ireturn] := by decide +kernel
theorem zb_238_1 : zblk 238 1 = [.iload 2, .invokestatic 175, .ifCond .ne 2, .sipush (-2), .ireturn] := by decide +kernel
theorem zb_238_2 : zblk 238 2 = [.aload 0, .iload 1, .iload 2, .iload 3, .iload 4, .invokevirtual 173, .istore 5, .iload 5, .ifCond .eq 3, .iload 5, .ireturn] := by decide +kernel
theorem zb_238_3 : zblk 238 3 = [.aload 0, .sipush 60, .iload 1, .imul, .iload 3, .iadd, .iload 4, .invokevirtual 236, .istore 6, .iload 6, .sipush (-9), .if_icmp .eq 4, .sipush (-100), .iload 6, .isub, .ireturn] := by decide +kernel
theorem zb_238_4 : zblk 238 4 = [.sipush 0, .istore 7] := by decide +kernel
theorem zb_238_5 : zblk 238 5 = [.iload 7, .sipush 4, .if_icmp .ge 6, .aload 0, .getfield 829, .iload 7, .aload 0, .getfield 830, .iload 7, .iaload, .iastore, .iinc 7 1, .goto 5] := by decide +kernel
theorem zb_238_6 : zblk 238 6 = [.aload 0, .invokevirtual 237, .ireturn] := by decide +kernel
theorem zb_239_0 : zblk 239 0 = [.iload 1, .sipush 0, .sipush 3, .invokestatic 150, .ifCond .eq 1, .aload 0, .getfield 829, .iload 1, .iaload, .goto 2] := by decide +kernel
theorem zb_239_1 : zblk 239 1 = [.sipush (-1)] := by decide +kernel
theorem zb_239_2 : zblk 239 2 = [.ireturn] := by decide +kernel
theorem zb_240_0 : zblk 240 0 = [.aload 0, .sipush 0, .putfield 768, .iload 1, .invokestatic 174, .ifCond .ne 1, .sipush (-1), .ireturn] := by decide +kernel
theorem zb_240_1 : zblk 240 1 = [.iload 2, .invokestatic 175, .ifCond .eq 2, .iload 3, .sipush 60, .if_icmp .le 3] := by decide +kernel
theorem zb_240_2 : zblk 240 2 = [.sipush (-2), .ireturn] := by decide +kernel
theorem zb_240_3 : zblk 240 3 = [.iload 3, .ifCond .ge 4, .aload 0, .sipush 4, .invokevirtual 148, .ireturn] := by decide +kernel
theorem zb_240_4 : zblk 240 4 = [.aload 0, .getfield 783, .iload 1, .iload 2, .iastore, .aload 0, .getfield 784, .iload 1, .iload 3, .iastore, .sipush 0, .istore 4] := by decide +kernel
theorem zb_240_5 : zblk 240 5 = [.iload 4, .sipush 60, .if_icmp .ge 6, .aload 0, .getfield 785, .sipush 60, .iload 1, .imul, .iload 4, .iadd, .sipush 0, .iastore, .iinc 4 1, .goto 5] := by decide +kernel
theorem zb_240_6 : zblk 240 6 = [.sipush 1, .ireturn] := by decide +kernel
theorem zb_241_0 : zblk 241 0 = [.iload 1, .invokestatic 174, .ifCond .ne 1, .sipush (-1), .ireturn] := by decide +kernel
theorem zb_241_1 : zblk 241 1 = [.aload 0, .getfield 783, .iload 1, .iaload, .sipush (-9), .if_icmp .ne 2, .sipush 0, .goto 3] := by decide +kernel
theorem zb_241_2 : zblk 241 2 = [.sipush 1] := by decide +kernel
theorem zb_241_3 : zblk 241 3 = [.istore 2, .aload 0, .getfield 783, .iload 1, .sipush (-9), .iastore, .iload 2, .ireturn] := by decide +kernel
theorem zb_242_0 : zblk 242 0 = [.aload 0, .sipush 0, .putfield 768, .iload 1, .invokestatic 174, .ifCond .ne 1, .sipush (-1), .ireturn] := by decide +kernel
theorem zb_242_1 : zblk 242 1 = [.aload 0, .getfield 783, .iload 1, .iaload, .sipush (-9), .if_icmp .ne 2, .aload 0, .sipush 1, .invokevirtual 148, .ireturn] := by decide +kernel
theorem zb_242_2 : zblk 242 2 = [.iload 2, .sipush 0, .aload 0, .getfield 784, .iload 1, .iaload, .sipush 1, .isub, .invokestatic 150, .ifCond .ne 3, .aload 0, .sipush 3, .invokevirtual 148, .ireturn] := by decide +kernel
theorem zb_242_3 : zblk 242 3 = [.aload 0, .getfield 785, .sipush 60, .iload 1, .imul, .iload 2, .iadd, .aload 0, .getfield 783, .iload 1, .iaload, .ifCond .ne 4, .iload 3, .i2b, .goto 6] := by decide +kernel
theorem zb_242_4 : zblk 242 4 = [.aload 0, .getfield 783, .iload 1, .iaload, .sipush 1, .if_icmp .ne 5, .iload 3, .i2s, .goto 6] := by decide +kernel
theorem zb_242_5 : zblk 242 5 = [.iload 3] := by decide +kernel
theorem zb_242_6 : zblk 242 6 = [.iastore, .sipush 1, .ireturn] := by decide +kernel
theorem zb_243_0 : zblk 243 0 = [.aload 0, .sipush 0, .putfield 768, .iload 1, .invokestatic 174, .ifCond .eq 1, .iload 3, .invokestatic 175, .ifCond .ne 2] := by decide +kernel
theorem zb_243_1 : zblk 243 1 = [.ldc2_w 5, .lreturn] := by decide +kernel
theorem zb_243_2 : zblk 243 2 = [.aload 0, .getfield 783, .iload 1, .iaload, .sipush (-9), .if_icmp .eq 3, .aload 0, .getfield 783, .iload 1, .iaload, .iload 3, .if_icmp .eq 3, .aload 0, .sipush 2, .invokevirtual 149, .lreturn] := by decide +kernel
theorem zb_243_3 : zblk 243 3 = [.aload 0, .getfield 783, .iload 1, .iaload, .sipush (-9), .if_icmp .ne 4, .aload 0, .sipush 1, .invokevirtual 149, .lreturn] := by decide +kernel
theorem zb_243_4 : zblk 243 4 = [.iload 2, .sipush 0, .aload 0, .getfield 784, .iload 1, .iaload, .sipush 1, .isub, .invokestatic 150, .ifCond .ne 5, .aload 0, .sipush 3, .invokevirtual 149, .lreturn] := by decide +kernel
theorem zb_243_5 : zblk 243 5 = [.aload 0, .getfield 785, .sipush 60, .iload 1, .imul, .iload 2, .iadd, .iaload, .i2l, .lreturn] := by decide +kernel
theorem zb_244_0 : zblk 244 0 = [.aload 0, .sipush 31, .aload 0, .getfield 769, .imul, .iload 1, .iadd, .putfield 769, .return_] := by decide +kernel
theorem zb_245_0 : zblk 245 0 = [.aload 0, .iload 1, .invokevirtual 152, .ifCond .ne 1, .sipush (-1), .ireturn] := by decide +kernel
theorem zb_245_1 : zblk 245 1 = [.aload 0, .getfield 771, .iload 1, .iaload, .lookupswitch 4 #[(1, 2), (2, 3)]] := by decide +kernel
theorem zb_245_2 : zblk 245 2 = [.aload 0, .sipush 2, .invokevirtual 244, .aload 0, .sipush 1, .invokevirtual 244, .aload 0, .getfield 772, .iload 1, .iaload, .aload 0, .getfield 822, .iload 1, .iaload, .iadd, .ireturn] := by decide +kernel
theorem zb_245_3 : zblk 245 3 = [.aload 0, .sipush 3, .invokevirtual 244, .aload 0, .sipush 2, .invokevirtual 244, .aload 0, .sipush 1, .invokevirtual 244, .aload 0, .sipush 1, .invokevirtual 244, .sipush 2, .aload 0, .getfield 772, .iload 1, .iaload, .imul, .aload 0, .getfield 822, .iload 1, .iaload, .iadd, .ireturn] := by decide +kernel
theorem zb_245_4 : zblk 245 4 = [.aload 0, .sipush 1, .invokevirtual 244, .aload 0, .getfield 772, .iload 1, .iaload, .ireturn] := by decide +kernel
theorem zb_246_0 : zblk 246 0 = [.aload 0, .iload 1, .invokevirtual 152, .ifCond .ne 1, .sipush (-1), .ireturn] := by decide +kernel
theorem zb_246_1 : zblk 246 1 = [.aload 0, .aload 0, .getfield 771, .iload 1, .iaload, .sipush 2, .if_icmp .ne 2, .sipush 5, .goto 3] := by decide +kernel
theorem zb_246_2 : zblk 246 2 = [.sipush 4] := by decide +kernel
theorem zb_246_3 : zblk 246 3 = [.invokevirtual 244, .aload 0, .getfield 771, .iload 1, .iaload, .sipush 2, .if_icmp .ne 4, .sipush 70, .goto 5] := by decide +kernel
theorem zb_246_4 : zblk 246 4 = [.iload 1] := by decide +kernel
theorem zb_246_5 : zblk 246 5 = [.ireturn] := by decide +kernel
theorem zb_247_0 : zblk 247 0 = [.aload 0, .sipush 0, .putfield 768, .aload 0, .iload 1, .invokevirtual 152, .ifCond .ne 1, .sipush (-1), .ireturn] := by decide +kernel
theorem zb_247_1 : zblk 247 1 = [.iload 2, .sipush 0, .sipush 2, .invokestatic 150, .ifCond .ne 2, .sipush (-2), .ireturn] := by decide +kernel
theorem zb_247_2 : zblk 247 2 = [.aload 0, .getfield 771, .iload 1, .iaload, .iload 2, .if_icmp .lt 3, .sipush 1, .goto 4] := by decide +kernel
theorem zb_247_3 : zblk 247 3 = [.aload 0, .sipush 2, .invokevirtual 148] := by decide +kernel
theorem zb_247_4 : zblk 247 4 = [.ireturn] := by decide +kernel
theorem zb_248_0 : zblk 248 0 = [.aload 0, .getfield 769, .ireturn] := by decide +kernel
theorem zb_249_0 : zblk 249 0 = [.aload 0, .getfield 768, .ireturn] := by decide +kernel
theorem zb_250_0 : zblk 250 0 = [.iload 1, .lookupswitch 9 #[(0, 1), (1, 2), (2, 3), (3, 4), (4, 5), (5, 6), (6, 7), (7, 8)]] := by decide +kernel
theorem zb_250_1 : zblk 250 1 = [.aload 0, .getfield 770, .ireturn] := by decide +kernel
theorem zb_250_2 : zblk 250 2 = [.aload 0, .getfield 774, .ireturn] := by decide +kernel
theorem zb_250_3 : zblk 250 3 = [.aload 0, .getfield 787, .ireturn] := by decide +kernel
theorem zb_250_4 : zblk 250 4 = [.aload 0, .getfield 793, .ireturn] := by decide +kernel
theorem zb_250_5 : zblk 250 5 = [.aload 0, .getfield 804, .ireturn] := by decide +kernel
theorem zb_250_6 : zblk 250 6 = [.aload 0, .getfield 813, .ireturn] := by decide +kernel
theorem zb_250_7 : zblk 250 7 = [.aload 0, .getfield 824, .ireturn] := by decide +kernel
theorem zb_250_8 : zblk 250 8 = [.aload 0, .invokevirtual 237, .ireturn] := by decide +kernel
theorem zb_250_9 : zblk 250 9 = [.sipush (-2), .ireturn] := by decide +kernel
theorem zb_251_0 : zblk 251 0 = [.iload 0, .iload 0, .sipush 1, .iushr, .sipush 1431655765, .iand, .isub, .istore 0, .iload 0, .sipush 858993459, .iand, .iload 0, .sipush 2, .iushr, .sipush 858993459, .iand, .iadd, .istore 0, .iload 0, .iload 0, .sipush 4, .iushr, .iadd, .sipush 252645135, .iand, .istore 0, .iload 0, .iload 0, .sipush 8, .iushr, .iadd, .istore 0, .iload 0, .iload 0, .sipush 16, .iushr, .iadd, .istore 0, .iload 0, .sipush 63, .iand, .ireturn] := by decide +kernel
theorem zb_252_0 : zblk 252 0 = [.sipush 0, .istore 3, .aload 0, .arraylength, .istore 4] := by decide +kernel
theorem zb_252_1 : zblk 252 1 = [.iload 3, .iload 4, .if_icmp .ge 2, .aload 0, .iload 3, .lload 1, .lastore, .iinc 3 1, .goto 1] := by decide +kernel
theorem zb_252_2 : zblk 252 2 = [.return_] := by decide +kernel
theorem zb_253_0 : zblk 253 0 = [.sipush 0, .istore 2, .aload 0, .arraylength, .istore 3] := by decide +kernel
theorem zb_253_1 : zblk 253 1 = [.iload 2, .iload 3, .if_icmp .ge 2, .aload 0, .iload 2, .iload 1, .iastore, .iinc 2 1, .goto 1] := by decide +kernel
theorem zb_253_2 : zblk 253 2 = [.return_] := by decide +kernel
