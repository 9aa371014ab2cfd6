/-! the first state, and the words behind the constructors, place by place -/
def zi_r0 : Nat → Int32 := upd (upd (upd (upd (fun _ => 0) (0 : Int32).toNatClampNeg (-1)) (1 : Int32).toNatClampNeg (-1)) (2 : Int32).toNatClampNeg (-1)) (3 : Int32).toNatClampNeg (-1)
def zi_r1 : Nat → Int32 := upd (upd (upd (upd (fun _ => 0) (0 : Int32).toNatClampNeg (-9)) (1 : Int32).toNatClampNeg (-9)) (2 : Int32).toNatClampNeg (-9)) (3 : Int32).toNatClampNeg (-9)
def zi0 : zS := (fun c j => if c = 0 ∧ j = 4 then -9 else if c = 9 ∧ j = 4 then 1000000 else 0, fun a => if a = 13 then zi_r1 else if a = 14 then zi_r1 else if a = 65 then zi_r0 else fun _ => 0, fun _ _ => 0)
def zaw (a : Nat) (w : Nat → Nat → Nat) (z : Nat) (k : Nat) : Nat := ((w 0 0) :: (w 1 0) :: (w 2 0) :: (w 3 0) :: (w 4 0) :: (w 5 0) :: (w 6 0) :: (w 7 0) :: (w 8 0) :: (w 9 0) :: (w 10 0) :: (a) :: 0 :: (w 0 1) :: (w 0 2) :: (w 1 1) :: (w 1 2) :: (w 1 3) :: (w 1 4) :: (w 1 5) :: (w 2 1) :: (w 2 2) :: (w 2 2 + 1 + 0) :: (w 2 2 + 1 + 1) :: (w 2 2 + 1 + 2) :: (w 2 2 + 1 + 3) :: (w 2 2 + 1 + 4) :: (w 2 2 + 1 + 5) :: (w 2 2 + 1 + 6) :: (w 2 2 + 1 + 7) :: (w 2 2 + 1 + 8) :: (w 2 2 + 1 + 9) :: (w 2 3) :: (w 2 4) :: (w 2 5) :: (w 2 6) :: (w 2 7) :: (w 2 8) :: (w 2 9) :: (w 3 1) :: (w 3 2) :: (w 3 3) :: (w 3 4) :: (w 3 5) :: (w 4 1) :: (w 4 2) :: (w 4 3) :: (w 5 1) :: (w 5 2) :: (w 5 3) :: (w 6 1) :: (w 7 1) :: (w 7 2) :: (w 7 3) :: (w 7 4) :: (w 7 4 + 1 + 0) :: (w 7 4 + 1 + 1) :: (w 7 4 + 1 + 2) :: (w 7 4 + 1 + 3) :: (w 7 4 + 1 + 4) :: (w 7 4 + 1 + 5) :: (w 7 4 + 1 + 6) :: (w 7 4 + 1 + 7) :: (w 7 4 + 1 + 8) :: (w 7 4 + 1 + 9) :: (w 8 1) :: (w 8 2) :: (w 8 3) :: (w 8 3 + 1 + 0) :: (w 8 3 + 1 + 1) :: (w 8 3 + 1 + 2) :: (w 8 3 + 1 + 3) :: (w 8 4) :: (w 9 1) :: (w 9 2) :: (w 9 3) :: (w 9 4) :: (w 9 5) :: (w 10 1) :: (w 10 2) :: (w 10 3) :: (w 10 4) :: (w 10 5) :: (w 10 5 + 1 + 0) :: (w 10 5 + 1 + 1) :: (w 10 5 + 1 + 2) :: (w 10 5 + 1 + 3) :: (w 10 5 + 1 + 4) :: (w 10 5 + 1 + 5) :: (w 10 5 + 1 + 6) :: (w 10 5 + 1 + 7) :: (w 10 5 + 1 + 8) :: (w 10 5 + 1 + 9) :: 0 :: 0 :: 0 :: 0 :: 0 :: 0 :: 0 :: 0 :: 0 :: 0 :: 0 :: 0 :: 0 :: 0 :: 0 :: 0 :: 0 :: 0 :: 0 :: 0 :: 0 :: 0 :: 0 :: 0 :: 0 :: 0 :: 0 :: 0 :: 0 :: 0 :: 0 :: 0 :: 0 :: 0 :: 0 :: 0 :: 0 :: 0 :: 0 :: 0 :: 0 :: z :: [] : List Nat).getD k 0
def zSL (cy : Nat → ClassId) (a : Nat) (w : Nat → Nat → Nat) : va_W := (a, .inr (11, [.ref (w 10 0), .ref (w 7 0), .ref (w 3 0), .ref (w 4 0), .ref (w 1 0), .ref (w 9 0), .ref (w 8 0), .ref (w 6 0), .ref (w 0 0), .ref (w 2 0), .ref (w 5 0), .int 0, .int 0])) :: (w 10 0, .inr (10, [.ref (w 10 1), .ref (w 10 2), .ref (w 10 3), .ref (w 10 4), .ref (w 10 5), .int 0])) :: ((w 10 1), .inl (cy 0, 10, .inl (fun _ => 0))) :: ((w 10 2), .inl (cy 0, 10, .inl (fun _ => 0))) :: ((w 10 3), .inl (cy 0, 10, .inl (fun _ => 0))) :: ((w 10 4), .inl (cy 0, 10, .inl (fun _ => 0))) :: ((w 10 5), .inl (cy 3, 10, .inr (.inr (.inr (.inr (fun i => some ((w 10 5) + 1 + i))))))) :: ((w 10 5) + 1 + 0, .inl (cy 0, 20, .inl (fun _ => 0))) :: ((w 10 5) + 1 + 1, .inl (cy 0, 20, .inl (fun _ => 0))) :: ((w 10 5) + 1 + 2, .inl (cy 0, 20, .inl (fun _ => 0))) :: ((w 10 5) + 1 + 3, .inl (cy 0, 20, .inl (fun _ => 0))) :: ((w 10 5) + 1 + 4, .inl (cy 0, 20, .inl (fun _ => 0))) :: ((w 10 5) + 1 + 5, .inl (cy 0, 20, .inl (fun _ => 0))) :: ((w 10 5) + 1 + 6, .inl (cy 0, 20, .inl (fun _ => 0))) :: ((w 10 5) + 1 + 7, .inl (cy 0, 20, .inl (fun _ => 0))) :: ((w 10 5) + 1 + 8, .inl (cy 0, 20, .inl (fun _ => 0))) :: ((w 10 5) + 1 + 9, .inl (cy 0, 20, .inl (fun _ => 0))) :: (w 7 0, .inr (7, [.ref (w 7 1), .ref (w 7 2), .ref (w 7 3), .ref (w 7 4), .int 0])) :: ((w 7 1), .inl (cy 0, 10, .inl (fun _ => 0))) :: ((w 7 2), .inl (cy 0, 10, .inl (fun _ => 0))) :: ((w 7 3), .inl (cy 0, 10, .inl (fun _ => 0))) :: ((w 7 4), .inl (cy 3, 10, .inr (.inr (.inr (.inr (fun i => some ((w 7 4) + 1 + i))))))) :: ((w 7 4) + 1 + 0, .inl (cy 0, 10, .inl (fun _ => 0))) :: ((w 7 4) + 1 + 1, .inl (cy 0, 10, .inl (fun _ => 0))) :: ((w 7 4) + 1 + 2, .inl (cy 0, 10, .inl (fun _ => 0))) :: ((w 7 4) + 1 + 3, .inl (cy 0, 10, .inl (fun _ => 0))) :: ((w 7 4) + 1 + 4, .inl (cy 0, 10, .inl (fun _ => 0))) :: ((w 7 4) + 1 + 5, .inl (cy 0, 10, .inl (fun _ => 0))) :: ((w 7 4) + 1 + 6, .inl (cy 0, 10, .inl (fun _ => 0))) :: ((w 7 4) + 1 + 7, .inl (cy 0, 10, .inl (fun _ => 0))) :: ((w 7 4) + 1 + 8, .inl (cy 0, 10, .inl (fun _ => 0))) :: ((w 7 4) + 1 + 9, .inl (cy 0, 10, .inl (fun _ => 0))) :: (w 3 0, .inr (3, [.ref (w 3 1), .ref (w 3 2), .ref (w 3 3), .ref (w 3 4), .ref (w 3 5), .int 0])) :: ((w 3 1), .inl (cy 0, 40, .inl (fun _ => 0))) :: ((w 3 2), .inl (cy 0, 40, .inl (fun _ => 0))) :: ((w 3 3), .inl (cy 0, 40, .inl (fun _ => 0))) :: ((w 3 4), .inl (cy 0, 40, .inl (fun _ => 0))) :: ((w 3 5), .inl (cy 0, 40, .inl (fun _ => 0))) :: (w 4 0, .inr (4, [.ref (w 4 1), .ref (w 4 2), .ref (w 4 3), .int 0])) :: ((w 4 1), .inl (cy 0, 40, .inl (fun _ => 0))) :: ((w 4 2), .inl (cy 0, 40, .inl (fun _ => 0))) :: ((w 4 3), .inl (cy 0, 40, .inl (fun _ => 0))) :: (w 1 0, .inr (1, [.ref (w 1 1), .ref (w 1 2), .ref (w 1 3), .ref (w 1 4), .int 0, .ref (w 1 5), .int 0, .int 0, .int 0])) :: ((w 1 1), .inl (cy 0, 40, .inl (fun _ => 0))) :: ((w 1 2), .inl (cy 0, 40, .inl (fun _ => 0))) :: ((w 1 3), .inl (cy 0, 40, .inl (fun _ => 0))) :: ((w 1 4), .inl (cy 0, 40, .inl (fun _ => 0))) :: ((w 1 5), .inl (cy 0, 602, .inl (fun _ => 0))) :: (w 9 0, .inr (9, [.ref (w 9 1), .ref (w 9 2), .ref (w 9 3), .int 0, .int 1000000, .ref (w 9 4), .int 0, .int 0, .ref (w 9 5), .int 0, .int 0])) :: ((w 9 1), .inl (cy 0, 40, .inl (fun _ => 0))) :: ((w 9 2), .inl (cy 0, 40, .inl (fun _ => 0))) :: ((w 9 3), .inl (cy 0, 40, .inl (fun _ => 0))) :: ((w 9 4), .inl (cy 0, 1024, .inl (fun _ => 0))) :: ((w 9 5), .inl (cy 0, 2, .inl (fun _ => 0))) :: (w 8 0, .inr (8, [.ref (w 8 1), .ref (w 8 2), .ref (w 8 3), .ref (w 8 4)])) :: ((w 8 1), .inl (cy 0, 4, .inl (upd (upd (upd (upd (fun _ => 0) (0 : Int32).toNatClampNeg (-1)) (1 : Int32).toNatClampNeg (-1)) (2 : Int32).toNatClampNeg (-1)) (3 : Int32).toNatClampNeg (-1)))) :: ((w 8 2), .inl (cy 0, 4, .inl (fun _ => 0))) :: ((w 8 3), .inl (cy 3, 4, .inr (.inr (.inr (.inr (fun i => some ((w 8 3) + 1 + i))))))) :: ((w 8 3) + 1 + 0, .inl (cy 0, 60, .inl (fun _ => 0))) :: ((w 8 3) + 1 + 1, .inl (cy 0, 60, .inl (fun _ => 0))) :: ((w 8 3) + 1 + 2, .inl (cy 0, 60, .inl (fun _ => 0))) :: ((w 8 3) + 1 + 3, .inl (cy 0, 60, .inl (fun _ => 0))) :: ((w 8 4), .inl (cy 0, 60, .inl (fun _ => 0))) :: (w 6 0, .inr (6, [.ref (w 6 1), .int 0, .int 0, .int 0, .int 0, .int 0, .int 0])) :: ((w 6 1), .inl (cy 0, 60, .inl (fun _ => 0))) :: (w 0 0, .inr (0, [.ref (w 0 1), .int 0, .ref (w 0 2), .int 0, .int (-9), .int 0])) :: ((w 0 1), .inl (cy 0, 4, .inl (upd (upd (upd (upd (fun _ => 0) (0 : Int32).toNatClampNeg (-9)) (1 : Int32).toNatClampNeg (-9)) (2 : Int32).toNatClampNeg (-9)) (3 : Int32).toNatClampNeg (-9)))) :: ((w 0 2), .inl (cy 0, 4, .inl (upd (upd (upd (upd (fun _ => 0) (0 : Int32).toNatClampNeg (-9)) (1 : Int32).toNatClampNeg (-9)) (2 : Int32).toNatClampNeg (-9)) (3 : Int32).toNatClampNeg (-9)))) :: (w 2 0, .inr (2, [.int 0, .int 0, .ref (w 2 1), .ref (w 2 2), .ref (w 2 3), .ref (w 2 4), .ref (w 2 5), .ref (w 2 6), .ref (w 2 7), .ref (w 2 8), .ref (w 2 9)])) :: ((w 2 1), .inl (cy 0, 10, .inl (fun _ => 0))) :: ((w 2 2), .inl (cy 3, 10, .inr (.inr (.inr (.inr (fun i => some ((w 2 2) + 1 + i))))))) :: ((w 2 2) + 1 + 0, .inl (cy 0, 10, .inl (fun _ => 0))) :: ((w 2 2) + 1 + 1, .inl (cy 0, 10, .inl (fun _ => 0))) :: ((w 2 2) + 1 + 2, .inl (cy 0, 10, .inl (fun _ => 0))) :: ((w 2 2) + 1 + 3, .inl (cy 0, 10, .inl (fun _ => 0))) :: ((w 2 2) + 1 + 4, .inl (cy 0, 10, .inl (fun _ => 0))) :: ((w 2 2) + 1 + 5, .inl (cy 0, 10, .inl (fun _ => 0))) :: ((w 2 2) + 1 + 6, .inl (cy 0, 10, .inl (fun _ => 0))) :: ((w 2 2) + 1 + 7, .inl (cy 0, 10, .inl (fun _ => 0))) :: ((w 2 2) + 1 + 8, .inl (cy 0, 10, .inl (fun _ => 0))) :: ((w 2 2) + 1 + 9, .inl (cy 0, 10, .inl (fun _ => 0))) :: ((w 2 3), .inl (cy 0, 10, .inl (fun _ => 0))) :: ((w 2 4), .inl (cy 0, 10, .inl (fun _ => 0))) :: ((w 2 5), .inl (cy 0, 21, .inl (fun _ => 0))) :: ((w 2 6), .inl (cy 0, 21, .inl (fun _ => 0))) :: ((w 2 7), .inl (cy 2, 21, .inr (.inl (fun _ => 0)))) :: ((w 2 8), .inl (cy 2, 21, .inr (.inl (fun _ => 0)))) :: ((w 2 9), .inl (cy 2, 11, .inr (.inl (fun _ => 0)))) :: (w 5 0, .inr (5, [.ref (w 5 1), .ref (w 5 2), .int 0, .ref (w 5 3), .int 0])) :: ((w 5 1), .inl (cy 0, 10, .inl (fun _ => 0))) :: ((w 5 2), .inl (cy 0, 10, .inl (fun _ => 0))) :: ((w 5 3), .inl (cy 0, 10, .inl (fun _ => 0))) :: []
theorem zSS_eq {cy : Nat → ClassId} {a : Nat} {w : Nat → Nat → Nat} : iW11 cy a w = zSL cy a w := by
  unfold iW11 iW10 iW7 iW3 iW4 iW1 iW9 iW8 iW6 iW0 iW2 iW5
  simp only [List.cons_append, List.nil_append]
  rfl
def zpl : List Nat := [65, 42, 68, 32, 38, 88, 63, 17, 54, 48, 1, 0, 66, 67, 43, 44, 45, 46, 47, 69, 70, 71, 72, 73, 74, 75, 76, 77, 78, 79, 80, 81, 82, 83, 84, 85, 86, 87, 33, 34, 35, 36, 37, 39, 40, 41, 89, 90, 91, 64, 18, 19, 20, 21, 22, 23, 24, 25, 26, 27, 28, 29, 30, 31, 55, 56, 57, 58, 59, 60, 61, 62, 49, 50, 51, 52, 53, 2, 3, 4, 5, 6, 7, 8, 9, 10, 11, 12, 13, 14, 15, 16]
theorem zpl_nd : zpl.Nodup := by decide +kernel
def zsP (D : va_G) (cy : Nat → ClassId) (a : Nat) (w : Nat → Nat → Nat) (z j k : Nat) : Prop := ∃ i e, zpl[j]? = some i ∧ (zSL cy a w)[i]? = some (zaw a w z k, e) ∧ ∀ H : Heap, va_at D vwCl (zaw a w z k, e) H → va_at D vwCl (zaw a w z k, ze (zaw a w z) cy zi0 k) H
theorem zs_arr {c : ClassId} {n : Nat} {f g : Nat → Option Nat} (h : ∀ i, i < n → f i = g i) : arrV c n (fun j => va_rf (f j)) = arrV c n (fun j => va_rf (g j)) := by
  unfold arrV
  congr 1
  apply Array.ext
  · simp
  · intro i h1 h2
    simp at h1
    simp [h i h1]
theorem zs_s {P : Nat → Prop} {n : Nat} (h : ∀ k, k < n → P k) (p : P n) : ∀ k, k < n + 1 → P k := fun k hk => by
  by_cases e : k = n
  · rw [e]
    exact p
  · exact h k (by omega)
section ZSP
variable {D : va_G} {cy : Nat → ClassId} {a : Nat} {w : Nat → Nat → Nat} {z : Nat}
set_option maxRecDepth 100000 in
theorem zs_0 : zsP D cy a w z 0 0 := ⟨65, _, rfl, rfl, fun _ h => h⟩
set_option maxRecDepth 100000 in
theorem zs_1 : zsP D cy a w z 1 1 := ⟨42, _, rfl, rfl, fun _ h => h⟩
set_option maxRecDepth 100000 in
theorem zs_2 : zsP D cy a w z 2 2 := ⟨68, _, rfl, rfl, fun _ h => h⟩
set_option maxRecDepth 100000 in
theorem zs_3 : zsP D cy a w z 3 3 := ⟨32, _, rfl, rfl, fun _ h => h⟩
set_option maxRecDepth 100000 in
theorem zs_4 : zsP D cy a w z 4 4 := ⟨38, _, rfl, rfl, fun _ h => h⟩
set_option maxRecDepth 100000 in
theorem zs_5 : zsP D cy a w z 5 5 := ⟨88, _, rfl, rfl, fun _ h => h⟩
set_option maxRecDepth 100000 in
theorem zs_6 : zsP D cy a w z 6 6 := ⟨63, _, rfl, rfl, fun _ h => h⟩
set_option maxRecDepth 100000 in
theorem zs_7 : zsP D cy a w z 7 7 := ⟨17, _, rfl, rfl, fun _ h => h⟩
set_option maxRecDepth 100000 in
theorem zs_8 : zsP D cy a w z 8 8 := ⟨54, _, rfl, rfl, fun _ h => h⟩
set_option maxRecDepth 100000 in
theorem zs_9 : zsP D cy a w z 9 9 := ⟨48, _, rfl, rfl, fun _ h => h⟩
set_option maxRecDepth 100000 in
theorem zs_10 : zsP D cy a w z 10 10 := ⟨1, _, rfl, rfl, fun _ h => h⟩
set_option maxRecDepth 100000 in
theorem zs_11 : zsP D cy a w z 11 11 := ⟨0, _, rfl, rfl, fun _ h => h⟩
theorem zs_12 : zsP D cy a w z 12 13 := ⟨66, _, rfl, rfl, fun _ h => h⟩
theorem zs_13 : zsP D cy a w z 13 14 := ⟨67, _, rfl, rfl, fun _ h => h⟩
theorem zs_14 : zsP D cy a w z 14 15 := ⟨43, _, rfl, rfl, fun _ h => h⟩
theorem zs_15 : zsP D cy a w z 15 16 := ⟨44, _, rfl, rfl, fun _ h => h⟩
theorem zs_16 : zsP D cy a w z 16 17 := ⟨45, _, rfl, rfl, fun _ h => h⟩
theorem zs_17 : zsP D cy a w z 17 18 := ⟨46, _, rfl, rfl, fun _ h => h⟩
theorem zs_18 : zsP D cy a w z 18 19 := ⟨47, _, rfl, rfl, fun _ h => h⟩
theorem zs_19 : zsP D cy a w z 19 20 := ⟨69, _, rfl, rfl, fun _ h => h⟩
theorem zs_20 : zsP D cy a w z 20 21 := ⟨70, _, rfl, rfl, fun H h => by
  have h1 : H[zaw a w z 21]? = some (vp_cell (cy 3) (10, .inr (.inr (.inr (.inr (fun i => some (zaw a w z 21 + 1 + i))))))) := h
  show H[zaw a w z 21]? = some (vp_cell (cy 3) (10, .inr (.inr (.inr (.inr (fun i => if i < 10 then some (zaw a w z (22 + i)) else none))))))
  rw [h1, vp_cell_q, vp_cell_q]
  refine congrArg some (zs_arr (fun i hi => ?_))
  rcases (show i = 0 ∨ i = 1 ∨ i = 2 ∨ i = 3 ∨ i = 4 ∨ i = 5 ∨ i = 6 ∨ i = 7 ∨ i = 8 ∨ i = 9 by omega) with rfl | rfl | rfl | rfl | rfl | rfl | rfl | rfl | rfl | rfl <;> rfl⟩
theorem zs_21 : zsP D cy a w z 21 22 := ⟨71, _, rfl, rfl, fun _ h => h⟩
theorem zs_22 : zsP D cy a w z 22 23 := ⟨72, _, rfl, rfl, fun _ h => h⟩
theorem zs_23 : zsP D cy a w z 23 24 := ⟨73, _, rfl, rfl, fun _ h => h⟩
theorem zs_24 : zsP D cy a w z 24 25 := ⟨74, _, rfl, rfl, fun _ h => h⟩
theorem zs_25 : zsP D cy a w z 25 26 := ⟨75, _, rfl, rfl, fun _ h => h⟩
theorem zs_26 : zsP D cy a w z 26 27 := ⟨76, _, rfl, rfl, fun _ h => h⟩
theorem zs_27 : zsP D cy a w z 27 28 := ⟨77, _, rfl, rfl, fun _ h => h⟩
theorem zs_28 : zsP D cy a w z 28 29 := ⟨78, _, rfl, rfl, fun _ h => h⟩
theorem zs_29 : zsP D cy a w z 29 30 := ⟨79, _, rfl, rfl, fun _ h => h⟩
theorem zs_30 : zsP D cy a w z 30 31 := ⟨80, _, rfl, rfl, fun _ h => h⟩
theorem zs_31 : zsP D cy a w z 31 32 := ⟨81, _, rfl, rfl, fun _ h => h⟩
theorem zs_32 : zsP D cy a w z 32 33 := ⟨82, _, rfl, rfl, fun _ h => h⟩
theorem zs_33 : zsP D cy a w z 33 34 := ⟨83, _, rfl, rfl, fun _ h => h⟩
theorem zs_34 : zsP D cy a w z 34 35 := ⟨84, _, rfl, rfl, fun _ h => h⟩
theorem zs_35 : zsP D cy a w z 35 36 := ⟨85, _, rfl, rfl, fun _ h => h⟩
theorem zs_36 : zsP D cy a w z 36 37 := ⟨86, _, rfl, rfl, fun _ h => h⟩
theorem zs_37 : zsP D cy a w z 37 38 := ⟨87, _, rfl, rfl, fun _ h => h⟩
theorem zs_38 : zsP D cy a w z 38 39 := ⟨33, _, rfl, rfl, fun _ h => h⟩
theorem zs_39 : zsP D cy a w z 39 40 := ⟨34, _, rfl, rfl, fun _ h => h⟩
theorem zs_40 : zsP D cy a w z 40 41 := ⟨35, _, rfl, rfl, fun _ h => h⟩
theorem zs_41 : zsP D cy a w z 41 42 := ⟨36, _, rfl, rfl, fun _ h => h⟩
theorem zs_42 : zsP D cy a w z 42 43 := ⟨37, _, rfl, rfl, fun _ h => h⟩
theorem zs_43 : zsP D cy a w z 43 44 := ⟨39, _, rfl, rfl, fun _ h => h⟩
theorem zs_44 : zsP D cy a w z 44 45 := ⟨40, _, rfl, rfl, fun _ h => h⟩
theorem zs_45 : zsP D cy a w z 45 46 := ⟨41, _, rfl, rfl, fun _ h => h⟩
theorem zs_46 : zsP D cy a w z 46 47 := ⟨89, _, rfl, rfl, fun _ h => h⟩
theorem zs_47 : zsP D cy a w z 47 48 := ⟨90, _, rfl, rfl, fun _ h => h⟩
theorem zs_48 : zsP D cy a w z 48 49 := ⟨91, _, rfl, rfl, fun _ h => h⟩
theorem zs_49 : zsP D cy a w z 49 50 := ⟨64, _, rfl, rfl, fun _ h => h⟩
theorem zs_50 : zsP D cy a w z 50 51 := ⟨18, _, rfl, rfl, fun _ h => h⟩
theorem zs_51 : zsP D cy a w z 51 52 := ⟨19, _, rfl, rfl, fun _ h => h⟩
theorem zs_52 : zsP D cy a w z 52 53 := ⟨20, _, rfl, rfl, fun _ h => h⟩
theorem zs_53 : zsP D cy a w z 53 54 := ⟨21, _, rfl, rfl, fun H h => by
  have h1 : H[zaw a w z 54]? = some (vp_cell (cy 3) (10, .inr (.inr (.inr (.inr (fun i => some (zaw a w z 54 + 1 + i))))))) := h
  show H[zaw a w z 54]? = some (vp_cell (cy 3) (10, .inr (.inr (.inr (.inr (fun i => if i < 10 then some (zaw a w z (55 + i)) else none))))))
  rw [h1, vp_cell_q, vp_cell_q]
  refine congrArg some (zs_arr (fun i hi => ?_))
  rcases (show i = 0 ∨ i = 1 ∨ i = 2 ∨ i = 3 ∨ i = 4 ∨ i = 5 ∨ i = 6 ∨ i = 7 ∨ i = 8 ∨ i = 9 by omega) with rfl | rfl | rfl | rfl | rfl | rfl | rfl | rfl | rfl | rfl <;> rfl⟩
theorem zs_54 : zsP D cy a w z 54 55 := ⟨22, _, rfl, rfl, fun _ h => h⟩
theorem zs_55 : zsP D cy a w z 55 56 := ⟨23, _, rfl, rfl, fun _ h => h⟩
theorem zs_56 : zsP D cy a w z 56 57 := ⟨24, _, rfl, rfl, fun _ h => h⟩
theorem zs_57 : zsP D cy a w z 57 58 := ⟨25, _, rfl, rfl, fun _ h => h⟩
theorem zs_58 : zsP D cy a w z 58 59 := ⟨26, _, rfl, rfl, fun _ h => h⟩
theorem zs_59 : zsP D cy a w z 59 60 := ⟨27, _, rfl, rfl, fun _ h => h⟩
theorem zs_60 : zsP D cy a w z 60 61 := ⟨28, _, rfl, rfl, fun _ h => h⟩
theorem zs_61 : zsP D cy a w z 61 62 := ⟨29, _, rfl, rfl, fun _ h => h⟩
theorem zs_62 : zsP D cy a w z 62 63 := ⟨30, _, rfl, rfl, fun _ h => h⟩
theorem zs_63 : zsP D cy a w z 63 64 := ⟨31, _, rfl, rfl, fun _ h => h⟩
theorem zs_64 : zsP D cy a w z 64 65 := ⟨55, _, rfl, rfl, fun _ h => h⟩
theorem zs_65 : zsP D cy a w z 65 66 := ⟨56, _, rfl, rfl, fun _ h => h⟩
theorem zs_66 : zsP D cy a w z 66 67 := ⟨57, _, rfl, rfl, fun H h => by
  have h1 : H[zaw a w z 67]? = some (vp_cell (cy 3) (4, .inr (.inr (.inr (.inr (fun i => some (zaw a w z 67 + 1 + i))))))) := h
  show H[zaw a w z 67]? = some (vp_cell (cy 3) (4, .inr (.inr (.inr (.inr (fun i => if i < 4 then some (zaw a w z (68 + i)) else none))))))
  rw [h1, vp_cell_q, vp_cell_q]
  refine congrArg some (zs_arr (fun i hi => ?_))
  rcases (show i = 0 ∨ i = 1 ∨ i = 2 ∨ i = 3 by omega) with rfl | rfl | rfl | rfl <;> rfl⟩
theorem zs_67 : zsP D cy a w z 67 68 := ⟨58, _, rfl, rfl, fun _ h => h⟩
theorem zs_68 : zsP D cy a w z 68 69 := ⟨59, _, rfl, rfl, fun _ h => h⟩
theorem zs_69 : zsP D cy a w z 69 70 := ⟨60, _, rfl, rfl, fun _ h => h⟩
theorem zs_70 : zsP D cy a w z 70 71 := ⟨61, _, rfl, rfl, fun _ h => h⟩
theorem zs_71 : zsP D cy a w z 71 72 := ⟨62, _, rfl, rfl, fun _ h => h⟩
theorem zs_72 : zsP D cy a w z 72 73 := ⟨49, _, rfl, rfl, fun _ h => h⟩
theorem zs_73 : zsP D cy a w z 73 74 := ⟨50, _, rfl, rfl, fun _ h => h⟩
theorem zs_74 : zsP D cy a w z 74 75 := ⟨51, _, rfl, rfl, fun _ h => h⟩
theorem zs_75 : zsP D cy a w z 75 76 := ⟨52, _, rfl, rfl, fun _ h => h⟩
theorem zs_76 : zsP D cy a w z 76 77 := ⟨53, _, rfl, rfl, fun _ h => h⟩
theorem zs_77 : zsP D cy a w z 77 78 := ⟨2, _, rfl, rfl, fun _ h => h⟩
theorem zs_78 : zsP D cy a w z 78 79 := ⟨3, _, rfl, rfl, fun _ h => h⟩
theorem zs_79 : zsP D cy a w z 79 80 := ⟨4, _, rfl, rfl, fun _ h => h⟩
theorem zs_80 : zsP D cy a w z 80 81 := ⟨5, _, rfl, rfl, fun _ h => h⟩
theorem zs_81 : zsP D cy a w z 81 82 := ⟨6, _, rfl, rfl, fun H h => by
  have h1 : H[zaw a w z 82]? = some (vp_cell (cy 3) (10, .inr (.inr (.inr (.inr (fun i => some (zaw a w z 82 + 1 + i))))))) := h
  show H[zaw a w z 82]? = some (vp_cell (cy 3) (10, .inr (.inr (.inr (.inr (fun i => if i < 10 then some (zaw a w z (83 + i)) else none))))))
  rw [h1, vp_cell_q, vp_cell_q]
  refine congrArg some (zs_arr (fun i hi => ?_))
  rcases (show i = 0 ∨ i = 1 ∨ i = 2 ∨ i = 3 ∨ i = 4 ∨ i = 5 ∨ i = 6 ∨ i = 7 ∨ i = 8 ∨ i = 9 by omega) with rfl | rfl | rfl | rfl | rfl | rfl | rfl | rfl | rfl | rfl <;> rfl⟩
theorem zs_82 : zsP D cy a w z 82 83 := ⟨7, _, rfl, rfl, fun _ h => h⟩
theorem zs_83 : zsP D cy a w z 83 84 := ⟨8, _, rfl, rfl, fun _ h => h⟩
theorem zs_84 : zsP D cy a w z 84 85 := ⟨9, _, rfl, rfl, fun _ h => h⟩
theorem zs_85 : zsP D cy a w z 85 86 := ⟨10, _, rfl, rfl, fun _ h => h⟩
theorem zs_86 : zsP D cy a w z 86 87 := ⟨11, _, rfl, rfl, fun _ h => h⟩
theorem zs_87 : zsP D cy a w z 87 88 := ⟨12, _, rfl, rfl, fun _ h => h⟩
theorem zs_88 : zsP D cy a w z 88 89 := ⟨13, _, rfl, rfl, fun _ h => h⟩
theorem zs_89 : zsP D cy a w z 89 90 := ⟨14, _, rfl, rfl, fun _ h => h⟩
theorem zs_90 : zsP D cy a w z 90 91 := ⟨15, _, rfl, rfl, fun _ h => h⟩
theorem zs_91 : zsP D cy a w z 91 92 := ⟨16, _, rfl, rfl, fun _ h => h⟩
theorem zs_all0 : ∀ j, j < 23 → zsP D cy a w z j (zun j) := (zs_s (P := fun j => zsP D cy a w z j (zun j)) (zs_s (P := fun j => zsP D cy a w z j (zun j)) (zs_s (P := fun j => zsP D cy a w z j (zun j)) (zs_s (P := fun j => zsP D cy a w z j (zun j)) (zs_s (P := fun j => zsP D cy a w z j (zun j)) (zs_s (P := fun j => zsP D cy a w z j (zun j)) (zs_s (P := fun j => zsP D cy a w z j (zun j)) (zs_s (P := fun j => zsP D cy a w z j (zun j)) (zs_s (P := fun j => zsP D cy a w z j (zun j)) (zs_s (P := fun j => zsP D cy a w z j (zun j)) (zs_s (P := fun j => zsP D cy a w z j (zun j)) (zs_s (P := fun j => zsP D cy a w z j (zun j)) (zs_s (P := fun j => zsP D cy a w z j (zun j)) (zs_s (P := fun j => zsP D cy a w z j (zun j)) (zs_s (P := fun j => zsP D cy a w z j (zun j)) (zs_s (P := fun j => zsP D cy a w z j (zun j)) (zs_s (P := fun j => zsP D cy a w z j (zun j)) (zs_s (P := fun j => zsP D cy a w z j (zun j)) (zs_s (P := fun j => zsP D cy a w z j (zun j)) (zs_s (P := fun j => zsP D cy a w z j (zun j)) (zs_s (P := fun j => zsP D cy a w z j (zun j)) (zs_s (P := fun j => zsP D cy a w z j (zun j)) (zs_s (P := fun j => zsP D cy a w z j (zun j)) (fun k hk => absurd hk (Nat.not_lt_zero _)) zs_0) zs_1) zs_2) zs_3) zs_4) zs_5) zs_6) zs_7) zs_8) zs_9) zs_10) zs_11) zs_12) zs_13) zs_14) zs_15) zs_16) zs_17) zs_18) zs_19) zs_20) zs_21) zs_22)
theorem zs_all23 : ∀ j, j < 46 → zsP D cy a w z j (zun j) := (zs_s (P := fun j => zsP D cy a w z j (zun j)) (zs_s (P := fun j => zsP D cy a w z j (zun j)) (zs_s (P := fun j => zsP D cy a w z j (zun j)) (zs_s (P := fun j => zsP D cy a w z j (zun j)) (zs_s (P := fun j => zsP D cy a w z j (zun j)) (zs_s (P := fun j => zsP D cy a w z j (zun j)) (zs_s (P := fun j => zsP D cy a w z j (zun j)) (zs_s (P := fun j => zsP D cy a w z j (zun j)) (zs_s (P := fun j => zsP D cy a w z j (zun j)) (zs_s (P := fun j => zsP D cy a w z j (zun j)) (zs_s (P := fun j => zsP D cy a w z j (zun j)) (zs_s (P := fun j => zsP D cy a w z j (zun j)) (zs_s (P := fun j => zsP D cy a w z j (zun j)) (zs_s (P := fun j => zsP D cy a w z j (zun j)) (zs_s (P := fun j => zsP D cy a w z j (zun j)) (zs_s (P := fun j => zsP D cy a w z j (zun j)) (zs_s (P := fun j => zsP D cy a w z j (zun j)) (zs_s (P := fun j => zsP D cy a w z j (zun j)) (zs_s (P := fun j => zsP D cy a w z j (zun j)) (zs_s (P := fun j => zsP D cy a w z j (zun j)) (zs_s (P := fun j => zsP D cy a w z j (zun j)) (zs_s (P := fun j => zsP D cy a w z j (zun j)) (zs_s (P := fun j => zsP D cy a w z j (zun j)) zs_all0 zs_23) zs_24) zs_25) zs_26) zs_27) zs_28) zs_29) zs_30) zs_31) zs_32) zs_33) zs_34) zs_35) zs_36) zs_37) zs_38) zs_39) zs_40) zs_41) zs_42) zs_43) zs_44) zs_45)
theorem zs_all46 : ∀ j, j < 69 → zsP D cy a w z j (zun j) := (zs_s (P := fun j => zsP D cy a w z j (zun j)) (zs_s (P := fun j => zsP D cy a w z j (zun j)) (zs_s (P := fun j => zsP D cy a w z j (zun j)) (zs_s (P := fun j => zsP D cy a w z j (zun j)) (zs_s (P := fun j => zsP D cy a w z j (zun j)) (zs_s (P := fun j => zsP D cy a w z j (zun j)) (zs_s (P := fun j => zsP D cy a w z j (zun j)) (zs_s (P := fun j => zsP D cy a w z j (zun j)) (zs_s (P := fun j => zsP D cy a w z j (zun j)) (zs_s (P := fun j => zsP D cy a w z j (zun j)) (zs_s (P := fun j => zsP D cy a w z j (zun j)) (zs_s (P := fun j => zsP D cy a w z j (zun j)) (zs_s (P := fun j => zsP D cy a w z j (zun j)) (zs_s (P := fun j => zsP D cy a w z j (zun j)) (zs_s (P := fun j => zsP D cy a w z j (zun j)) (zs_s (P := fun j => zsP D cy a w z j (zun j)) (zs_s (P := fun j => zsP D cy a w z j (zun j)) (zs_s (P := fun j => zsP D cy a w z j (zun j)) (zs_s (P := fun j => zsP D cy a w z j (zun j)) (zs_s (P := fun j => zsP D cy a w z j (zun j)) (zs_s (P := fun j => zsP D cy a w z j (zun j)) (zs_s (P := fun j => zsP D cy a w z j (zun j)) (zs_s (P := fun j => zsP D cy a w z j (zun j)) zs_all23 zs_46) zs_47) zs_48) zs_49) zs_50) zs_51) zs_52) zs_53) zs_54) zs_55) zs_56) zs_57) zs_58) zs_59) zs_60) zs_61) zs_62) zs_63) zs_64) zs_65) zs_66) zs_67) zs_68)
theorem zs_all69 : ∀ j, j < 92 → zsP D cy a w z j (zun j) := (zs_s (P := fun j => zsP D cy a w z j (zun j)) (zs_s (P := fun j => zsP D cy a w z j (zun j)) (zs_s (P := fun j => zsP D cy a w z j (zun j)) (zs_s (P := fun j => zsP D cy a w z j (zun j)) (zs_s (P := fun j => zsP D cy a w z j (zun j)) (zs_s (P := fun j => zsP D cy a w z j (zun j)) (zs_s (P := fun j => zsP D cy a w z j (zun j)) (zs_s (P := fun j => zsP D cy a w z j (zun j)) (zs_s (P := fun j => zsP D cy a w z j (zun j)) (zs_s (P := fun j => zsP D cy a w z j (zun j)) (zs_s (P := fun j => zsP D cy a w z j (zun j)) (zs_s (P := fun j => zsP D cy a w z j (zun j)) (zs_s (P := fun j => zsP D cy a w z j (zun j)) (zs_s (P := fun j => zsP D cy a w z j (zun j)) (zs_s (P := fun j => zsP D cy a w z j (zun j)) (zs_s (P := fun j => zsP D cy a w z j (zun j)) (zs_s (P := fun j => zsP D cy a w z j (zun j)) (zs_s (P := fun j => zsP D cy a w z j (zun j)) (zs_s (P := fun j => zsP D cy a w z j (zun j)) (zs_s (P := fun j => zsP D cy a w z j (zun j)) (zs_s (P := fun j => zsP D cy a w z j (zun j)) (zs_s (P := fun j => zsP D cy a w z j (zun j)) (zs_s (P := fun j => zsP D cy a w z j (zun j)) zs_all46 zs_69) zs_70) zs_71) zs_72) zs_73) zs_74) zs_75) zs_76) zs_77) zs_78) zs_79) zs_80) zs_81) zs_82) zs_83) zs_84) zs_85) zs_86) zs_87) zs_88) zs_89) zs_90) zs_91)
end ZSP
theorem zw_of {D : va_G} {cy : Nat → ClassId} {a : Nat} {w : Nat → Nat → Nat} {z : Nat} {A : Nat → Prop} {H : Heap} (hP : va_P D vwCl (iW11 cy a w) H) (hD : va_D A (iW11 cy a w)) : va_P D vwCl (zw 0 (zaw a w z) cy zi0) H ∧ va_D A (zw 0 (zaw a w z) cy zi0) := by
  rw [zSS_eq] at hP hD
  have hs := zs_all69 (D := D) (cy := cy) (a := a) (w := w) (z := z)
  have lt : ∀ {k : Nat} {q : Nat × va_E}, (zw 0 (zaw a w z) cy zi0)[k]? = some q → k < 92 ∧ q = (zaw a w z (zun k), ze (zaw a w z) cy zi0 (zun k)) := fun {k q} hq => by
    have hk : k < 92 + 0 := by
      have := (List.getElem?_eq_some_iff.mp hq).1
      rwa [zw_len] at this
    rw [zw_atu hk] at hq
    exact ⟨hk, (Option.some.inj hq).symm⟩
  refine ⟨fun k q hq => ?_, fun i j p q hi hj hpq => ?_, fun k q hq => ?_⟩
  · obtain ⟨hk, rfl⟩ := lt hq
    obtain ⟨i, e, h1, h2, h3⟩ := hs k hk
    exact h3 H (hP i _ h2)
  · obtain ⟨hi2, rfl⟩ := lt hi
    obtain ⟨hj2, rfl⟩ := lt hj
    obtain ⟨i', e1, h1, h2, -⟩ := hs i hi2
    obtain ⟨j', e2, g1, g2, -⟩ := hs j hj2
    have e : i' = j' := hD.1 i' j' _ _ h2 g2 hpq
    rw [e] at h1
    exact (List.getElem?_inj (List.getElem?_eq_some_iff.mp h1).1 zpl_nd).mp (h1.trans g1.symm)
  · obtain ⟨hk, rfl⟩ := lt hq
    obtain ⟨i, e, h1, h2, -⟩ := hs k hk
    exact hD.2 i (zaw a w z (zun k), e) h2
theorem zi0_J1 : J1 zi0 0 := by
  refine ⟨rfl, fun v hv => absurd hv (Nat.not_lt_zero v), rfl, rfl, fun p hp => ⟨?_, ?_, fun v hv => ?_⟩, rfl, rfl, ?_, fun v hv => ⟨0, Nat.zero_le _, ?_⟩⟩
  · rfl
  · rfl
  · rcases (show p = 0 ∨ p = 1 ∨ p = 2 ∨ p = 3 ∨ p = 4 ∨ p = 5 ∨ p = 6 ∨ p = 7 ∨ p = 8 ∨ p = 9 by omega) with rfl | rfl | rfl | rfl | rfl | rfl | rfl | rfl | rfl | rfl <;> rfl
  · rfl
  · rfl
