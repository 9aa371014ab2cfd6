/-! the words behind the constructors, place by place -/
def zad (a b : Nat) (w : Nat → Nat → Nat) (u : Nat → Nat) (y z : Nat) (k : Nat) : Nat := ((w 0 0) :: (w 1 0) :: (w 2 0) :: (w 3 0) :: (w 4 0) :: (w 5 0) :: (w 6 0) :: (w 7 0) :: (w 8 0) :: (w 9 0) :: (w 10 0) :: (a) :: (b) :: (w 0 1) :: (w 0 2) :: (w 1 1) :: (w 1 2) :: (w 1 3) :: (w 1 4) :: (w 1 5) :: (w 2 1) :: (w 2 2) :: (w 2 2 + 1 + 0) :: (w 2 2 + 1 + 1) :: (w 2 2 + 1 + 2) :: (w 2 2 + 1 + 3) :: (w 2 2 + 1 + 4) :: (w 2 2 + 1 + 5) :: (w 2 2 + 1 + 6) :: (w 2 2 + 1 + 7) :: (w 2 2 + 1 + 8) :: (w 2 2 + 1 + 9) :: (w 2 3) :: (w 2 4) :: (w 2 5) :: (w 2 6) :: (w 2 7) :: (w 2 8) :: (w 2 9) :: (w 3 1) :: (w 3 2) :: (w 3 3) :: (w 3 4) :: (w 3 5) :: (w 4 1) :: (w 4 2) :: (w 4 3) :: (w 5 1) :: (w 5 2) :: (w 5 3) :: (w 6 1) :: (w 7 1) :: (w 7 2) :: (w 7 3) :: (w 7 4) :: (w 7 4 + 1 + 0) :: (w 7 4 + 1 + 1) :: (w 7 4 + 1 + 2) :: (w 7 4 + 1 + 3) :: (w 7 4 + 1 + 4) :: (w 7 4 + 1 + 5) :: (w 7 4 + 1 + 6) :: (w 7 4 + 1 + 7) :: (w 7 4 + 1 + 8) :: (w 7 4 + 1 + 9) :: (w 8 1) :: (w 8 2) :: (w 8 3) :: (w 8 3 + 1 + 0) :: (w 8 3 + 1 + 1) :: (w 8 3 + 1 + 2) :: (w 8 3 + 1 + 3) :: (w 8 4) :: (w 9 1) :: (w 9 2) :: (w 9 3) :: (w 9 4) :: (w 9 5) :: (w 10 1) :: (w 10 2) :: (w 10 3) :: (w 10 4) :: (w 10 5) :: (w 10 5 + 1 + 0) :: (w 10 5 + 1 + 1) :: (w 10 5 + 1 + 2) :: (w 10 5 + 1 + 3) :: (w 10 5 + 1 + 4) :: (w 10 5 + 1 + 5) :: (w 10 5 + 1 + 6) :: (w 10 5 + 1 + 7) :: (w 10 5 + 1 + 8) :: (w 10 5 + 1 + 9) :: (u 0) :: (u 1) :: (u 2) :: (u 3) :: (u 4) :: (u 5) :: (u 6) :: (u 7) :: (u 8) :: (u 9) :: (u 10) :: (u 11) :: (u 12) :: (u 13) :: (u 14) :: (u 15) :: (u 16) :: (u 17) :: (u 18) :: (u 19) :: (u 20) :: (u 21) :: (u 22) :: (u 23) :: (u 24) :: (u 25) :: (u 26) :: (u 27) :: (u 28) :: (u 29) :: (u 30) :: (u 31) :: (u 32) :: (u 33) :: (u 34) :: (u 35) :: (u 36) :: (u 37) :: (u 38) :: (u 39) :: y :: z :: [] : List Nat).getD k 0
def zSS (cy : Nat → ClassId) (a b : Nat) (w : Nat → Nat → Nat) (u : Nat → Nat) : va_W := iW11 cy a w ++ iW12 cy b u
def zSL (cy : Nat → ClassId) (a b : Nat) (w : Nat → Nat → Nat) (u : Nat → Nat) : va_W := (a, .inr (11, [.ref (w 10 0), .ref (w 7 0), .ref (w 3 0), .ref (w 4 0), .ref (w 1 0), .ref (w 9 0), .ref (w 8 0), .ref (w 6 0), .ref (w 0 0), .ref (w 2 0), .ref (w 5 0), .int 0, .int 0])) :: (w 10 0, .inr (10, [.ref (w 10 1), .ref (w 10 2), .ref (w 10 3), .ref (w 10 4), .ref (w 10 5), .int 0])) :: ((w 10 1), .inl (cy 0, 10, .inl (fun _ => 0))) :: ((w 10 2), .inl (cy 0, 10, .inl (fun _ => 0))) :: ((w 10 3), .inl (cy 0, 10, .inl (fun _ => 0))) :: ((w 10 4), .inl (cy 0, 10, .inl (fun _ => 0))) :: ((w 10 5), .inl (cy 3, 10, .inr (.inr (.inr (.inr (fun i => some ((w 10 5) + 1 + i))))))) :: ((w 10 5) + 1 + 0, .inl (cy 0, 20, .inl (fun _ => 0))) :: ((w 10 5) + 1 + 1, .inl (cy 0, 20, .inl (fun _ => 0))) :: ((w 10 5) + 1 + 2, .inl (cy 0, 20, .inl (fun _ => 0))) :: ((w 10 5) + 1 + 3, .inl (cy 0, 20, .inl (fun _ => 0))) :: ((w 10 5) + 1 + 4, .inl (cy 0, 20, .inl (fun _ => 0))) :: ((w 10 5) + 1 + 5, .inl (cy 0, 20, .inl (fun _ => 0))) :: ((w 10 5) + 1 + 6, .inl (cy 0, 20, .inl (fun _ => 0))) :: ((w 10 5) + 1 + 7, .inl (cy 0, 20, .inl (fun _ => 0))) :: ((w 10 5) + 1 + 8, .inl (cy 0, 20, .inl (fun _ => 0))) :: ((w 10 5) + 1 + 9, .inl (cy 0, 20, .inl (fun _ => 0))) :: (w 7 0, .inr (7, [.ref (w 7 1), .ref (w 7 2), .ref (w 7 3), .ref (w 7 4), .int 0])) :: ((w 7 1), .inl (cy 0, 10, .inl (fun _ => 0))) :: ((w 7 2), .inl (cy 0, 10, .inl (fun _ => 0))) :: ((w 7 3), .inl (cy 0, 10, .inl (fun _ => 0))) :: ((w 7 4), .inl (cy 3, 10, .inr (.inr (.inr (.inr (fun i => some ((w 7 4) + 1 + i))))))) :: ((w 7 4) + 1 + 0, .inl (cy 0, 10, .inl (fun _ => 0))) :: ((w 7 4) + 1 + 1, .inl (cy 0, 10, .inl (fun _ => 0))) :: ((w 7 4) + 1 + 2, .inl (cy 0, 10, .inl (fun _ => 0))) :: ((w 7 4) + 1 + 3, .inl (cy 0, 10, .inl (fun _ => 0))) :: ((w 7 4) + 1 + 4, .inl (cy 0, 10, .inl (fun _ => 0))) :: ((w 7 4) + 1 + 5, .inl (cy 0, 10, .inl (fun _ => 0))) :: ((w 7 4) + 1 + 6, .inl (cy 0, 10, .inl (fun _ => 0))) :: ((w 7 4) + 1 + 7, .inl (cy 0, 10, .inl (fun _ => 0))) :: ((w 7 4) + 1 + 8, .inl (cy 0, 10, .inl (fun _ => 0))) :: ((w 7 4) + 1 + 9, .inl (cy 0, 10, .inl (fun _ => 0))) :: (w 3 0, .inr (3, [.ref (w 3 1), .ref (w 3 2), .ref (w 3 3), .ref (w 3 4), .ref (w 3 5), .int 0])) :: ((w 3 1), .inl (cy 0, 40, .inl (fun _ => 0))) :: ((w 3 2), .inl (cy 0, 40, .inl (fun _ => 0))) :: ((w 3 3), .inl (cy 0, 40, .inl (fun _ => 0))) :: ((w 3 4), .inl (cy 0, 40, .inl (fun _ => 0))) :: ((w 3 5), .inl (cy 0, 40, .inl (fun _ => 0))) :: (w 4 0, .inr (4, [.ref (w 4 1), .ref (w 4 2), .ref (w 4 3), .int 0])) :: ((w 4 1), .inl (cy 0, 40, .inl (fun _ => 0))) :: ((w 4 2), .inl (cy 0, 40, .inl (fun _ => 0))) :: ((w 4 3), .inl (cy 0, 40, .inl (fun _ => 0))) :: (w 1 0, .inr (1, [.ref (w 1 1), .ref (w 1 2), .ref (w 1 3), .ref (w 1 4), .int 0, .ref (w 1 5), .int 0, .int 0, .int 0])) :: ((w 1 1), .inl (cy 0, 40, .inl (fun _ => 0))) :: ((w 1 2), .inl (cy 0, 40, .inl (fun _ => 0))) :: ((w 1 3), .inl (cy 0, 40, .inl (fun _ => 0))) :: ((w 1 4), .inl (cy 0, 40, .inl (fun _ => 0))) :: ((w 1 5), .inl (cy 0, 602, .inl (fun _ => 0))) :: (w 9 0, .inr (9, [.ref (w 9 1), .ref (w 9 2), .ref (w 9 3), .int 0, .int 1000000, .ref (w 9 4), .int 0, .int 0, .ref (w 9 5), .int 0, .int 0])) :: ((w 9 1), .inl (cy 0, 40, .inl (fun _ => 0))) :: ((w 9 2), .inl (cy 0, 40, .inl (fun _ => 0))) :: ((w 9 3), .inl (cy 0, 40, .inl (fun _ => 0))) :: ((w 9 4), .inl (cy 0, 1024, .inl (fun _ => 0))) :: ((w 9 5), .inl (cy 0, 2, .inl (fun _ => 0))) :: (w 8 0, .inr (8, [.ref (w 8 1), .ref (w 8 2), .ref (w 8 3), .ref (w 8 4)])) :: ((w 8 1), .inl (cy 0, 4, .inl (upd (upd (upd (upd (fun _ => 0) (0 : Int32).toNatClampNeg (-1)) (1 : Int32).toNatClampNeg (-1)) (2 : Int32).toNatClampNeg (-1)) (3 : Int32).toNatClampNeg (-1)))) :: ((w 8 2), .inl (cy 0, 4, .inl (fun _ => 0))) :: ((w 8 3), .inl (cy 3, 4, .inr (.inr (.inr (.inr (fun i => some ((w 8 3) + 1 + i))))))) :: ((w 8 3) + 1 + 0, .inl (cy 0, 60, .inl (fun _ => 0))) :: ((w 8 3) + 1 + 1, .inl (cy 0, 60, .inl (fun _ => 0))) :: ((w 8 3) + 1 + 2, .inl (cy 0, 60, .inl (fun _ => 0))) :: ((w 8 3) + 1 + 3, .inl (cy 0, 60, .inl (fun _ => 0))) :: ((w 8 4), .inl (cy 0, 60, .inl (fun _ => 0))) :: (w 6 0, .inr (6, [.ref (w 6 1), .int 0, .int 0, .int 0, .int 0, .int 0, .int 0])) :: ((w 6 1), .inl (cy 0, 60, .inl (fun _ => 0))) :: (w 0 0, .inr (0, [.ref (w 0 1), .int 0, .ref (w 0 2), .int 0, .int (-9), .int 0])) :: ((w 0 1), .inl (cy 0, 4, .inl (upd (upd (upd (upd (fun _ => 0) (0 : Int32).toNatClampNeg (-9)) (1 : Int32).toNatClampNeg (-9)) (2 : Int32).toNatClampNeg (-9)) (3 : Int32).toNatClampNeg (-9)))) :: ((w 0 2), .inl (cy 0, 4, .inl (upd (upd (upd (upd (fun _ => 0) (0 : Int32).toNatClampNeg (-9)) (1 : Int32).toNatClampNeg (-9)) (2 : Int32).toNatClampNeg (-9)) (3 : Int32).toNatClampNeg (-9)))) :: (w 2 0, .inr (2, [.int 0, .int 0, .ref (w 2 1), .ref (w 2 2), .ref (w 2 3), .ref (w 2 4), .ref (w 2 5), .ref (w 2 6), .ref (w 2 7), .ref (w 2 8), .ref (w 2 9)])) :: ((w 2 1), .inl (cy 0, 10, .inl (fun _ => 0))) :: ((w 2 2), .inl (cy 3, 10, .inr (.inr (.inr (.inr (fun i => some ((w 2 2) + 1 + i))))))) :: ((w 2 2) + 1 + 0, .inl (cy 0, 10, .inl (fun _ => 0))) :: ((w 2 2) + 1 + 1, .inl (cy 0, 10, .inl (fun _ => 0))) :: ((w 2 2) + 1 + 2, .inl (cy 0, 10, .inl (fun _ => 0))) :: ((w 2 2) + 1 + 3, .inl (cy 0, 10, .inl (fun _ => 0))) :: ((w 2 2) + 1 + 4, .inl (cy 0, 10, .inl (fun _ => 0))) :: ((w 2 2) + 1 + 5, .inl (cy 0, 10, .inl (fun _ => 0))) :: ((w 2 2) + 1 + 6, .inl (cy 0, 10, .inl (fun _ => 0))) :: ((w 2 2) + 1 + 7, .inl (cy 0, 10, .inl (fun _ => 0))) :: ((w 2 2) + 1 + 8, .inl (cy 0, 10, .inl (fun _ => 0))) :: ((w 2 2) + 1 + 9, .inl (cy 0, 10, .inl (fun _ => 0))) :: ((w 2 3), .inl (cy 0, 10, .inl (fun _ => 0))) :: ((w 2 4), .inl (cy 0, 10, .inl (fun _ => 0))) :: ((w 2 5), .inl (cy 0, 21, .inl (fun _ => 0))) :: ((w 2 6), .inl (cy 0, 21, .inl (fun _ => 0))) :: ((w 2 7), .inl (cy 2, 21, .inr (.inl (fun _ => 0)))) :: ((w 2 8), .inl (cy 2, 21, .inr (.inl (fun _ => 0)))) :: ((w 2 9), .inl (cy 2, 11, .inr (.inl (fun _ => 0)))) :: (w 5 0, .inr (5, [.ref (w 5 1), .ref (w 5 2), .int 0, .ref (w 5 3), .int 0])) :: ((w 5 1), .inl (cy 0, 10, .inl (fun _ => 0))) :: ((w 5 2), .inl (cy 0, 10, .inl (fun _ => 0))) :: ((w 5 3), .inl (cy 0, 10, .inl (fun _ => 0))) :: (b, .inr (12, [.int 0, .int 0, .int 0, .ref (u 0), .ref (u 1), .ref (u 2), .int 0, .ref (u 3), .ref (u 4), .ref (u 5), .ref (u 6), .ref (u 7), .ref (u 8), .ref (u 9), .ref (u 10), .ref (u 11), .ref (u 12), .ref (u 13), .ref (u 14), .int 0, .ref (u 15), .ref (u 16), .ref (u 17), .ref (u 18), .ref (u 19), .int 0, .ref (u 20), .ref (u 21), .ref (u 22), .int 0, .int 0, .ref (u 23), .int 0, .ref (u 24), .ref (u 25), .ref (u 26), .int 0, .ref (u 27), .ref (u 28), .ref (u 29), .ref (u 30), .int 0, .int 0, .int 0, .int 0, .int 0, .ref (u 31), .ref (u 32), .ref (u 33), .int 1000000, .ref (u 34), .int 0, .int 0, .int 0, .ref (u 35), .ref (u 36), .int 0, .ref (u 37), .int 0, .int 0, .int 0, .ref (u 38), .ref (u 39)])) :: ((u 0), .inl (cy 0, 10, .inl (fun _ => 0))) :: ((u 1), .inl (cy 0, 10, .inl (fun _ => 0))) :: ((u 2), .inl (cy 0, 10, .inl (fun _ => 0))) :: ((u 3), .inl (cy 0, 10, .inl (fun _ => 0))) :: ((u 4), .inl (cy 0, 100, .inl (fun _ => 0))) :: ((u 5), .inl (cy 1, 100, .inl (fun _ => 0))) :: ((u 6), .inl (cy 0, 11264, .inl (fun _ => 0))) :: ((u 7), .inl (cy 1, 100, .inl (fun _ => 0))) :: ((u 8), .inl (cy 0, 10, .inl (fun _ => 0))) :: ((u 9), .inl (cy 1, 100, .inl (fun _ => 0))) :: ((u 10), .inl (cy 0, 10, .inl (fun _ => 0))) :: ((u 11), .inl (cy 0, 4, .inl (upd (upd (upd (upd (fun _ => 0) (0 : Int32).toNatClampNeg (-9)) (1 : Int32).toNatClampNeg (-9)) (2 : Int32).toNatClampNeg (-9)) (3 : Int32).toNatClampNeg (-9)))) :: ((u 12), .inl (cy 0, 4, .inl (fun _ => 0))) :: ((u 13), .inl (cy 0, 240, .inl (fun _ => 0))) :: ((u 14), .inl (cy 0, 10, .inl (fun _ => 0))) :: ((u 15), .inl (cy 0, 40, .inl (fun _ => 0))) :: ((u 16), .inl (cy 0, 40, .inl (fun _ => 0))) :: ((u 17), .inl (cy 0, 40, .inl (fun _ => 0))) :: ((u 18), .inl (cy 0, 40, .inl (fun _ => 0))) :: ((u 19), .inl (cy 0, 40, .inl (fun _ => 0))) :: ((u 20), .inl (cy 0, 40, .inl (fun _ => 0))) :: ((u 21), .inl (cy 0, 40, .inl (fun _ => 0))) :: ((u 22), .inl (cy 0, 40, .inl (fun _ => 0))) :: ((u 23), .inl (cy 0, 10, .inl (fun _ => 0))) :: ((u 24), .inl (cy 0, 1024, .inl (fun _ => 0))) :: ((u 25), .inl (cy 0, 1024, .inl (fun _ => 0))) :: ((u 26), .inl (cy 0, 1024, .inl (fun _ => 0))) :: ((u 27), .inl (cy 0, 40, .inl (fun _ => 0))) :: ((u 28), .inl (cy 0, 40, .inl (fun _ => 0))) :: ((u 29), .inl (cy 0, 40, .inl (fun _ => 0))) :: ((u 30), .inl (cy 0, 40, .inl (fun _ => 0))) :: ((u 31), .inl (cy 0, 40, .inl (fun _ => 0))) :: ((u 32), .inl (cy 0, 40, .inl (fun _ => 0))) :: ((u 33), .inl (cy 0, 40, .inl (fun _ => 0))) :: ((u 34), .inl (cy 0, 10, .inl (fun _ => 0))) :: ((u 35), .inl (cy 0, 10, .inl (fun _ => 0))) :: ((u 36), .inl (cy 0, 200, .inl (fun _ => 0))) :: ((u 37), .inl (cy 0, 60, .inl (fun _ => 0))) :: ((u 38), .inl (cy 0, 4, .inl (upd (upd (upd (upd (fun _ => 0) (0 : Int32).toNatClampNeg (-9)) (1 : Int32).toNatClampNeg (-9)) (2 : Int32).toNatClampNeg (-9)) (3 : Int32).toNatClampNeg (-9)))) :: ((u 39), .inl (cy 0, 4, .inl (fun _ => 0))) :: []
theorem zSS_eq {cy : Nat → ClassId} {a b : Nat} {w : Nat → Nat → Nat} {u : Nat → Nat} : zSS cy a b w u = zSL cy a b w u := by
  unfold zSS iW11 iW10 iW7 iW3 iW4 iW1 iW9 iW8 iW6 iW0 iW2 iW5 iW12
  simp only [List.cons_append, List.nil_append]
  rfl
def zpl : List Nat := [65, 42, 68, 32, 38, 88, 63, 17, 54, 48, 1, 0, 92, 66, 67, 43, 44, 45, 46, 47, 69, 70, 71, 72, 73, 74, 75, 76, 77, 78, 79, 80, 81, 82, 83, 84, 85, 86, 87, 33, 34, 35, 36, 37, 39, 40, 41, 89, 90, 91, 64, 18, 19, 20, 21, 22, 23, 24, 25, 26, 27, 28, 29, 30, 31, 55, 56, 57, 58, 59, 60, 61, 62, 49, 50, 51, 52, 53, 2, 3, 4, 5, 6, 7, 8, 9, 10, 11, 12, 13, 14, 15, 16, 93, 94, 95, 96, 97, 98, 99, 100, 101, 102, 103, 104, 105, 106, 107, 108, 109, 110, 111, 112, 113, 114, 115, 116, 117, 118, 119, 120, 121, 122, 123, 124, 125, 126, 127, 128, 129, 130, 131, 132]
theorem zpl_nd : zpl.Nodup := by decide +kernel
def zsP (D : va_G) (cy : Nat → ClassId) (a b : Nat) (w : Nat → Nat → Nat) (u : Nat → Nat) (y z : Nat) (k : Nat) : Prop := ∃ i e, zpl[k]? = some i ∧ (zSL cy a b w u)[i]? = some (zad a b w u y z k, e) ∧ ∀ H : Heap, va_at D vwCl (zad a b w u y z k, e) H → va_at D vwCl (zad a b w u y z k, ze (zad a b w u y z) cy zi0 k) H
theorem zs_arr {c : ClassId} {n : Nat} {f g : Nat → Option Nat} (h : ∀ i, i < n → f i = g i) : arrV c n (fun j => va_rf (f j)) = arrV c n (fun j => va_rf (g j)) := by
  unfold arrV
  congr 1
  apply Array.ext
  · simp
  · intro i h1 h2
    simp at h1
    simp [h i h1]
theorem zs_s {P : Nat → Prop} {n : Nat} (h : ∀ k, k < n → P k) (p : P n) : ∀ k, k < n + 1 → P k := fun k hk => by
  by_cases e : k = n
  · rw [e]
    exact p
  · exact h k (by omega)
section ZSP
variable {D : va_G} {cy : Nat → ClassId} {a b : Nat} {w : Nat → Nat → Nat} {u : Nat → Nat} {y z : Nat}
set_option maxRecDepth 100000 in
theorem zs_0 : zsP D cy a b w u y z 0 := ⟨65, _, rfl, rfl, fun _ h => h⟩
set_option maxRecDepth 100000 in
theorem zs_1 : zsP D cy a b w u y z 1 := ⟨42, _, rfl, rfl, fun _ h => h⟩
set_option maxRecDepth 100000 in
theorem zs_2 : zsP D cy a b w u y z 2 := ⟨68, _, rfl, rfl, fun _ h => h⟩
set_option maxRecDepth 100000 in
theorem zs_3 : zsP D cy a b w u y z 3 := ⟨32, _, rfl, rfl, fun _ h => h⟩
set_option maxRecDepth 100000 in
theorem zs_4 : zsP D cy a b w u y z 4 := ⟨38, _, rfl, rfl, fun _ h => h⟩
set_option maxRecDepth 100000 in
theorem zs_5 : zsP D cy a b w u y z 5 := ⟨88, _, rfl, rfl, fun _ h => h⟩
set_option maxRecDepth 100000 in
theorem zs_6 : zsP D cy a b w u y z 6 := ⟨63, _, rfl, rfl, fun _ h => h⟩
set_option maxRecDepth 100000 in
theorem zs_7 : zsP D cy a b w u y z 7 := ⟨17, _, rfl, rfl, fun _ h => h⟩
set_option maxRecDepth 100000 in
theorem zs_8 : zsP D cy a b w u y z 8 := ⟨54, _, rfl, rfl, fun _ h => h⟩
set_option maxRecDepth 100000 in
theorem zs_9 : zsP D cy a b w u y z 9 := ⟨48, _, rfl, rfl, fun _ h => h⟩
set_option maxRecDepth 100000 in
theorem zs_10 : zsP D cy a b w u y z 10 := ⟨1, _, rfl, rfl, fun _ h => h⟩
set_option maxRecDepth 100000 in
theorem zs_11 : zsP D cy a b w u y z 11 := ⟨0, _, rfl, rfl, fun _ h => h⟩
set_option maxRecDepth 100000 in
theorem zs_12 : zsP D cy a b w u y z 12 := ⟨92, _, rfl, rfl, fun _ h => h⟩
theorem zs_13 : zsP D cy a b w u y z 13 := ⟨66, _, rfl, rfl, fun _ h => h⟩
theorem zs_14 : zsP D cy a b w u y z 14 := ⟨67, _, rfl, rfl, fun _ h => h⟩
theorem zs_15 : zsP D cy a b w u y z 15 := ⟨43, _, rfl, rfl, fun _ h => h⟩
theorem zs_16 : zsP D cy a b w u y z 16 := ⟨44, _, rfl, rfl, fun _ h => h⟩
theorem zs_17 : zsP D cy a b w u y z 17 := ⟨45, _, rfl, rfl, fun _ h => h⟩
theorem zs_18 : zsP D cy a b w u y z 18 := ⟨46, _, rfl, rfl, fun _ h => h⟩
theorem zs_19 : zsP D cy a b w u y z 19 := ⟨47, _, rfl, rfl, fun _ h => h⟩
theorem zs_20 : zsP D cy a b w u y z 20 := ⟨69, _, rfl, rfl, fun _ h => h⟩
theorem zs_21 : zsP D cy a b w u y z 21 := ⟨70, _, rfl, rfl, fun H h => by
  have h1 : H[zad a b w u y z 21]? = some (vp_cell (cy 3) (10, .inr (.inr (.inr (.inr (fun i => some (zad a b w u y z 21 + 1 + i))))))) := h
  show H[zad a b w u y z 21]? = some (vp_cell (cy 3) (10, .inr (.inr (.inr (.inr (fun i => some (zad a b w u y z (22 + i))))))))
  rw [h1, vp_cell_q, vp_cell_q]
  refine congrArg some (zs_arr (fun i hi => ?_))
  rcases (show i = 0 ∨ i = 1 ∨ i = 2 ∨ i = 3 ∨ i = 4 ∨ i = 5 ∨ i = 6 ∨ i = 7 ∨ i = 8 ∨ i = 9 by omega) with rfl | rfl | rfl | rfl | rfl | rfl | rfl | rfl | rfl | rfl <;> rfl⟩
theorem zs_22 : zsP D cy a b w u y z 22 := ⟨71, _, rfl, rfl, fun _ h => h⟩
theorem zs_23 : zsP D cy a b w u y z 23 := ⟨72, _, rfl, rfl, fun _ h => h⟩
theorem zs_24 : zsP D cy a b w u y z 24 := ⟨73, _, rfl, rfl, fun _ h => h⟩
theorem zs_25 : zsP D cy a b w u y z 25 := ⟨74, _, rfl, rfl, fun _ h => h⟩
theorem zs_26 : zsP D cy a b w u y z 26 := ⟨75, _, rfl, rfl, fun _ h => h⟩
theorem zs_27 : zsP D cy a b w u y z 27 := ⟨76, _, rfl, rfl, fun _ h => h⟩
theorem zs_28 : zsP D cy a b w u y z 28 := ⟨77, _, rfl, rfl, fun _ h => h⟩
theorem zs_29 : zsP D cy a b w u y z 29 := ⟨78, _, rfl, rfl, fun _ h => h⟩
theorem zs_30 : zsP D cy a b w u y z 30 := ⟨79, _, rfl, rfl, fun _ h => h⟩
theorem zs_31 : zsP D cy a b w u y z 31 := ⟨80, _, rfl, rfl, fun _ h => h⟩
theorem zs_32 : zsP D cy a b w u y z 32 := ⟨81, _, rfl, rfl, fun _ h => h⟩
theorem zs_33 : zsP D cy a b w u y z 33 := ⟨82, _, rfl, rfl, fun _ h => h⟩
theorem zs_34 : zsP D cy a b w u y z 34 := ⟨83, _, rfl, rfl, fun _ h => h⟩
theorem zs_35 : zsP D cy a b w u y z 35 := ⟨84, _, rfl, rfl, fun _ h => h⟩
theorem zs_36 : zsP D cy a b w u y z 36 := ⟨85, _, rfl, rfl, fun _ h => h⟩
theorem zs_37 : zsP D cy a b w u y z 37 := ⟨86, _, rfl, rfl, fun _ h => h⟩
theorem zs_38 : zsP D cy a b w u y z 38 := ⟨87, _, rfl, rfl, fun _ h => h⟩
theorem zs_39 : zsP D cy a b w u y z 39 := ⟨33, _, rfl, rfl, fun _ h => h⟩
theorem zs_40 : zsP D cy a b w u y z 40 := ⟨34, _, rfl, rfl, fun _ h => h⟩
theorem zs_41 : zsP D cy a b w u y z 41 := ⟨35, _, rfl, rfl, fun _ h => h⟩
theorem zs_42 : zsP D cy a b w u y z 42 := ⟨36, _, rfl, rfl, fun _ h => h⟩
theorem zs_43 : zsP D cy a b w u y z 43 := ⟨37, _, rfl, rfl, fun _ h => h⟩
theorem zs_44 : zsP D cy a b w u y z 44 := ⟨39, _, rfl, rfl, fun _ h => h⟩
theorem zs_45 : zsP D cy a b w u y z 45 := ⟨40, _, rfl, rfl, fun _ h => h⟩
theorem zs_46 : zsP D cy a b w u y z 46 := ⟨41, _, rfl, rfl, fun _ h => h⟩
theorem zs_47 : zsP D cy a b w u y z 47 := ⟨89, _, rfl, rfl, fun _ h => h⟩
theorem zs_48 : zsP D cy a b w u y z 48 := ⟨90, _, rfl, rfl, fun _ h => h⟩
theorem zs_49 : zsP D cy a b w u y z 49 := ⟨91, _, rfl, rfl, fun _ h => h⟩
theorem zs_50 : zsP D cy a b w u y z 50 := ⟨64, _, rfl, rfl, fun _ h => h⟩
theorem zs_51 : zsP D cy a b w u y z 51 := ⟨18, _, rfl, rfl, fun _ h => h⟩
theorem zs_52 : zsP D cy a b w u y z 52 := ⟨19, _, rfl, rfl, fun _ h => h⟩
theorem zs_53 : zsP D cy a b w u y z 53 := ⟨20, _, rfl, rfl, fun _ h => h⟩
theorem zs_54 : zsP D cy a b w u y z 54 := ⟨21, _, rfl, rfl, fun H h => by
  have h1 : H[zad a b w u y z 54]? = some (vp_cell (cy 3) (10, .inr (.inr (.inr (.inr (fun i => some (zad a b w u y z 54 + 1 + i))))))) := h
  show H[zad a b w u y z 54]? = some (vp_cell (cy 3) (10, .inr (.inr (.inr (.inr (fun i => some (zad a b w u y z (55 + i))))))))
  rw [h1, vp_cell_q, vp_cell_q]
  refine congrArg some (zs_arr (fun i hi => ?_))
  rcases (show i = 0 ∨ i = 1 ∨ i = 2 ∨ i = 3 ∨ i = 4 ∨ i = 5 ∨ i = 6 ∨ i = 7 ∨ i = 8 ∨ i = 9 by omega) with rfl | rfl | rfl | rfl | rfl | rfl | rfl | rfl | rfl | rfl <;> rfl⟩
theorem zs_55 : zsP D cy a b w u y z 55 := ⟨22, _, rfl, rfl, fun _ h => h⟩
theorem zs_56 : zsP D cy a b w u y z 56 := ⟨23, _, rfl, rfl, fun _ h => h⟩
theorem zs_57 : zsP D cy a b w u y z 57 := ⟨24, _, rfl, rfl, fun _ h => h⟩
theorem zs_58 : zsP D cy a b w u y z 58 := ⟨25, _, rfl, rfl, fun _ h => h⟩
theorem zs_59 : zsP D cy a b w u y z 59 := ⟨26, _, rfl, rfl, fun _ h => h⟩
theorem zs_60 : zsP D cy a b w u y z 60 := ⟨27, _, rfl, rfl, fun _ h => h⟩
theorem zs_61 : zsP D cy a b w u y z 61 := ⟨28, _, rfl, rfl, fun _ h => h⟩
theorem zs_62 : zsP D cy a b w u y z 62 := ⟨29, _, rfl, rfl, fun _ h => h⟩
theorem zs_63 : zsP D cy a b w u y z 63 := ⟨30, _, rfl, rfl, fun _ h => h⟩
theorem zs_64 : zsP D cy a b w u y z 64 := ⟨31, _, rfl, rfl, fun _ h => h⟩
theorem zs_65 : zsP D cy a b w u y z 65 := ⟨55, _, rfl, rfl, fun _ h => h⟩
theorem zs_66 : zsP D cy a b w u y z 66 := ⟨56, _, rfl, rfl, fun _ h => h⟩
theorem zs_67 : zsP D cy a b w u y z 67 := ⟨57, _, rfl, rfl, fun H h => by
  have h1 : H[zad a b w u y z 67]? = some (vp_cell (cy 3) (4, .inr (.inr (.inr (.inr (fun i => some (zad a b w u y z 67 + 1 + i))))))) := h
  show H[zad a b w u y z 67]? = some (vp_cell (cy 3) (4, .inr (.inr (.inr (.inr (fun i => some (zad a b w u y z (68 + i))))))))
  rw [h1, vp_cell_q, vp_cell_q]
  refine congrArg some (zs_arr (fun i hi => ?_))
  rcases (show i = 0 ∨ i = 1 ∨ i = 2 ∨ i = 3 by omega) with rfl | rfl | rfl | rfl <;> rfl⟩
theorem zs_68 : zsP D cy a b w u y z 68 := ⟨58, _, rfl, rfl, fun _ h => h⟩
theorem zs_69 : zsP D cy a b w u y z 69 := ⟨59, _, rfl, rfl, fun _ h => h⟩
theorem zs_70 : zsP D cy a b w u y z 70 := ⟨60, _, rfl, rfl, fun _ h => h⟩
theorem zs_71 : zsP D cy a b w u y z 71 := ⟨61, _, rfl, rfl, fun _ h => h⟩
theorem zs_72 : zsP D cy a b w u y z 72 := ⟨62, _, rfl, rfl, fun _ h => h⟩
theorem zs_73 : zsP D cy a b w u y z 73 := ⟨49, _, rfl, rfl, fun _ h => h⟩
theorem zs_74 : zsP D cy a b w u y z 74 := ⟨50, _, rfl, rfl, fun _ h => h⟩
theorem zs_75 : zsP D cy a b w u y z 75 := ⟨51, _, rfl, rfl, fun _ h => h⟩
theorem zs_76 : zsP D cy a b w u y z 76 := ⟨52, _, rfl, rfl, fun _ h => h⟩
theorem zs_77 : zsP D cy a b w u y z 77 := ⟨53, _, rfl, rfl, fun _ h => h⟩
theorem zs_78 : zsP D cy a b w u y z 78 := ⟨2, _, rfl, rfl, fun _ h => h⟩
theorem zs_79 : zsP D cy a b w u y z 79 := ⟨3, _, rfl, rfl, fun _ h => h⟩
theorem zs_80 : zsP D cy a b w u y z 80 := ⟨4, _, rfl, rfl, fun _ h => h⟩
theorem zs_81 : zsP D cy a b w u y z 81 := ⟨5, _, rfl, rfl, fun _ h => h⟩
theorem zs_82 : zsP D cy a b w u y z 82 := ⟨6, _, rfl, rfl, fun H h => by
  have h1 : H[zad a b w u y z 82]? = some (vp_cell (cy 3) (10, .inr (.inr (.inr (.inr (fun i => some (zad a b w u y z 82 + 1 + i))))))) := h
  show H[zad a b w u y z 82]? = some (vp_cell (cy 3) (10, .inr (.inr (.inr (.inr (fun i => some (zad a b w u y z (83 + i))))))))
  rw [h1, vp_cell_q, vp_cell_q]
  refine congrArg some (zs_arr (fun i hi => ?_))
  rcases (show i = 0 ∨ i = 1 ∨ i = 2 ∨ i = 3 ∨ i = 4 ∨ i = 5 ∨ i = 6 ∨ i = 7 ∨ i = 8 ∨ i = 9 by omega) with rfl | rfl | rfl | rfl | rfl | rfl | rfl | rfl | rfl | rfl <;> rfl⟩
theorem zs_83 : zsP D cy a b w u y z 83 := ⟨7, _, rfl, rfl, fun _ h => h⟩
theorem zs_84 : zsP D cy a b w u y z 84 := ⟨8, _, rfl, rfl, fun _ h => h⟩
theorem zs_85 : zsP D cy a b w u y z 85 := ⟨9, _, rfl, rfl, fun _ h => h⟩
theorem zs_86 : zsP D cy a b w u y z 86 := ⟨10, _, rfl, rfl, fun _ h => h⟩
theorem zs_87 : zsP D cy a b w u y z 87 := ⟨11, _, rfl, rfl, fun _ h => h⟩
theorem zs_88 : zsP D cy a b w u y z 88 := ⟨12, _, rfl, rfl, fun _ h => h⟩
theorem zs_89 : zsP D cy a b w u y z 89 := ⟨13, _, rfl, rfl, fun _ h => h⟩
theorem zs_90 : zsP D cy a b w u y z 90 := ⟨14, _, rfl, rfl, fun _ h => h⟩
theorem zs_91 : zsP D cy a b w u y z 91 := ⟨15, _, rfl, rfl, fun _ h => h⟩
theorem zs_92 : zsP D cy a b w u y z 92 := ⟨16, _, rfl, rfl, fun _ h => h⟩
theorem zs_93 : zsP D cy a b w u y z 93 := ⟨93, _, rfl, rfl, fun _ h => h⟩
theorem zs_94 : zsP D cy a b w u y z 94 := ⟨94, _, rfl, rfl, fun _ h => h⟩
theorem zs_95 : zsP D cy a b w u y z 95 := ⟨95, _, rfl, rfl, fun _ h => h⟩
theorem zs_96 : zsP D cy a b w u y z 96 := ⟨96, _, rfl, rfl, fun _ h => h⟩
theorem zs_97 : zsP D cy a b w u y z 97 := ⟨97, _, rfl, rfl, fun _ h => h⟩
theorem zs_98 : zsP D cy a b w u y z 98 := ⟨98, _, rfl, rfl, fun _ h => h⟩
theorem zs_99 : zsP D cy a b w u y z 99 := ⟨99, _, rfl, rfl, fun _ h => h⟩
theorem zs_100 : zsP D cy a b w u y z 100 := ⟨100, _, rfl, rfl, fun _ h => h⟩
theorem zs_101 : zsP D cy a b w u y z 101 := ⟨101, _, rfl, rfl, fun _ h => h⟩
theorem zs_102 : zsP D cy a b w u y z 102 := ⟨102, _, rfl, rfl, fun _ h => h⟩
theorem zs_103 : zsP D cy a b w u y z 103 := ⟨103, _, rfl, rfl, fun _ h => h⟩
theorem zs_104 : zsP D cy a b w u y z 104 := ⟨104, _, rfl, rfl, fun _ h => h⟩
theorem zs_105 : zsP D cy a b w u y z 105 := ⟨105, _, rfl, rfl, fun _ h => h⟩
theorem zs_106 : zsP D cy a b w u y z 106 := ⟨106, _, rfl, rfl, fun _ h => h⟩
theorem zs_107 : zsP D cy a b w u y z 107 := ⟨107, _, rfl, rfl, fun _ h => h⟩
theorem zs_108 : zsP D cy a b w u y z 108 := ⟨108, _, rfl, rfl, fun _ h => h⟩
theorem zs_109 : zsP D cy a b w u y z 109 := ⟨109, _, rfl, rfl, fun _ h => h⟩
theorem zs_110 : zsP D cy a b w u y z 110 := ⟨110, _, rfl, rfl, fun _ h => h⟩
theorem zs_111 : zsP D cy a b w u y z 111 := ⟨111, _, rfl, rfl, fun _ h => h⟩
theorem zs_112 : zsP D cy a b w u y z 112 := ⟨112, _, rfl, rfl, fun _ h => h⟩
theorem zs_113 : zsP D cy a b w u y z 113 := ⟨113, _, rfl, rfl, fun _ h => h⟩
theorem zs_114 : zsP D cy a b w u y z 114 := ⟨114, _, rfl, rfl, fun _ h => h⟩
theorem zs_115 : zsP D cy a b w u y z 115 := ⟨115, _, rfl, rfl, fun _ h => h⟩
theorem zs_116 : zsP D cy a b w u y z 116 := ⟨116, _, rfl, rfl, fun _ h => h⟩
theorem zs_117 : zsP D cy a b w u y z 117 := ⟨117, _, rfl, rfl, fun _ h => h⟩
theorem zs_118 : zsP D cy a b w u y z 118 := ⟨118, _, rfl, rfl, fun _ h => h⟩
theorem zs_119 : zsP D cy a b w u y z 119 := ⟨119, _, rfl, rfl, fun _ h => h⟩
theorem zs_120 : zsP D cy a b w u y z 120 := ⟨120, _, rfl, rfl, fun _ h => h⟩
theorem zs_121 : zsP D cy a b w u y z 121 := ⟨121, _, rfl, rfl, fun _ h => h⟩
theorem zs_122 : zsP D cy a b w u y z 122 := ⟨122, _, rfl, rfl, fun _ h => h⟩
theorem zs_123 : zsP D cy a b w u y z 123 := ⟨123, _, rfl, rfl, fun _ h => h⟩
theorem zs_124 : zsP D cy a b w u y z 124 := ⟨124, _, rfl, rfl, fun _ h => h⟩
theorem zs_125 : zsP D cy a b w u y z 125 := ⟨125, _, rfl, rfl, fun _ h => h⟩
theorem zs_126 : zsP D cy a b w u y z 126 := ⟨126, _, rfl, rfl, fun _ h => h⟩
theorem zs_127 : zsP D cy a b w u y z 127 := ⟨127, _, rfl, rfl, fun _ h => h⟩
theorem zs_128 : zsP D cy a b w u y z 128 := ⟨128, _, rfl, rfl, fun _ h => h⟩
theorem zs_129 : zsP D cy a b w u y z 129 := ⟨129, _, rfl, rfl, fun _ h => h⟩
theorem zs_130 : zsP D cy a b w u y z 130 := ⟨130, _, rfl, rfl, fun _ h => h⟩
theorem zs_131 : zsP D cy a b w u y z 131 := ⟨131, _, rfl, rfl, fun _ h => h⟩
theorem zs_132 : zsP D cy a b w u y z 132 := ⟨132, _, rfl, rfl, fun _ h => h⟩
theorem zs_all0 : ∀ k, k < 19 → zsP D cy a b w u y z k := (zs_s (zs_s (zs_s (zs_s (zs_s (zs_s (zs_s (zs_s (zs_s (zs_s (zs_s (zs_s (zs_s (zs_s (zs_s (zs_s (zs_s (zs_s (zs_s (fun k hk => absurd hk (Nat.not_lt_zero _)) zs_0) zs_1) zs_2) zs_3) zs_4) zs_5) zs_6) zs_7) zs_8) zs_9) zs_10) zs_11) zs_12) zs_13) zs_14) zs_15) zs_16) zs_17) zs_18)
theorem zs_all19 : ∀ k, k < 38 → zsP D cy a b w u y z k := (zs_s (zs_s (zs_s (zs_s (zs_s (zs_s (zs_s (zs_s (zs_s (zs_s (zs_s (zs_s (zs_s (zs_s (zs_s (zs_s (zs_s (zs_s (zs_s zs_all0 zs_19) zs_20) zs_21) zs_22) zs_23) zs_24) zs_25) zs_26) zs_27) zs_28) zs_29) zs_30) zs_31) zs_32) zs_33) zs_34) zs_35) zs_36) zs_37)
theorem zs_all38 : ∀ k, k < 57 → zsP D cy a b w u y z k := (zs_s (zs_s (zs_s (zs_s (zs_s (zs_s (zs_s (zs_s (zs_s (zs_s (zs_s (zs_s (zs_s (zs_s (zs_s (zs_s (zs_s (zs_s (zs_s zs_all19 zs_38) zs_39) zs_40) zs_41) zs_42) zs_43) zs_44) zs_45) zs_46) zs_47) zs_48) zs_49) zs_50) zs_51) zs_52) zs_53) zs_54) zs_55) zs_56)
theorem zs_all57 : ∀ k, k < 76 → zsP D cy a b w u y z k := (zs_s (zs_s (zs_s (zs_s (zs_s (zs_s (zs_s (zs_s (zs_s (zs_s (zs_s (zs_s (zs_s (zs_s (zs_s (zs_s (zs_s (zs_s (zs_s zs_all38 zs_57) zs_58) zs_59) zs_60) zs_61) zs_62) zs_63) zs_64) zs_65) zs_66) zs_67) zs_68) zs_69) zs_70) zs_71) zs_72) zs_73) zs_74) zs_75)
theorem zs_all76 : ∀ k, k < 95 → zsP D cy a b w u y z k := (zs_s (zs_s (zs_s (zs_s (zs_s (zs_s (zs_s (zs_s (zs_s (zs_s (zs_s (zs_s (zs_s (zs_s (zs_s (zs_s (zs_s (zs_s (zs_s zs_all57 zs_76) zs_77) zs_78) zs_79) zs_80) zs_81) zs_82) zs_83) zs_84) zs_85) zs_86) zs_87) zs_88) zs_89) zs_90) zs_91) zs_92) zs_93) zs_94)
theorem zs_all95 : ∀ k, k < 114 → zsP D cy a b w u y z k := (zs_s (zs_s (zs_s (zs_s (zs_s (zs_s (zs_s (zs_s (zs_s (zs_s (zs_s (zs_s (zs_s (zs_s (zs_s (zs_s (zs_s (zs_s (zs_s zs_all76 zs_95) zs_96) zs_97) zs_98) zs_99) zs_100) zs_101) zs_102) zs_103) zs_104) zs_105) zs_106) zs_107) zs_108) zs_109) zs_110) zs_111) zs_112) zs_113)
theorem zs_all114 : ∀ k, k < 133 → zsP D cy a b w u y z k := (zs_s (zs_s (zs_s (zs_s (zs_s (zs_s (zs_s (zs_s (zs_s (zs_s (zs_s (zs_s (zs_s (zs_s (zs_s (zs_s (zs_s (zs_s (zs_s zs_all95 zs_114) zs_115) zs_116) zs_117) zs_118) zs_119) zs_120) zs_121) zs_122) zs_123) zs_124) zs_125) zs_126) zs_127) zs_128) zs_129) zs_130) zs_131) zs_132)
end ZSP
theorem zw_of {D : va_G} {cy : Nat → ClassId} {a b : Nat} {w : Nat → Nat → Nat} {u : Nat → Nat} {y z : Nat} {A : Nat → Prop} {H : Heap} (hP : va_P D vwCl (zSS cy a b w u) H) (hD : va_D A (zSS cy a b w u)) : va_P D vwCl (zw (zad a b w u y z) cy zi0) H ∧ va_D A (zw (zad a b w u y z) cy zi0) := by
  rw [zSS_eq] at hP hD
  have hs := zs_all114 (D := D) (cy := cy) (a := a) (b := b) (w := w) (u := u) (y := y) (z := z)
  have lt : ∀ {k : Nat} {q : Nat × va_E}, (zw (zad a b w u y z) cy zi0)[k]? = some q → k < 133 ∧ q = (zad a b w u y z k, ze (zad a b w u y z) cy zi0 k) := fun {k q} hq => by
    have hk : k < 133 := by
      have := (List.getElem?_eq_some_iff.mp hq).1
      simpa [zw] using this
    rw [zw_at hk] at hq
    exact ⟨hk, (Option.some.inj hq).symm⟩
  refine ⟨fun k q hq => ?_, fun i j p q hi hj hpq => ?_, fun k q hq => ?_⟩
  · obtain ⟨hk, rfl⟩ := lt hq
    obtain ⟨i, e, h1, h2, h3⟩ := hs k hk
    exact h3 H (hP i _ h2)
  · obtain ⟨hi2, rfl⟩ := lt hi
    obtain ⟨hj2, rfl⟩ := lt hj
    obtain ⟨i', e1, h1, h2, -⟩ := hs i hi2
    obtain ⟨j', e2, g1, g2, -⟩ := hs j hj2
    have e : i' = j' := hD.1 i' j' _ _ h2 g2 hpq
    rw [e] at h1
    exact (List.getElem?_inj (List.getElem?_eq_some_iff.mp h1).1 zpl_nd).mp (h1.trans g1.symm)
  · obtain ⟨hk, rfl⟩ := lt hq
    obtain ⟨i, e, h1, h2, -⟩ := hs k hk
    exact hD.2 i (zad a b w u y z k, e) h2
