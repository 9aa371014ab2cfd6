/-! the holders, on -/
theorem i_sub {x y : Int32} : x - y = x + -y := Int32.sub_eq_add_neg _ _
theorem n_pm {i : Nat} : nI (i + 1) + -nI 1 = nI i := pk_m1 i
theorem n_pm0 : nI 0 + -nI 1 = -nI 1 := rfl
theorem zs_ext {σ τ : zS} (h1 : ∀ c j, σ.1 c j = τ.1 c j) (h2 : ∀ a, σ.2.1 a = τ.2.1 a) (h3 : ∀ a, σ.2.2 a = τ.2.2 a) : σ = τ := Prod.ext (funext fun c => funext fun j => h1 c j) (Prod.ext (funext h2) (funext h3))
theorem zuf_same {σ : zS} {c j : Nat} {x y : Int32} : zuf (zuf σ c j x) c j y = zuf σ c j y := by
  refine zs_ext (fun c' j' => ?_) (fun _ => rfl) (fun _ => rfl)
  rw [zS_uf1, zS_uf1, zS_uf1]
  split <;> rfl
theorem zuf_sw {σ : zS} {c j c' j' : Nat} {x y z : Int32} (h : ¬ (c = c' ∧ j = j')) : zuf (zuf (zuf σ c j x) c' j' y) c j z = zuf (zuf σ c j z) c' j' y := by
  refine zs_ext (fun d i => ?_) (fun _ => rfl) (fun _ => rfl)
  simp only [zS_uf1]
  by_cases q : d = c ∧ i = j
  · have : ¬ (d = c' ∧ i = j') := fun r => h ⟨q.1.symm.trans r.1, q.2.symm.trans r.2⟩
    rw [if_pos q, if_neg this, if_pos q]
  · rw [if_neg q, if_neg q]
    split <;> rfl
theorem zur_same {σ : zS} {a : Nat} {f g : Nat → Int32} : zur (zur σ a f) a g = zur σ a g := by
  refine zs_ext (fun _ _ => rfl) (fun b => ?_) (fun _ => rfl)
  rw [zS_ur2, zS_ur2, zS_ur2]
  split <;> rfl
theorem zur_uf {σ : zS} {a c j : Nat} {f : Nat → Int32} {x : Int32} : zuf (zur σ a f) c j x = zur (zuf σ c j x) a f := rfl
section HO
variable {sc : zX} {σ : zS} {Q : Option Value → zS → Prop}
end HO
