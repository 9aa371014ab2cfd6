/-! the gaps between held years: the count of closings against the count of openings -/
noncomputable def cif {α : Type} (c : Prop) (a b : α) : α := @ite α c (Classical.propDecidable c) a b
theorem cif_t {α : Type} {c : Prop} {a b : α} (h : c) : cif c a b = a := @if_pos c (Classical.propDecidable c) h α a b
theorem cif_f {α : Type} {c : Prop} {a b : α} (h : ¬ c) : cif c a b = b := @if_neg c (Classical.propDecidable c) h α a b
section GP
variable (H IG : Nat → Prop) (o : Int)
variable {H IG o}
end GP
