/-! the law, from its entry to its first block -/
theorem dl_0 : decode code 0 = .ok (.new 9, 3) := by decide +kernel
theorem dl_3 : decode code 3 = .ok (.dup, 1) := by decide +kernel
theorem dl_4 : decode code 4 = .ok (.invokespecial 11, 3) := by decide +kernel
theorem dl_7 : decode code 7 = .ok (.astore_n 1, 1) := by decide +kernel
set_option maxRecDepth 100000 in
theorem gl_11 : GoodIn lw_tbl wsX11_init := goodIn_r wsX11_init [23, 24, 25, 26, 27, 28, 4, 362, 62, 63, 5, 363, 88, 89, 6, 364, 118, 119, 7, 365, 137, 138, 8, 366, 171, 172, 9, 367, 215, 216, 10, 368, 238, 239, 11, 369, 273, 274, 12, 370, 298, 299, 13, 371, 340, 341, 14, 372, 373, 374, 30, 31, 32, 61, 35, 36, 38, 40, 33, 43, 46, 65, 66, 67, 69, 70, 71, 68, 73, 75, 91, 92, 93, 94, 96, 98, 100, 102, 103, 121, 122, 123, 124, 125, 126, 127, 140, 141, 142, 143, 144, 145, 146, 147, 148, 149, 150, 151, 174, 175, 176, 178, 179, 181, 182, 177, 183, 185, 186, 187, 188, 189, 191, 218, 219, 220, 222, 224, 221, 225, 227, 241, 242, 243, 244, 246, 248, 250, 252, 254, 256, 276, 277, 278, 279, 280, 281, 282, 283, 284, 301, 302, 303, 305, 306, 307, 304, 308, 309, 310, 311, 312, 339, 313, 314, 315, 343, 344, 345, 346, 347, 348, 349, 350, 48, 50, 52, 54, 56, 58, 375, 377, 379, 381, 383, 385, 387, 389, 391, 393, 395, 397, 399, 77, 79, 81, 83, 85, 105, 107, 109, 111, 113, 115, 128, 130, 132, 134, 152, 154, 156, 158, 160, 162, 164, 166, 168, 192, 194, 196, 198, 200, 202, 204, 206, 208, 210, 212, 229, 231, 233, 235, 258, 260, 262, 264, 266, 268, 270, 285, 287, 289, 291, 293, 295, 316, 318, 320, 322, 324, 326, 328, 330, 332, 334, 336, 351, 353, 355, 357, 359] (by decide +kernel) (by decide +kernel)
theorem li_in : ∀ c, c < 12 → Cond.instantiable (zCl c).1 (zCl c).2.2 ∈ lw_tbl := fun c h => by
  rcases (show c = 0 ∨ c = 1 ∨ c = 2 ∨ c = 3 ∨ c = 4 ∨ c = 5 ∨ c = 6 ∨ c = 7 ∨ c = 8 ∨ c = 9 ∨ c = 10 ∨ c = 11 by omega) with rfl | rfl | rfl | rfl | rfl | rfl | rfl | rfl | rfl | rfl | rfl | rfl
  · exact (List.mem_append_right _ (List.mem_of_getElem? (i := 272) (by decide +kernel)))
  · exact (List.mem_append_right _ (List.mem_of_getElem? (i := 136) (by decide +kernel)))
  · exact (List.mem_append_right _ (List.mem_of_getElem? (i := 297) (by decide +kernel)))
  · exact (List.mem_append_right _ (List.mem_of_getElem? (i := 87) (by decide +kernel)))
  · exact (List.mem_append_right _ (List.mem_of_getElem? (i := 117) (by decide +kernel)))
  · exact (List.mem_append_right _ (List.mem_of_getElem? (i := 339) (by decide +kernel)))
  · exact (List.mem_append_right _ (List.mem_of_getElem? (i := 237) (by decide +kernel)))
  · exact (List.mem_append_right _ (List.mem_of_getElem? (i := 61) (by decide +kernel)))
  · exact (List.mem_append_right _ (List.mem_of_getElem? (i := 214) (by decide +kernel)))
  · exact (List.mem_append_right _ (List.mem_of_getElem? (i := 170) (by decide +kernel)))
  · exact (List.mem_append_right _ (List.mem_of_getElem? (i := 26) (by decide +kernel)))
  · exact (List.mem_append_right _ (List.mem_of_getElem? (i := 18) (by decide +kernel)))
theorem lu_in {c : Nat} (hc : c < 12) : ∀ w ∈ u_ws (zCl c).1 (zCl c).2.1 (zCl c).2.2, w ∈ lw_tbl := fun w h => (zgw9_in w (List.mem_flatMap.mpr ⟨c, List.mem_range.mpr hc, h⟩)).1
/-- the classes and the arrays' classes -/
theorem lk_all {args : Array Value} {s : State} (hts : ∀ w ∈ lw_tbl, w.before args s = true) : ∃ (D : va_G) (cy : Nat → ClassId), iS D cy s := by
  have h1 : ∀ c, ∃ p : ClassId × (Nat → Nat), c < 12 → u_Kn s (zCl c).1 (zCl c).2.1 (zCl c).2.2 p.1 p.2 := fun c => by
    by_cases hc : c < 12
    · obtain ⟨cC, i, h⟩ := u_known (C := (zCl c).1) (T := (zCl c).2.1) (N := (zCl c).2.2) hts (lu_in hc) (hts _ (li_in c hc))
      exact ⟨(cC, i), fun _ => h⟩
    · exact ⟨(0, fun _ => 0), fun h => absurd h hc⟩
  obtain ⟨f, hf⟩ : ∃ f : Nat → ClassId × (Nat → Nat), ∀ c, c < 12 → u_Kn s (zCl c).1 (zCl c).2.1 (zCl c).2.2 (f c).1 (f c).2 := ⟨fun c => Classical.choose (h1 c), fun c => Classical.choose_spec (h1 c)⟩
  obtain ⟨c0, k0, m0, a1, a2, a3⟩ := Cond.arrayClass_spec (hts (.arrayClass .int) (List.mem_append_right _ (List.mem_of_getElem? (i := 59) (by decide +kernel))))
  obtain ⟨c2, k2, m2, e1, e2, e3⟩ := Cond.arrayClass_spec (hts (.arrayClass .long) (List.mem_append_right _ (List.mem_of_getElem? (i := 337) (by decide +kernel))))
  obtain ⟨m3, c3, k3, g1, g2, g3, g4⟩ := mw_over (hts (.arrayOver (.array .int)) (List.mem_append_right _ (List.mem_of_getElem? (i := 32) (by decide +kernel))))
  have hm : m3 = c0 := Option.some.inj (g1.symm.trans a1)
  subst hm
  refine ⟨(fun c => (f c).1, fun c => (f c).2), fun k => if k = 0 then m3 else if k = 2 then c2 else c3, ⟨fun c q hq => ?_, fun k q hq => ?_⟩, k3, g2, g3⟩
  · have hc : c < 12 := (List.getElem?_eq_some_iff.mp hq).1
    rw [zCl_at c hc] at hq
    cases hq
    exact hf c hc
  · match k, hq with
    | 0, hq => cases hq; exact ⟨fun n z => ⟨fun k h => (by cases h), k0, a2, m0, a3⟩, a1⟩
    | 1, hq => cases hq; exact ⟨fun n z => ⟨fun k h => (by cases h), k0, a2, m0, a3⟩, a1⟩
    | 2, hq => cases hq; exact ⟨fun n z => ⟨fun k h => (by cases h), k2, e2, m2, e3⟩, e1⟩
    | 3, hq => cases hq; exact ⟨fun n z => ⟨fun k h => (by cases h), k3, g2, m3, g3⟩, g4⟩
    | k + 4, hq => simp [ztys] at hq
