/-! the law, from its entry to its loop -/
theorem dl_0 : decode code 0 = .ok (.new 7, 3) := by decide +kernel
theorem dl_3 : decode code 3 = .ok (.dup, 1) := by decide +kernel
theorem dl_4 : decode code 4 = .ok (.invokespecial 9, 3) := by decide +kernel
theorem dl_7 : decode code 7 = .ok (.astore_n 1, 1) := by decide +kernel
theorem dl_8 : decode code 8 = .ok (.new 10, 3) := by decide +kernel
theorem dl_11 : decode code 11 = .ok (.dup, 1) := by decide +kernel
theorem dl_12 : decode code 12 = .ok (.invokespecial 12, 3) := by decide +kernel
theorem dl_15 : decode code 15 = .ok (.astore_n 2, 1) := by decide +kernel
set_option maxRecDepth 100000 in
theorem gl_11 : GoodIn lw_tbl wsX11_init := goodIn_r wsX11_init [79, 80, 81, 82, 83, 84, 59, 448, 122, 123, 60, 449, 153, 154, 61, 450, 192, 193, 62, 451, 213, 214, 63, 452, 251, 252, 64, 453, 298, 299, 65, 454, 321, 322, 66, 455, 356, 357, 67, 456, 383, 384, 68, 457, 426, 427, 69, 458, 459, 460, 86, 87, 88, 121, 91, 93, 96, 99, 89, 102, 105, 125, 126, 127, 129, 132, 134, 128, 136, 139, 156, 157, 158, 159, 162, 165, 169, 173, 176, 195, 196, 197, 198, 200, 201, 202, 216, 217, 218, 219, 221, 222, 223, 224, 226, 227, 228, 230, 254, 255, 256, 258, 260, 262, 264, 257, 266, 268, 269, 270, 271, 272, 274, 301, 302, 303, 305, 307, 304, 308, 310, 324, 325, 326, 327, 329, 331, 333, 335, 337, 339, 359, 360, 361, 362, 364, 366, 367, 368, 369, 386, 387, 388, 390, 391, 392, 389, 393, 394, 396, 397, 398, 425, 399, 400, 401, 429, 430, 431, 432, 433, 434, 435, 436, 108, 110, 112, 114, 116, 118, 461, 463, 465, 467, 469, 471, 473, 475, 477, 479, 481, 483, 485, 142, 144, 146, 148, 150, 179, 181, 183, 185, 187, 189, 204, 206, 208, 210, 232, 234, 236, 238, 240, 242, 244, 246, 248, 275, 277, 279, 281, 283, 285, 287, 289, 291, 293, 295, 312, 314, 316, 318, 341, 343, 345, 347, 349, 351, 353, 370, 372, 374, 376, 378, 380, 402, 404, 406, 408, 410, 412, 414, 416, 418, 420, 422, 437, 439, 441, 443, 445] (by decide +kernel) (by decide +kernel)
set_option maxRecDepth 100000 in
theorem gl_12 : GoodIn lw_tbl wsX12_init := goodIn_r wsX12_init [1128, 1129, 81, 82, 121, 1134, 1135, 1136, 1138, 1139, 1321, 1140, 1141, 1142, 1143, 1144, 1145, 1146, 1147, 1148, 1149, 1151, 1152, 1153, 1154, 1155, 1157, 1158, 1159, 1162, 1164, 1165, 1166, 1168, 1169, 1170, 1171, 1177, 1178, 1179, 1130, 1180, 1181, 1185, 1186, 1188, 1192, 1193, 1194, 1196, 1198, 1200, 1202, 1204, 1206, 1208, 1210, 1212, 1214, 1216, 1218, 1220, 1222, 1224, 1226, 1228, 1230, 1232, 1234, 1236, 1238, 1240, 1242, 1244, 1246, 1248, 1250, 1252, 1254, 1256, 1258, 1260, 1262, 1264, 1266, 1268, 1270, 1272, 1274, 1276, 1278, 1280, 1282, 1284, 1286, 1288, 1290, 1292, 1294, 1296, 1298, 1300, 1302, 1304, 1306, 1308, 1310, 1312, 1314, 1316, 1318] (by decide +kernel) (by decide +kernel)
theorem li_in : ∀ c, c < 13 → Cond.instantiable (zCl c).1 (zCl c).2.2 ∈ lw_tbl := fun c h => by
  rcases (show c = 0 ∨ c = 1 ∨ c = 2 ∨ c = 3 ∨ c = 4 ∨ c = 5 ∨ c = 6 ∨ c = 7 ∨ c = 8 ∨ c = 9 ∨ c = 10 ∨ c = 11 ∨ c = 12 by omega) with rfl | rfl | rfl | rfl | rfl | rfl | rfl | rfl | rfl | rfl | rfl | rfl | rfl
  · exact (List.mem_append_right _ (List.mem_of_getElem? (i := 300) (by decide +kernel)))
  · exact (List.mem_append_right _ (List.mem_of_getElem? (i := 157) (by decide +kernel)))
  · exact (List.mem_append_right _ (List.mem_of_getElem? (i := 327) (by decide +kernel)))
  · exact (List.mem_append_right _ (List.mem_of_getElem? (i := 97) (by decide +kernel)))
  · exact (List.mem_append_right _ (List.mem_of_getElem? (i := 136) (by decide +kernel)))
  · exact (List.mem_append_right _ (List.mem_of_getElem? (i := 370) (by decide +kernel)))
  · exact (List.mem_append_right _ (List.mem_of_getElem? (i := 265) (by decide +kernel)))
  · exact (List.mem_append_right _ (List.mem_of_getElem? (i := 66) (by decide +kernel)))
  · exact (List.mem_append_right _ (List.mem_of_getElem? (i := 242) (by decide +kernel)))
  · exact (List.mem_append_right _ (List.mem_of_getElem? (i := 195) (by decide +kernel)))
  · exact (List.mem_append_right _ (List.mem_of_getElem? (i := 27) (by decide +kernel)))
  · exact (List.mem_append_right _ (List.mem_of_getElem? (i := 19) (by decide +kernel)))
  · exact (List.mem_append_right _ (List.mem_of_getElem? (i := 1068) (by decide +kernel)))
theorem lu_in {c : Nat} (hc : c < 13) : ∀ w ∈ u_ws (zCl c).1 (zCl c).2.1 (zCl c).2.2, w ∈ lw_tbl := fun w h => (zgw9_in w (List.mem_flatMap.mpr ⟨c, List.mem_range.mpr hc, h⟩)).1
/-- the classes and the arrays' classes -/
theorem lk_all {args : Array Value} {s : State} (hts : ∀ w ∈ lw_tbl, w.before args s = true) : ∃ (D : va_G) (cy : Nat → ClassId), iS D cy s := by
  have h1 : ∀ c, ∃ p : ClassId × (Nat → Nat), c < 13 → u_Kn s (zCl c).1 (zCl c).2.1 (zCl c).2.2 p.1 p.2 := fun c => by
    by_cases hc : c < 13
    · obtain ⟨cC, i, h⟩ := u_known (C := (zCl c).1) (T := (zCl c).2.1) (N := (zCl c).2.2) hts (lu_in hc) (hts _ (li_in c hc))
      exact ⟨(cC, i), fun _ => h⟩
    · exact ⟨(0, fun _ => 0), fun h => absurd h hc⟩
  obtain ⟨f, hf⟩ : ∃ f : Nat → ClassId × (Nat → Nat), ∀ c, c < 13 → u_Kn s (zCl c).1 (zCl c).2.1 (zCl c).2.2 (f c).1 (f c).2 := ⟨fun c => Classical.choose (h1 c), fun c => Classical.choose_spec (h1 c)⟩
  obtain ⟨c0, k0, m0, a1, a2, a3⟩ := Cond.arrayClass_spec (hts (.arrayClass .int) (List.mem_append_right _ (List.mem_of_getElem? (i := 64) (by decide +kernel))))
  obtain ⟨c1, k1, m1, b1, b2, b3⟩ := Cond.arrayClass_spec (hts (.arrayClass .boolean) (List.mem_append_right _ (List.mem_of_getElem? (i := 1264) (by decide +kernel))))
  obtain ⟨c2, k2, m2, e1, e2, e3⟩ := Cond.arrayClass_spec (hts (.arrayClass .long) (List.mem_append_right _ (List.mem_of_getElem? (i := 368) (by decide +kernel))))
  obtain ⟨m3, c3, k3, g1, g2, g3, g4⟩ := mw_over (hts (.arrayOver (.array .int)) (List.mem_append_right _ (List.mem_of_getElem? (i := 33) (by decide +kernel))))
  have hm : m3 = c0 := Option.some.inj (g1.symm.trans a1)
  subst hm
  refine ⟨(fun c => (f c).1, fun c => (f c).2), fun k => if k = 0 then m3 else if k = 1 then c1 else if k = 2 then c2 else c3, ⟨fun c q hq => ?_, fun k q hq => ?_⟩, k3, g2, g3⟩
  · have hc : c < 13 := (List.getElem?_eq_some_iff.mp hq).1
    rw [zCl_at c hc] at hq
    cases hq
    exact hf c hc
  · match k, hq with
    | 0, hq => cases hq; exact ⟨fun n z => ⟨fun k h => (by cases h), k0, a2, m0, a3⟩, a1⟩
    | 1, hq => cases hq; exact ⟨fun n z => ⟨fun k h => (by cases h), k1, b2, m1, b3⟩, b1⟩
    | 2, hq => cases hq; exact ⟨fun n z => ⟨fun k h => (by cases h), k2, e2, m2, e3⟩, e1⟩
    | 3, hq => cases hq; exact ⟨fun n z => ⟨fun k h => (by cases h), k3, g2, m3, g3⟩, g4⟩
    | k + 4, hq => simp [ztys] at hq
/-- the static row -/
theorem lz_row {args : Array Value} {s : State} {A : Nat → Prop} (hts : ∀ w ∈ lw_tbl, w.before args s = true) (hg : (Jvm.Cond.and given_1 narrow_1).before args s = true) (hA : ∀ a : Nat, a < s.heap.size → ¬ A a) : ∃ t : Nat, va_Z "LentFiddles$Lendings" "PLACE_WEIGHTS" "[J" (.ref t) A s s.heap ∧ va_T .long t 10 (fun j => .long (zpw j)) A s s.heap := by
  have hs := flat_of_before _ hg
  obtain ⟨t, h1, h2⟩ := va_Tof (tm := .static "LentFiddles$Lendings" "PLACE_WEIGHTS" "[J") (ty := .long) (N := 10) (f := fun j => .long (zpw j)) (A := A) (by decide) (hs _ (by decide +kernel)) (va_eqt (hs _ (by decide +kernel))) (fun j hj => by
    rcases (show j = 0 ∨ j = 1 ∨ j = 2 ∨ j = 3 ∨ j = 4 ∨ j = 5 ∨ j = 6 ∨ j = 7 ∨ j = 8 ∨ j = 9 by omega) with rfl | rfl | rfl | rfl | rfl | rfl | rfl | rfl | rfl | rfl <;> exact va_eqtl (hs _ (by decide +kernel))) hA
  exact ⟨t, va_Zof (hts _ (List.mem_append_right _ (List.mem_of_getElem? (i := 532) (by decide +kernel)))) (hts (.initialized "LentFiddles$Lendings") (List.mem_append_right _ (List.mem_of_getElem? (i := 11) (by decide +kernel)))) h1 hA, h2⟩
