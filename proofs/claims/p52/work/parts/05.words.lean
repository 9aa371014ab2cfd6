/-! THE WORDS: by tables, and by their places among lw_tbl -/
def zgw1 : List Jvm.Cond := zfl.map (fun e => .fieldLink (zR e.1) e.2.1 (zT e.2.2).1 (zT e.2.2).2.1 (zT e.2.2).2.2.1)
def zgw2 : List Jvm.Cond := zmv.map (fun e => .methodLink (zR e.1) e.2.1 (zname e.2.2))
def zgw3 : List Jvm.Cond := zms.map (fun e => .methodLink (zR e.1) e.2.1 (zname e.2.2))
def zvm : List Nat := [0, 1, 2, 3, 4, 5, 7, 8, 9, 10, 12, 13, 14, 15, 16, 17, 18, 19, 21, 22, 23, 24, 25, 26, 27, 28, 29, 30, 31, 32, 33, 34, 35, 36, 37, 38, 39, 40, 41, 42, 43, 44, 45, 46, 47, 48, 49, 50, 51, 52, 53, 54, 57, 58]
def zsm : List Nat := [6, 11, 20, 55, 56, 59, 60, 61, 62]
def zgw4 : List Jvm.Cond := zvm.map (fun k => .instanceMethod (zname k))
def zgw5 : List Jvm.Cond := zvm.map (fun k => .selects (zname k).cls (zname k) (zname k))
def zgw6 : List Jvm.Cond := zsm.map (fun k => .static (zname k))
def zvs_0 : List Nat := [0, 1, 2, 3, 4, 5, 7, 8, 9, 10, 12, 13]
def zgw7_0 : List Jvm.Cond := zvs_0.map (fun k => .code (zname k) (zcode k) (zml k) (zret k))
def zvs_1 : List Nat := [14, 15, 16, 17, 18, 19, 21, 22, 23, 24, 25, 26]
def zgw7_1 : List Jvm.Cond := zvs_1.map (fun k => .code (zname k) (zcode k) (zml k) (zret k))
def zvs_2 : List Nat := [27, 28, 29, 30, 31, 32, 33, 34, 35, 36, 37, 38]
def zgw7_2 : List Jvm.Cond := zvs_2.map (fun k => .code (zname k) (zcode k) (zml k) (zret k))
def zvs_3 : List Nat := [39, 40, 41, 42, 43, 44, 45, 46, 47, 48, 49, 50]
def zgw7_3 : List Jvm.Cond := zvs_3.map (fun k => .code (zname k) (zcode k) (zml k) (zret k))
def zvs_4 : List Nat := [51, 52, 53, 54, 57, 58, 6, 11, 20, 55, 56, 59]
def zgw7_4 : List Jvm.Cond := zvs_4.map (fun k => .code (zname k) (zcode k) (zml k) (zret k))
def zvs_5 : List Nat := [60, 61, 62]
def zgw7_5 : List Jvm.Cond := zvs_5.map (fun k => .code (zname k) (zcode k) (zml k) (zret k))
def zgw7 : List Jvm.Cond := zgw7_0 ++ (zgw7_1 ++ (zgw7_2 ++ (zgw7_3 ++ (zgw7_4 ++ (zgw7_5)))))
theorem zvs_in : zvm ++ zsm = zvs_0 ++ (zvs_1 ++ (zvs_2 ++ (zvs_3 ++ (zvs_4 ++ (zvs_5))))) := by decide +kernel
def zgw8 : List Jvm.Cond := (List.range 17).map (fun c => .initialized (zR c))
def zgw9 : List Jvm.Cond := (List.range 12).flatMap (fun c => u_ws (zCl c).1 (zCl c).2.1 (zCl c).2.2)
def zgwa : List Jvm.Cond := zcn.map (fun e => .constant (zR e.1) e.2.1 (Int32.ofInt e.2.2)) ++ zlc.map (fun e => .constantLong (zR e.1) e.2.1 (zLc e.2.2))
def zgwc : List Jvm.Cond := zmx.map (fun e => .methodLink (zR e.1) e.2 Lib.Math.max.name) ++ (zmn.map (fun e => .methodLink (zR e.1) e.2 Lib.Math.min.name) ++ [.static Lib.Math.max.name, .static Lib.Math.min.name, .initialized "java/lang/Math", .code Lib.Math.max.name Lib.Math.max.code 2 (some .int), .code Lib.Math.min.name Lib.Math.min.code 2 (some .int)])
def zgwb : List Jvm.Cond := zmc.map (fun e => .methodLink (zR e.1) e.2 arraycopyName) ++ [.native arraycopyName, .static arraycopyName, .initialized "java/lang/System"]
def zgwd : List Jvm.Cond := [.arrayClass .int, .arrayClass .long]
set_option maxRecDepth 100000 in
theorem zgw1_in : GoodIn lw_tbl zgw1 := goodIn_r zgw1 [94, 96, 98, 100, 102, 103, 346, 347, 348, 349, 350, 104, 99, 101, 95, 97, 244, 246, 250, 252, 254, 256, 41, 44, 69, 70, 71, 73, 75, 222, 224, 225, 227, 178, 179, 181, 182, 183, 185, 186, 187, 188, 189, 191, 39, 35, 36, 38, 46, 362, 363, 364, 367, 368, 369, 372, 374, 74, 37, 42, 72, 76, 228, 47, 190, 180, 184, 45, 245, 247, 249, 251, 253, 255, 257, 223, 226] (by decide +kernel) (by decide +kernel)
set_option maxRecDepth 100000 in
theorem zgw2_in : GoodIn lw_tbl zgw2 := goodIn_r zgw2 [496, 513, 517, 622, 639, 447, 474, 548, 552, 556, 586, 590, 410, 418, 426, 430, 439, 451, 455, 463, 470, 481, 485, 492, 500, 531, 535, 565, 543, 569, 582, 595, 599, 618, 635, 644, 652, 661, 443, 402, 527, 539, 561, 573, 578, 648, 657, 591, 609, 604, 613, 631, 640, 414, 422, 434, 459] (by decide +kernel) (by decide +kernel)
set_option maxRecDepth 100000 in
theorem zgw3_in : GoodIn lw_tbl zgw3 := goodIn_r zgw3 [489, 504, 510, 628, 656, 547, 406, 467, 662, 665, 669] (by decide +kernel) (by decide +kernel)
set_option maxRecDepth 100000 in
theorem zgw4_in : GoodIn lw_tbl zgw4 := goodIn_r zgw4 [456, 452, 486, 493, 497, 501, 514, 518, 619, 623, 636, 645, 427, 419, 448, 444, 464, 653, 475, 471, 596, 600, 566, 536, 532, 544, 549, 553, 557, 570, 583, 587, 431, 411, 403, 415, 423, 435, 460, 528, 540, 562, 574, 579, 592, 605, 610, 614, 632, 641, 649, 658, 483, 441] (by decide +kernel) (by decide +kernel)
set_option maxRecDepth 100000 in
theorem zgw5_in : GoodIn lw_tbl zgw5 := goodIn_r zgw5 [457, 453, 487, 494, 498, 502, 515, 519, 620, 624, 637, 646, 428, 420, 449, 445, 465, 654, 476, 472, 597, 601, 567, 537, 533, 545, 550, 554, 558, 571, 584, 588, 432, 412, 404, 416, 424, 436, 461, 529, 541, 563, 575, 580, 593, 606, 611, 615, 633, 642, 650, 659, 1, 0] (by decide +kernel) (by decide +kernel)
set_option maxRecDepth 100000 in
theorem zgw6_in : GoodIn lw_tbl zgw6 := goodIn_r zgw6 [511, 629, 663, 407, 468, 505, 490, 666, 670] (by decide +kernel) (by decide +kernel)
set_option maxRecDepth 100000 in
theorem zgw7_0_in : GoodIn lw_tbl zgw7_0 := goodIn_r zgw7_0 [458, 454, 488, 495, 499, 503, 516, 520, 621, 625, 638, 647] (by decide +kernel) (by decide +kernel)
set_option maxRecDepth 100000 in
theorem zgw7_1_in : GoodIn lw_tbl zgw7_1 := goodIn_r zgw7_1 [429, 421, 450, 446, 466, 655, 477, 473, 598, 602, 568, 538] (by decide +kernel) (by decide +kernel)
set_option maxRecDepth 100000 in
theorem zgw7_2_in : GoodIn lw_tbl zgw7_2 := goodIn_r zgw7_2 [534, 546, 551, 555, 559, 572, 585, 589, 433, 413, 405, 417] (by decide +kernel) (by decide +kernel)
set_option maxRecDepth 100000 in
theorem zgw7_3_in : GoodIn lw_tbl zgw7_3 := goodIn_r zgw7_3 [425, 437, 462, 530, 542, 564, 576, 581, 594, 607, 612, 616] (by decide +kernel) (by decide +kernel)
set_option maxRecDepth 100000 in
theorem zgw7_4_in : GoodIn lw_tbl zgw7_4 := goodIn_r zgw7_4 [634, 643, 651, 660, 484, 442, 512, 630, 664, 408, 469, 506] (by decide +kernel) (by decide +kernel)
set_option maxRecDepth 100000 in
theorem zgw7_5_in : GoodIn lw_tbl zgw7_5 := goodIn_r zgw7_5 [491, 667, 671] (by decide +kernel) (by decide +kernel)
theorem zgw7_in : GoodIn lw_tbl zgw7 := goodIn_app zgw7_0_in (goodIn_app zgw7_1_in (goodIn_app zgw7_2_in (goodIn_app zgw7_3_in (goodIn_app zgw7_4_in zgw7_5_in))))
set_option maxRecDepth 100000 in
theorem zgw8_in : GoodIn lw_tbl zgw8 := goodIn_r zgw8 [12, 8, 13, 6, 7, 14, 11, 5, 10, 9, 4, 3, 3, 2, 18, 16, 15] (by decide +kernel) (by decide +kernel)
set_option maxRecDepth 100000 in
theorem zgw9_in : GoodIn lw_tbl zgw9 := goodIn_r zgw9 [285, 287, 289, 291, 293, 295, 152, 154, 156, 158, 160, 162, 164, 166, 168, 316, 318, 320, 322, 324, 326, 328, 330, 332, 334, 336, 105, 107, 109, 111, 113, 115, 128, 130, 132, 134, 351, 353, 355, 357, 359, 258, 260, 262, 264, 266, 268, 270, 77, 79, 81, 83, 85, 229, 231, 233, 235, 192, 194, 196, 198, 200, 202, 204, 206, 208, 210, 212, 48, 50, 52, 54, 56, 58, 375, 377, 379, 381, 383, 385, 387, 389, 391, 393, 395, 397, 399] (by decide +kernel) (by decide +kernel)
set_option maxRecDepth 100000 in
theorem zgwa_in : GoodIn lw_tbl zgwa := goodIn_r zgwa [409, 438, 577, 668, 672, 673, 507, 508, 509, 617, 674] (by decide +kernel) (by decide +kernel)
set_option maxRecDepth 100000 in
theorem zgwb_in : GoodIn lw_tbl zgwb := goodIn_r zgwb [478, 608, 480, 479, 17] (by decide +kernel) (by decide +kernel)
set_option maxRecDepth 100000 in
theorem zgwc_in : GoodIn lw_tbl zgwc := goodIn_r zgwc [521, 627, 603, 560, 524, 626, 522, 525, 16, 523, 526] (by decide +kernel) (by decide +kernel)
set_option maxRecDepth 100000 in
theorem zgwd_in : GoodIn lw_tbl zgwd := goodIn_r zgwd [61, 339] (by decide +kernel) (by decide +kernel)
def zgw : List Jvm.Cond := zgw1 ++ (zgw2 ++ (zgw3 ++ (zgw4 ++ (zgw5 ++ (zgw6 ++ (zgw7 ++ (zgw8 ++ (zgw9 ++ (zgwa ++ (zgwb ++ (zgwc ++ zgwd)))))))))))
theorem zgw_in : GoodIn lw_tbl zgw := goodIn_app zgw1_in (goodIn_app zgw2_in (goodIn_app zgw3_in (goodIn_app zgw4_in (goodIn_app zgw5_in (goodIn_app zgw6_in (goodIn_app zgw7_in (goodIn_app zgw8_in (goodIn_app zgw9_in (goodIn_app zgwa_in (goodIn_app zgwb_in (goodIn_app zgwc_in zgwd_in)))))))))))
set_option maxRecDepth 100000 in
theorem zmv_ok : ∀ e ∈ zmv, e.2.2 ∈ zvm ∧ e.1 < 17 ∧ zown e.2.2 < 12 := by decide +kernel
set_option maxRecDepth 100000 in
theorem zms_ok : ∀ e ∈ zms, e.2.2 ∈ zsm ∧ e.1 < 17 ∧ zown e.2.2 < 17 := by decide +kernel
set_option maxRecDepth 100000 in
theorem zfl_ok : ∀ e ∈ zfl, e.2.2 / 64 < 12 ∧ e.2.2 % 64 < (zCl (e.2.2 / 64)).2.2 := by decide +kernel
/-- what each method of the table keeps to -/
def zmOK (k : Nat) : Bool := plainName (zname k).cls && decide ((zname k).cls ≠ "java/lang/invoke/MethodHandle") && decide ((zname k).cls ≠ "java/lang/invoke/VarHandle") && decide ((parseMethodDescriptor (zname k).desc).map (fun d => d.parameters.length) = some (znp k)) && decide ((zname k).cls = zR (zown k)) && decide (zml k ≤ 16)
set_option maxRecDepth 100000 in
theorem zmOK_a : ∀ k ∈ zvm ++ zsm, (plainName (zname k).cls) = true := by decide +kernel
set_option maxRecDepth 100000 in
theorem zmOK_b : ∀ k ∈ zvm ++ zsm, (decide ((zname k).cls ≠ "java/lang/invoke/MethodHandle")) = true := by decide +kernel
set_option maxRecDepth 100000 in
theorem zmOK_c : ∀ k ∈ zvm ++ zsm, (decide ((zname k).cls ≠ "java/lang/invoke/VarHandle")) = true := by decide +kernel
set_option maxRecDepth 100000 in
theorem zmOK_d : ∀ k ∈ zvm ++ zsm, (decide ((parseMethodDescriptor (zname k).desc).map (fun d => d.parameters.length) = some (znp k))) = true := by decide +kernel
set_option maxRecDepth 100000 in
theorem zmOK_e : ∀ k ∈ zvm ++ zsm, (decide ((zname k).cls = zR (zown k))) = true := by decide +kernel
set_option maxRecDepth 100000 in
theorem zmOK_f : ∀ k ∈ zvm ++ zsm, (decide (zml k ≤ 16)) = true := by decide +kernel
theorem zmOK_all : ∀ k ∈ zvm ++ zsm, zmOK k = true := fun k h => by
  unfold zmOK
  rw [zmOK_a k h, zmOK_b k h, zmOK_c k h, zmOK_d k h, zmOK_e k h, zmOK_f k h]
  rfl
set_option maxRecDepth 100000 in
theorem zown_lt : ∀ k ∈ zvm ++ zsm, zown k < 17 := by decide +kernel
theorem zgw7_eq : zgw7 = (zvm ++ zsm).map (fun k => .code (zname k) (zcode k) (zml k) (zret k)) := by
  rw [zvs_in]
  simp only [List.map_append]
  rfl
theorem zCl_R : ∀ c, c < 12 → (zCl c).1 = zR c := by decide +kernel
theorem zNf_Cl : ∀ c, c < 12 → zNf c = (zCl c).2.2 := by decide +kernel
theorem zCl_at : ∀ c, c < 12 → vwCl[c]? = some (zCl c) := fun c h => by
  rcases (show c = 0 ∨ c = 1 ∨ c = 2 ∨ c = 3 ∨ c = 4 ∨ c = 5 ∨ c = 6 ∨ c = 7 ∨ c = 8 ∨ c = 9 ∨ c = 10 ∨ c = 11 by omega) with rfl | rfl | rfl | rfl | rfl | rfl | rfl | rfl | rfl | rfl | rfl | rfl <;> rfl
