def lw_okq (q : MethodName × Nat) : Prop := (q.1.cls ≠ "java/lang/invoke/MethodHandle" ∧ q.1.cls ≠ "java/lang/invoke/VarHandle") ∧ Cond.instantiable q.1.cls q.2 ∈ tables_1 ∧ Cond.privateMethod q.1 ∈ tables_1 ∧ Cond.instanceMethod q.1 ∈ tables_1
theorem lw_p0 : lw_okq (⟨"LentFiddles", "mayHave", "(II)Z"⟩, 13) := ⟨⟨by decide +kernel, by decide +kernel⟩, List.mem_of_getElem? (i := 18) (by decide +kernel), List.mem_of_getElem? (i := 438) (by decide +kernel), List.mem_of_getElem? (i := 439) (by decide +kernel)⟩
theorem lw_p1 : lw_okq (⟨"LentFiddles", "met", "(I)I"⟩, 13) := ⟨⟨by decide +kernel, by decide +kernel⟩, List.mem_of_getElem? (i := 18) (by decide +kernel), List.mem_of_getElem? (i := 480) (by decide +kernel), List.mem_of_getElem? (i := 481) (by decide +kernel)⟩
def lw_privs_1 : List (MethodName × Nat) := [(⟨"LentFiddles", "mayHave", "(II)Z"⟩, 13), (⟨"LentFiddles", "met", "(I)I"⟩, 13)]
theorem lw_r1 : ∀ q ∈ lw_privs_1, lw_okq q := List.forall_mem_cons.mpr ⟨lw_p0, List.forall_mem_cons.mpr ⟨lw_p1, fun _ h => absurd h List.not_mem_nil⟩⟩
def lw_privs : List (MethodName × Nat) := lw_privs_1
def lw_tbl : List Cond := k2_sels lw_privs ++ tables_1
theorem lw_privs_ok : ∀ q ∈ lw_privs, lw_okq q := lw_r1
theorem goodIn_r {big : List Cond} (ws : List Cond) (ps : List Nat) (hp : ws = ps.filterMap (fun i => big[i]?)) (h : ws.all goodWord = true) : GoodIn big ws := by
  intro w hw
  have h1 := List.all_eq_true.mp h w hw
  rw [hp] at hw
  obtain ⟨i, -, hi⟩ := List.mem_filterMap.mp hw
  have hm : w ∈ big := by first | exact List.mem_of_getElem? hi | exact List.getElem?_mem hi
  exact ⟨hm, good_of_word h1⟩
theorem goodIn_app {big a b : List Cond} (ha : GoodIn big a) (hb : GoodIn big b) : GoodIn big (a ++ b) := fun w h => (List.mem_append.mp h).elim (ha w) (hb w)
theorem goodIn_ca {big a b : List Cond} {c : Cond} (ha : GoodIn big (c :: a)) (hb : GoodIn big b) : GoodIn big (c :: (a ++ b)) := fun w h => (List.mem_cons.mp h).elim (fun e => ha w (List.mem_cons.mpr (Or.inl e))) (fun h => (List.mem_append.mp h).elim (fun h => ha w (List.mem_cons.mpr (Or.inr h))) (hb w))
theorem goodIn_sub {big ws : List Cond} (hm : ∀ w ∈ ws, w ∈ big) (h : ws.all goodWord = true) : GoodIn big ws := fun w hw => ⟨hm w hw, good_of_word (List.all_eq_true.mp h w hw)⟩
def RX0 : String := "LentFiddles$Contract"
def TX0 : u_T := fun k => match k with
  | 0 => ("LentFiddles$Contract", "numbers", "[I", true)
  | 1 => ("LentFiddles$Contract", "count", "I", false)
  | 2 => ("LentFiddles$Contract", "draft", "[I", true)
  | 3 => ("LentFiddles$Contract", "draftCount", "I", false)
  | 4 => ("LentFiddles$Contract", "letter", "I", false)
  | _ => ("LentFiddles$Contract", "digits", "I", false)
def tyX0 : Nat → FieldType := fun k => match k with
  | 0 => .array .int
  | 1 => .int
  | 2 => .array .int
  | 3 => .int
  | 4 => .int
  | _ => .int
abbrev wsX00 : List Cond := u_ws RX0 TX0 6
theorem nmX0 : ∀ a, a < 6 → ∀ b, b < 6 → a ≠ b → (TX0 a).2.1 ≠ (TX0 b).2.1 := by decide +kernel
theorem tyX0_ok : ∀ k, k < 6 → parseFieldDescriptor (TX0 k).2.2.1 = some (tyX0 k) := by decide +kernel
abbrev cX0_init : ByteArray := prog_2_method_1_code
def yX0_init : MethodName := ⟨RX0, "<init>", "()V"⟩
def RX1 : String := "LentFiddles$Holders"
def TX1 : u_T := fun k => match k with
  | 0 => ("LentFiddles$Holders", "violin", "[I", true)
  | 1 => ("LentFiddles$Holders", "name", "[I", true)
  | 2 => ("LentFiddles$Holders", "from", "[I", true)
  | 3 => ("LentFiddles$Holders", "to", "[I", true)
  | 4 => ("LentFiddles$Holders", "count", "I", false)
  | 5 => ("LentFiddles$Holders", "changes", "[I", true)
  | 6 => ("LentFiddles$Holders", "gapCount", "I", false)
  | 7 => ("LentFiddles$Holders", "gapFrom", "I", false)
  | _ => ("LentFiddles$Holders", "gapTo", "I", false)
def tyX1 : Nat → FieldType := fun k => match k with
  | 0 => .array .int
  | 1 => .array .int
  | 2 => .array .int
  | 3 => .array .int
  | 4 => .int
  | 5 => .array .int
  | 6 => .int
  | 7 => .int
  | _ => .int
abbrev wsX10 : List Cond := u_ws RX1 TX1 9
theorem nmX1 : ∀ a, a < 9 → ∀ b, b < 9 → a ≠ b → (TX1 a).2.1 ≠ (TX1 b).2.1 := by decide +kernel
theorem tyX1_ok : ∀ k, k < 9 → parseFieldDescriptor (TX1 k).2.2.1 = some (tyX1 k) := by decide +kernel
abbrev cX1_init : ByteArray := prog_3_method_1_code
def yX1_init : MethodName := ⟨RX1, "<init>", "()V"⟩
def RX2 : String := "LentFiddles$Lendings"
def TX2 : u_T := fun k => match k with
  | 0 => ("LentFiddles$Lendings", "playerCount", "I", false)
  | 1 => ("LentFiddles$Lendings", "violinCount", "I", false)
  | 2 => ("LentFiddles$Lendings", "rank", "[I", true)
  | 3 => ("LentFiddles$Lendings", "liking", "[[I", true)
  | 4 => ("LentFiddles$Lendings", "violinOf", "[I", true)
  | 5 => ("LentFiddles$Lendings", "playerOf", "[I", true)
  | 6 => ("LentFiddles$Lendings", "sitter", "[I", true)
  | 7 => ("LentFiddles$Lendings", "cameFrom", "[I", true)
  | 8 => ("LentFiddles$Lendings", "slack", "[J", true)
  | 9 => ("LentFiddles$Lendings", "seatPrice", "[J", true)
  | _ => ("LentFiddles$Lendings", "playerPrice", "[J", true)
def tyX2 : Nat → FieldType := fun k => match k with
  | 0 => .int
  | 1 => .int
  | 2 => .array .int
  | 3 => .array (.array .int)
  | 4 => .array .int
  | 5 => .array .int
  | 6 => .array .int
  | 7 => .array .int
  | 8 => .array .long
  | 9 => .array .long
  | _ => .array .long
abbrev wsX20 : List Cond := u_ws RX2 TX2 11
theorem nmX2 : ∀ a, a < 11 → ∀ b, b < 11 → a ≠ b → (TX2 a).2.1 ≠ (TX2 b).2.1 := by decide +kernel
theorem tyX2_ok : ∀ k, k < 11 → parseFieldDescriptor (TX2 k).2.2.1 = some (tyX2 k) := by decide +kernel
abbrev cX2_init : ByteArray := prog_4_method_1_code
def yX2_init : MethodName := ⟨RX2, "<init>", "()V"⟩
def RX3 : String := "LentFiddles$Loans"
def TX3 : u_T := fun k => match k with
  | 0 => ("LentFiddles$Loans", "player", "[I", true)
  | 1 => ("LentFiddles$Loans", "violin", "[I", true)
  | 2 => ("LentFiddles$Loans", "from", "[I", true)
  | 3 => ("LentFiddles$Loans", "to", "[I", true)
  | 4 => ("LentFiddles$Loans", "warning", "[I", true)
  | _ => ("LentFiddles$Loans", "count", "I", false)
def tyX3 : Nat → FieldType := fun k => match k with
  | 0 => .array .int
  | 1 => .array .int
  | 2 => .array .int
  | 3 => .array .int
  | 4 => .array .int
  | _ => .int
abbrev wsX30 : List Cond := u_ws RX3 TX3 6
theorem nmX3 : ∀ a, a < 6 → ∀ b, b < 6 → a ≠ b → (TX3 a).2.1 ≠ (TX3 b).2.1 := by decide +kernel
theorem tyX3_ok : ∀ k, k < 6 → parseFieldDescriptor (TX3 k).2.2.1 = some (tyX3 k) := by decide +kernel
abbrev cX3_init : ByteArray := prog_5_method_1_code
def yX3_init : MethodName := ⟨RX3, "<init>", "()V"⟩
abbrev cX3_add : ByteArray := prog_5_method_3_code
def yX3_add : MethodName := ⟨RX3, "add", "(IIII)I"⟩
abbrev cX3_sharesDay : ByteArray := prog_5_method_4_code
def yX3_sharesDay : MethodName := ⟨RX3, "sharesDay", "(IIII)Z"⟩
def RX4 : String := "LentFiddles$Looks"
def TX4 : u_T := fun k => match k with
  | 0 => ("LentFiddles$Looks", "violin", "[I", true)
  | 1 => ("LentFiddles$Looks", "day", "[I", true)
  | 2 => ("LentFiddles$Looks", "cracks", "[I", true)
  | _ => ("LentFiddles$Looks", "count", "I", false)
def tyX4 : Nat → FieldType := fun k => match k with
  | 0 => .array .int
  | 1 => .array .int
  | 2 => .array .int
  | _ => .int
abbrev wsX40 : List Cond := u_ws RX4 TX4 4
theorem nmX4 : ∀ a, a < 4 → ∀ b, b < 4 → a ≠ b → (TX4 a).2.1 ≠ (TX4 b).2.1 := by decide +kernel
theorem tyX4_ok : ∀ k, k < 4 → parseFieldDescriptor (TX4 k).2.2.1 = some (tyX4 k) := by decide +kernel
abbrev cX4_init : ByteArray := prog_6_method_1_code
def yX4_init : MethodName := ⟨RX4, "<init>", "()V"⟩
def RX5 : String := "LentFiddles$Moves"
def TX5 : u_T := fun k => match k with
  | 0 => ("LentFiddles$Moves", "violinOf", "[I", true)
  | 1 => ("LentFiddles$Moves", "playerOf", "[I", true)
  | 2 => ("LentFiddles$Moves", "givers", "I", false)
  | 3 => ("LentFiddles$Moves", "waitsFor", "[I", true)
  | _ => ("LentFiddles$Moves", "getCount", "I", false)
def tyX5 : Nat → FieldType := fun k => match k with
  | 0 => .array .int
  | 1 => .array .int
  | 2 => .int
  | 3 => .array .int
  | _ => .int
abbrev wsX50 : List Cond := u_ws RX5 TX5 5
theorem nmX5 : ∀ a, a < 5 → ∀ b, b < 5 → a ≠ b → (TX5 a).2.1 ≠ (TX5 b).2.1 := by decide +kernel
theorem tyX5_ok : ∀ k, k < 5 → parseFieldDescriptor (TX5 k).2.2.1 = some (tyX5 k) := by decide +kernel
abbrev cX5_init : ByteArray := prog_7_method_1_code
def yX5_init : MethodName := ⟨RX5, "<init>", "()V"⟩
abbrev cX5_readHands : ByteArray := prog_7_method_2_code
def yX5_readHands : MethodName := ⟨RX5, "readHands", "(LLentFiddles$Loans;I)V"⟩
abbrev cX5_want : ByteArray := prog_7_method_3_code
def yX5_want : MethodName := ⟨RX5, "want", "([III)Z"⟩
abbrev cX5_addGet : ByteArray := prog_7_method_4_code
def yX5_addGet : MethodName := ⟨RX5, "addGet", "(II)V"⟩
abbrev cX5_fewestDays : ByteArray := prog_7_method_5_code
def yX5_fewestDays : MethodName := ⟨RX5, "fewestDays", "(I)I"⟩
abbrev cX5_daysFor : ByteArray := prog_7_method_6_code
def yX5_daysFor : MethodName := ⟨RX5, "daysFor", "(II)I"⟩
abbrev cX5_mostReadyAfter : ByteArray := prog_7_method_7_code
def yX5_mostReadyAfter : MethodName := ⟨RX5, "mostReadyAfter", "(I)I"⟩
abbrev cX5_readyAfter : ByteArray := prog_7_method_8_code
def yX5_readyAfter : MethodName := ⟨RX5, "readyAfter", "(I)I"⟩
def RX6 : String := "LentFiddles$Oak"
def TX6 : u_T := fun k => match k with
  | 0 => ("LentFiddles$Oak", "widths", "[I", true)
  | 1 => ("LentFiddles$Oak", "count", "I", false)
  | 2 => ("LentFiddles$Oak", "start", "I", false)
  | 3 => ("LentFiddles$Oak", "agreeing", "I", false)
  | 4 => ("LentFiddles$Oak", "unlike", "I", false)
  | 5 => ("LentFiddles$Oak", "bestPlace", "I", false)
  | _ => ("LentFiddles$Oak", "bestMatch", "I", false)
def tyX6 : Nat → FieldType := fun k => match k with
  | 0 => .array .int
  | 1 => .int
  | 2 => .int
  | 3 => .int
  | 4 => .int
  | 5 => .int
  | _ => .int
abbrev wsX60 : List Cond := u_ws RX6 TX6 7
theorem nmX6 : ∀ a, a < 7 → ∀ b, b < 7 → a ≠ b → (TX6 a).2.1 ≠ (TX6 b).2.1 := by decide +kernel
theorem tyX6_ok : ∀ k, k < 7 → parseFieldDescriptor (TX6 k).2.2.1 = some (tyX6 k) := by decide +kernel
abbrev cX6_init : ByteArray := prog_8_method_1_code
def yX6_init : MethodName := ⟨RX6, "<init>", "()V"⟩
abbrev cX6_lay : ByteArray := prog_8_method_2_code
def yX6_lay : MethodName := ⟨RX6, "lay", "([III)V"⟩
abbrev cX6_layOn : ByteArray := prog_8_method_3_code
def yX6_layOn : MethodName := ⟨RX6, "layOn", "([III[II)V"⟩
abbrev cX6_rise : ByteArray := prog_8_method_4_code
def yX6_rise : MethodName := ⟨RX6, "rise", "([II)I"⟩
abbrev cX6_findBest : ByteArray := prog_8_method_5_code
def yX6_findBest : MethodName := ⟨RX6, "findBest", "([II)Z"⟩
abbrev cX6_growsLike : ByteArray := prog_8_method_6_code
def yX6_growsLike : MethodName := ⟨RX6, "growsLike", "(LLentFiddles$Violins;II)Z"⟩
def RX7 : String := "LentFiddles$Players"
def TX7 : u_T := fun k => match k with
  | 0 => ("LentFiddles$Players", "ranks", "[I", true)
  | 1 => ("LentFiddles$Players", "toldMakers", "[I", true)
  | 2 => ("LentFiddles$Players", "lentMakers", "[I", true)
  | 3 => ("LentFiddles$Players", "trials", "[[I", true)
  | _ => ("LentFiddles$Players", "count", "I", false)
def tyX7 : Nat → FieldType := fun k => match k with
  | 0 => .array .int
  | 1 => .array .int
  | 2 => .array .int
  | 3 => .array (.array .int)
  | _ => .int
abbrev wsX70 : List Cond := u_ws RX7 TX7 5
theorem nmX7 : ∀ a, a < 5 → ∀ b, b < 5 → a ≠ b → (TX7 a).2.1 ≠ (TX7 b).2.1 := by decide +kernel
theorem tyX7_ok : ∀ k, k < 5 → parseFieldDescriptor (TX7 k).2.2.1 = some (tyX7 k) := by decide +kernel
abbrev cX7_init : ByteArray := prog_9_method_1_code
def yX7_init : MethodName := ⟨RX7, "<init>", "()V"⟩
abbrev cX7_knows : ByteArray := prog_9_method_2_code
def yX7_knows : MethodName := ⟨RX7, "knows", "(I)Z"⟩
abbrev cX7_add : ByteArray := prog_9_method_3_code
def yX7_add : MethodName := ⟨RX7, "add", "(I)I"⟩
abbrev cX7_hadMakers : ByteArray := prog_9_method_4_code
def yX7_hadMakers : MethodName := ⟨RX7, "hadMakers", "(I)I"⟩
abbrev cX7_mayHave : ByteArray := prog_9_method_5_code
def yX7_mayHave : MethodName := ⟨RX7, "mayHave", "(III)Z"⟩
def RX8 : String := "LentFiddles$Sheets"
def TX8 : u_T := fun k => match k with
  | 0 => ("LentFiddles$Sheets", "lanes", "[I", true)
  | 1 => ("LentFiddles$Sheets", "lengths", "[I", true)
  | 2 => ("LentFiddles$Sheets", "cells", "[[I", true)
  | _ => ("LentFiddles$Sheets", "taken", "[I", true)
def tyX8 : Nat → FieldType := fun k => match k with
  | 0 => .array .int
  | 1 => .array .int
  | 2 => .array (.array .int)
  | _ => .array .int
abbrev wsX80 : List Cond := u_ws RX8 TX8 4
theorem nmX8 : ∀ a, a < 4 → ∀ b, b < 4 → a ≠ b → (TX8 a).2.1 ≠ (TX8 b).2.1 := by decide +kernel
theorem tyX8_ok : ∀ k, k < 4 → parseFieldDescriptor (TX8 k).2.2.1 = some (tyX8 k) := by decide +kernel
abbrev cX8_init : ByteArray := prog_10_method_1_code
def yX8_init : MethodName := ⟨RX8, "<init>", "()V"⟩
abbrev cX8_knows : ByteArray := prog_10_method_2_code
def yX8_knows : MethodName := ⟨RX8, "knows", "(I)Z"⟩
abbrev cX8_renew : ByteArray := prog_10_method_3_code
def yX8_renew : MethodName := ⟨RX8, "renew", "(III)V"⟩
abbrev cX8_cutTo : ByteArray := prog_10_method_4_code
def yX8_cutTo : MethodName := ⟨RX8, "cutTo", "(II)I"⟩
abbrev cX8_missing : ByteArray := prog_10_method_5_code
def yX8_missing : MethodName := ⟨RX8, "missing", "(III)I"⟩
abbrev cX8_take : ByteArray := prog_10_method_6_code
def yX8_take : MethodName := ⟨RX8, "take", "(IIII)I"⟩
abbrev cX8_takenWithin : ByteArray := prog_10_method_7_code
def yX8_takenWithin : MethodName := ⟨RX8, "takenWithin", "(III)Z"⟩
abbrev cX8_longestRun : ByteArray := prog_10_method_8_code
def yX8_longestRun : MethodName := ⟨RX8, "longestRun", "(IIIZ)I"⟩
def RX9 : String := "LentFiddles$Trips"
def TX9 : u_T := fun k => match k with
  | 0 => ("LentFiddles$Trips", "violin", "[I", true)
  | 1 => ("LentFiddles$Trips", "day", "[I", true)
  | 2 => ("LentFiddles$Trips", "told", "[I", true)
  | 3 => ("LentFiddles$Trips", "count", "I", false)
  | 4 => ("LentFiddles$Trips", "mostRisk", "I", false)
  | 5 => ("LentFiddles$Trips", "loads", "[I", true)
  | 6 => ("LentFiddles$Trips", "freeWorth", "I", false)
  | 7 => ("LentFiddles$Trips", "freeCount", "I", false)
  | 8 => ("LentFiddles$Trips", "fixedWorth", "[I", true)
  | 9 => ("LentFiddles$Trips", "leastRisk", "I", false)
  | _ => ("LentFiddles$Trips", "bestChoice", "I", false)
def tyX9 : Nat → FieldType := fun k => match k with
  | 0 => .array .int
  | 1 => .array .int
  | 2 => .array .int
  | 3 => .int
  | 4 => .int
  | 5 => .array .int
  | 6 => .int
  | 7 => .int
  | 8 => .array .int
  | 9 => .int
  | _ => .int
abbrev wsX90 : List Cond := u_ws RX9 TX9 11
theorem nmX9 : ∀ a, a < 11 → ∀ b, b < 11 → a ≠ b → (TX9 a).2.1 ≠ (TX9 b).2.1 := by decide +kernel
theorem tyX9_ok : ∀ k, k < 11 → parseFieldDescriptor (TX9 k).2.2.1 = some (tyX9 k) := by decide +kernel
abbrev cX9_init : ByteArray := prog_11_method_1_code
def yX9_init : MethodName := ⟨RX9, "<init>", "()V"⟩
abbrev cX9_knows : ByteArray := prog_11_method_2_code
def yX9_knows : MethodName := ⟨RX9, "knows", "(I)Z"⟩
abbrev cX9_add : ByteArray := prog_11_method_3_code
def yX9_add : MethodName := ⟨RX9, "add", "(III)I"⟩
abbrev cX9_countBetween : ByteArray := prog_11_method_4_code
def yX9_countBetween : MethodName := ⟨RX9, "countBetween", "(III)I"⟩
abbrev cX9_weigh : ByteArray := prog_11_method_5_code
def yX9_weigh : MethodName := ⟨RX9, "weigh", "(ILLentFiddles$Violins;)V"⟩
abbrev cX9_addFree : ByteArray := prog_11_method_6_code
def yX9_addFree : MethodName := ⟨RX9, "addFree", "(I)V"⟩
abbrev cX9_choose : ByteArray := prog_11_method_7_code
def yX9_choose : MethodName := ⟨RX9, "choose", "()V"⟩
abbrev cX9_riskOf : ByteArray := prog_11_method_8_code
def yX9_riskOf : MethodName := ⟨RX9, "riskOf", "(I)I"⟩
abbrev cX9_planeOf : ByteArray := prog_11_method_9_code
def yX9_planeOf : MethodName := ⟨RX9, "planeOf", "(I)I"⟩
abbrev cX9_countDaysOver : ByteArray := prog_11_method_10_code
def yX9_countDaysOver : MethodName := ⟨RX9, "countDaysOver", "(LLentFiddles$Violins;)I"⟩
abbrev cX9_isFirstOfDay : ByteArray := prog_11_method_11_code
def yX9_isFirstOfDay : MethodName := ⟨RX9, "isFirstOfDay", "(I)Z"⟩
def RX10 : String := "LentFiddles$Violins"
def TX10 : u_T := fun k => match k with
  | 0 => ("LentFiddles$Violins", "kinds", "[I", true)
  | 1 => ("LentFiddles$Violins", "makers", "[I", true)
  | 2 => ("LentFiddles$Violins", "worths", "[I", true)
  | 3 => ("LentFiddles$Violins", "ringCounts", "[I", true)
  | 4 => ("LentFiddles$Violins", "widths", "[[I", true)
  | _ => ("LentFiddles$Violins", "count", "I", false)
def tyX10 : Nat → FieldType := fun k => match k with
  | 0 => .array .int
  | 1 => .array .int
  | 2 => .array .int
  | 3 => .array .int
  | 4 => .array (.array .int)
  | _ => .int
abbrev wsX100 : List Cond := u_ws RX10 TX10 6
theorem nmX10 : ∀ a, a < 6 → ∀ b, b < 6 → a ≠ b → (TX10 a).2.1 ≠ (TX10 b).2.1 := by decide +kernel
theorem tyX10_ok : ∀ k, k < 6 → parseFieldDescriptor (TX10 k).2.2.1 = some (tyX10 k) := by decide +kernel
abbrev cX10_init : ByteArray := prog_12_method_1_code
def yX10_init : MethodName := ⟨RX10, "<init>", "()V"⟩
abbrev cX10_knows : ByteArray := prog_12_method_2_code
def yX10_knows : MethodName := ⟨RX10, "knows", "(I)Z"⟩
abbrev cX10_add : ByteArray := prog_12_method_3_code
def yX10_add : MethodName := ⟨RX10, "add", "(III)I"⟩
def RX11 : String := "LentFiddles"
def TX11 : u_T := fun k => match k with
  | 0 => ("LentFiddles", "violins", "LLentFiddles$Violins;", true)
  | 1 => ("LentFiddles", "players", "LLentFiddles$Players;", true)
  | 2 => ("LentFiddles", "loans", "LLentFiddles$Loans;", true)
  | 3 => ("LentFiddles", "looks", "LLentFiddles$Looks;", true)
  | 4 => ("LentFiddles", "holders", "LLentFiddles$Holders;", true)
  | 5 => ("LentFiddles", "trips", "LLentFiddles$Trips;", true)
  | 6 => ("LentFiddles", "sheets", "LLentFiddles$Sheets;", true)
  | 7 => ("LentFiddles", "theOak", "LLentFiddles$Oak;", true)
  | 8 => ("LentFiddles", "theContract", "LLentFiddles$Contract;", true)
  | 9 => ("LentFiddles", "lendings", "LLentFiddles$Lendings;", true)
  | 10 => ("LentFiddles", "moves", "LLentFiddles$Moves;", true)
  | 11 => ("LentFiddles", "track", "I", false)
  | _ => ("LentFiddles", "latestFault", "I", false)
def tyX11 : Nat → FieldType := fun k => match k with
  | 0 => .object "LentFiddles$Violins"
  | 1 => .object "LentFiddles$Players"
  | 2 => .object "LentFiddles$Loans"
  | 3 => .object "LentFiddles$Looks"
  | 4 => .object "LentFiddles$Holders"
  | 5 => .object "LentFiddles$Trips"
  | 6 => .object "LentFiddles$Sheets"
  | 7 => .object "LentFiddles$Oak"
  | 8 => .object "LentFiddles$Contract"
  | 9 => .object "LentFiddles$Lendings"
  | 10 => .object "LentFiddles$Moves"
  | 11 => .int
  | _ => .int
abbrev wsX110 : List Cond := u_ws RX11 TX11 13
theorem nmX11 : ∀ a, a < 13 → ∀ b, b < 13 → a ≠ b → (TX11 a).2.1 ≠ (TX11 b).2.1 := by decide +kernel
theorem tyX11_ok : ∀ k, k < 13 → parseFieldDescriptor (TX11 k).2.2.1 = some (tyX11 k) := by decide +kernel
abbrev cX11_init : ByteArray := prog_1_method_1_code
def yX11_init : MethodName := ⟨RX11, "<init>", "()V"⟩
abbrev cX11_violin : ByteArray := prog_1_method_2_code
def yX11_violin : MethodName := ⟨RX11, "violin", "(III)I"⟩
abbrev cX11_player : ByteArray := prog_1_method_3_code
def yX11_player : MethodName := ⟨RX11, "player", "(I)I"⟩
abbrev cX11_trial : ByteArray := prog_1_method_4_code
def yX11_trial : MethodName := ⟨RX11, "trial", "(III)I"⟩
abbrev cX11_lend : ByteArray := prog_1_method_13_code
def yX11_lend : MethodName := ⟨RX11, "lend", "(IIII)I"⟩
abbrev cX11_days : ByteArray := prog_1_method_22_code
def yX11_days : MethodName := ⟨RX11, "days", "(IIIII)I"⟩
abbrev cX11_trip : ByteArray := prog_1_method_27_code
def yX11_trip : MethodName := ⟨RX11, "trip", "(III)I"⟩
abbrev cX11_spread : ByteArray := prog_1_method_29_code
def yX11_spread : MethodName := ⟨RX11, "spread", "(I)I"⟩
abbrev cX11_plane : ByteArray := prog_1_method_30_code
def yX11_plane : MethodName := ⟨RX11, "plane", "(I)I"⟩
abbrev cX11_limit : ByteArray := prog_1_method_31_code
def yX11_limit : MethodName := ⟨RX11, "limit", "(I)I"⟩
abbrev cX11_over : ByteArray := prog_1_method_32_code
def yX11_over : MethodName := ⟨RX11, "over", "()I"⟩
abbrev cX11_damp : ByteArray := prog_1_method_33_code
def yX11_damp : MethodName := ⟨RX11, "damp", "(IIIIIII)I"⟩
abbrev cX11_rings : ByteArray := prog_1_method_34_code
def yX11_rings : MethodName := ⟨RX11, "rings", "(IIIII)I"⟩
abbrev cX11_oak : ByteArray := prog_1_method_35_code
def yX11_oak : MethodName := ⟨RX11, "oak", "(IIIII)I"⟩
abbrev cX11_laid : ByteArray := prog_1_method_36_code
def yX11_laid : MethodName := ⟨RX11, "laid", "(III)J"⟩
abbrev cX11_best : ByteArray := prog_1_method_37_code
def yX11_best : MethodName := ⟨RX11, "best", "(II)J"⟩
abbrev cX11_oneTree : ByteArray := prog_1_method_38_code
def yX11_oneTree : MethodName := ⟨RX11, "oneTree", "(II)I"⟩
abbrev cX11_sheet : ByteArray := prog_1_method_41_code
def yX11_sheet : MethodName := ⟨RX11, "sheet", "(III)I"⟩
abbrev cX11_put : ByteArray := prog_1_method_43_code
def yX11_put : MethodName := ⟨RX11, "put", "(III)I"⟩
abbrev cX11_within : ByteArray := prog_1_method_51_code
def yX11_within : MethodName := ⟨RX11, "within", "(III)Z"⟩
abbrev cX11_isLane : ByteArray := prog_1_method_52_code
def yX11_isLane : MethodName := ⟨RX11, "isLane", "(I)Z"⟩
abbrev cX11_met : ByteArray := prog_1_method_54_code
def yX11_met : MethodName := ⟨RX11, "met", "(I)I"⟩
abbrev cX11_mayHave : ByteArray := prog_1_method_57_code
def yX11_mayHave : MethodName := ⟨RX11, "mayHave", "(II)Z"⟩
def RX12 : String := "LentFiddlesModel"
def TX12 : u_T := fun k => match k with
  | _ => ("", "", "", false)
def tyX12 : Nat → FieldType := fun k => match k with
  | _ => .int
abbrev wsX120 : List Cond := u_ws RX12 TX12 0
theorem nmX12 : ∀ a, a < 0 → ∀ b, b < 0 → a ≠ b → (TX12 a).2.1 ≠ (TX12 b).2.1 := by decide +kernel
theorem tyX12_ok : ∀ k, k < 0 → parseFieldDescriptor (TX12 k).2.2.1 = some (tyX12 k) := by decide +kernel
def RJ6 : String := "java/lang/Integer"
def TJ6 : u_T := fun k => match k with
  | _ => ("", "", "", false)
def tyJ6 : Nat → FieldType := fun k => match k with
  | _ => .int
abbrev wsJ60 : List Cond := u_ws RJ6 TJ6 0
theorem nmJ6 : ∀ a, a < 0 → ∀ b, b < 0 → a ≠ b → (TJ6 a).2.1 ≠ (TJ6 b).2.1 := by decide +kernel
theorem tyJ6_ok : ∀ k, k < 0 → parseFieldDescriptor (TJ6 k).2.2.1 = some (tyJ6 k) := by decide +kernel
abbrev cJ6_bitCount_0f7a4 : ByteArray := prog_15_method_49_code
def yJ6_bitCount_0f7a4 : MethodName := ⟨RJ6, "bitCount", "(I)I"⟩
def RJ9 : String := "java/lang/Math"
def TJ9 : u_T := fun k => match k with
  | _ => ("", "", "", false)
def tyJ9 : Nat → FieldType := fun k => match k with
  | _ => .int
abbrev wsJ90 : List Cond := u_ws RJ9 TJ9 0
theorem nmJ9 : ∀ a, a < 0 → ∀ b, b < 0 → a ≠ b → (TJ9 a).2.1 ≠ (TJ9 b).2.1 := by decide +kernel
theorem tyJ9_ok : ∀ k, k < 0 → parseFieldDescriptor (TJ9 k).2.2.1 = some (tyJ9 k) := by decide +kernel
abbrev cJ9_max_7cf53 : ByteArray := prog_16_method_65_code
def yJ9_max_7cf53 : MethodName := ⟨RJ9, "max", "(II)I"⟩
abbrev cJ9_min_7cf53 : ByteArray := prog_16_method_69_code
def yJ9_min_7cf53 : MethodName := ⟨RJ9, "min", "(II)I"⟩
def RJ10 : String := "java/lang/System"
def TJ10 : u_T := fun k => match k with
  | _ => ("", "", "", false)
def tyJ10 : Nat → FieldType := fun k => match k with
  | _ => .int
abbrev wsJ100 : List Cond := u_ws RJ10 TJ10 0
theorem nmJ10 : ∀ a, a < 0 → ∀ b, b < 0 → a ≠ b → (TJ10 a).2.1 ≠ (TJ10 b).2.1 := by decide +kernel
theorem tyJ10_ok : ∀ k, k < 0 → parseFieldDescriptor (TJ10 k).2.2.1 = some (tyJ10 k) := by decide +kernel
def RJ7 : String := "java/util/Arrays"
def TJ7 : u_T := fun k => match k with
  | _ => ("", "", "", false)
def tyJ7 : Nat → FieldType := fun k => match k with
  | _ => .int
abbrev wsJ70 : List Cond := u_ws RJ7 TJ7 0
theorem nmJ7 : ∀ a, a < 0 → ∀ b, b < 0 → a ≠ b → (TJ7 a).2.1 ≠ (TJ7 b).2.1 := by decide +kernel
theorem tyJ7_ok : ∀ k, k < 0 → parseFieldDescriptor (TJ7 k).2.2.1 = some (tyJ7 k) := by decide +kernel
abbrev cJ7_fill_53178 : ByteArray := prog_18_method_103_code
def yJ7_fill_53178 : MethodName := ⟨RJ7, "fill", "([II)V"⟩
def RL : String := "LentFiddlesLaw"
abbrev cL_cell : ByteArray := method_2_code
def yL_cell : MethodName := ⟨RL, "cell", "([II)I"⟩
abbrev cL_some : ByteArray := method_3_code
def yL_some : MethodName := ⟨RL, "some", "(II)I"⟩
abbrev cL_law : ByteArray := code
def yL_law : MethodName := ⟨RL, "law", "([I)Z"⟩
abbrev vwCl : List vw_C := [(RX0, TX0, 6), (RX1, TX1, 9), (RX2, TX2, 11), (RX3, TX3, 6), (RX4, TX4, 4), (RX5, TX5, 5), (RX6, TX6, 7), (RX7, TX7, 5), (RX8, TX8, 4), (RX9, TX9, 11), (RX10, TX10, 6), (RX11, TX11, 13)]
