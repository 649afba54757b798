/-! ===== BEGIN printed: names, fields, word lists, decode rows ===== -/
def RX0 : String := "JoinedLists$Held"
def TX0 : u_T := fun k => match k with
  | _ => ("", "", "", false)
def tyX0 : Nat → FieldType := fun k => match k with
  | _ => .int
abbrev wsX00 : List Cond := u_ws RX0 TX0 0
theorem nmX0 : ∀ a, a < 0 → ∀ b, b < 0 → a ≠ b → (TX0 a).2.1 ≠ (TX0 b).2.1 := by decide +kernel
theorem tyX0_ok : ∀ k, k < 0 → parseFieldDescriptor (TX0 k).2.2.1 = some (tyX0 k) := by decide +kernel
abbrev cX0_valueOf : ByteArray := prog_2_method_2_code
def yX0_valueOf : MethodName := ⟨RX0, "valueOf", "(II)I"⟩
abbrev cX0_with : ByteArray := prog_2_method_3_code
def yX0_with : MethodName := ⟨RX0, "with", "(III)I"⟩
abbrev cX0_maskOf : ByteArray := prog_2_method_4_code
def yX0_maskOf : MethodName := ⟨RX0, "maskOf", "(I)I"⟩
abbrev cX0_decimal : ByteArray := prog_2_method_5_code
def yX0_decimal : MethodName := ⟨RX0, "decimal", "(I)I"⟩
def RX1 : String := "JoinedLists$Listing"
def TX1 : u_T := fun k => match k with
  | 0 => ("JoinedLists$Listing", "program", "LJoinedLists$Program;", true)
  | 1 => ("JoinedLists$Listing", "helds", "[[I", true)
  | 2 => ("JoinedLists$Listing", "masses", "[[J", true)
  | 3 => ("JoinedLists$Listing", "firsts", "[I", true)
  | 4 => ("JoinedLists$Listing", "ends", "[I", true)
  | 5 => ("JoinedLists$Listing", "comes", "[I", true)
  | 6 => ("JoinedLists$Listing", "joins", "[I", true)
  | 7 => ("JoinedLists$Listing", "liveMasks", "[I", true)
  | 8 => ("JoinedLists$Listing", "open", "Z", false)
  | 9 => ("JoinedLists$Listing", "lost", "J", false)
  | _ => ("JoinedLists$Listing", "workDone", "I", false)
def tyX1 : Nat → FieldType := fun k => match k with
  | 0 => .object "JoinedLists$Program"
  | 1 => .array (.array .int)
  | 2 => .array (.array .long)
  | 3 => .array .int
  | 4 => .array .int
  | 5 => .array .int
  | 6 => .array .int
  | 7 => .array .int
  | 8 => .boolean
  | 9 => .long
  | _ => .int
abbrev wsX10 : List Cond := u_ws RX1 TX1 11
theorem nmX1 : ∀ a, a < 11 → ∀ b, b < 11 → a ≠ b → (TX1 a).2.1 ≠ (TX1 b).2.1 := by decide +kernel
theorem tyX1_ok : ∀ k, k < 11 → parseFieldDescriptor (TX1 k).2.2.1 = some (tyX1 k) := by decide +kernel
abbrev cX1_init : ByteArray := prog_3_method_1_code
def yX1_init : MethodName := ⟨RX1, "<init>", "(LJoinedLists$Program;)V"⟩
abbrev cX1_end : ByteArray := prog_3_method_2_code
def yX1_end : MethodName := ⟨RX1, "end", "()V"⟩
abbrev cX1_start : ByteArray := prog_3_method_3_code
def yX1_start : MethodName := ⟨RX1, "start", "()V"⟩
abbrev cX1_size : ByteArray := prog_3_method_4_code
def yX1_size : MethodName := ⟨RX1, "size", "(I)I"⟩
abbrev cX1_has : ByteArray := prog_3_method_5_code
def yX1_has : MethodName := ⟨RX1, "has", "(II)Z"⟩
abbrev cX1_heldAt : ByteArray := prog_3_method_6_code
def yX1_heldAt : MethodName := ⟨RX1, "heldAt", "(II)I"⟩
abbrev cX1_massAt : ByteArray := prog_3_method_7_code
def yX1_massAt : MethodName := ⟨RX1, "massAt", "(II)J"⟩
abbrev cX1_total : ByteArray := prog_3_method_8_code
def yX1_total : MethodName := ⟨RX1, "total", "(III)J"⟩
abbrev cX1_totalBeforeEnd : ByteArray := prog_3_method_9_code
def yX1_totalBeforeEnd : MethodName := ⟨RX1, "totalBeforeEnd", "(II)J"⟩
abbrev cX1_leastPlace : ByteArray := prog_3_method_10_code
def yX1_leastPlace : MethodName := ⟨RX1, "leastPlace", "()I"⟩
abbrev cX1_spend : ByteArray := prog_3_method_11_code
def yX1_spend : MethodName := ⟨RX1, "spend", "(I)I"⟩
abbrev cX1_hasRoomBehind : ByteArray := prog_3_method_12_code
def yX1_hasRoomBehind : MethodName := ⟨RX1, "hasRoomBehind", "(I)Z"⟩
abbrev cX1_newBehind : ByteArray := prog_3_method_13_code
def yX1_newBehind : MethodName := ⟨RX1, "newBehind", "(II)I"⟩
abbrev cX1_moveLeast : ByteArray := prog_3_method_14_code
def yX1_moveLeast : MethodName := ⟨RX1, "moveLeast", "(I)V"⟩
abbrev cX1_come : ByteArray := prog_3_method_15_code
def yX1_come : MethodName := ⟨RX1, "come", "(IIJ)V"⟩
abbrev cX1_insert : ByteArray := prog_3_method_16_code
def yX1_insert : MethodName := ⟨RX1, "insert", "(IIIJ)V"⟩
abbrev cX1_isThere : ByteArray := prog_3_method_17_code
def yX1_isThere : MethodName := ⟨RX1, "isThere", "(III)Z"⟩
abbrev cX1_seat : ByteArray := prog_3_method_18_code
def yX1_seat : MethodName := ⟨RX1, "seat", "(II)I"⟩
def RX2 : String := "JoinedLists$Program"
def TX2 : u_T := fun k => match k with
  | 0 => ("JoinedLists$Program", "kinds", "[I", true)
  | 1 => ("JoinedLists$Program", "targets", "[I", true)
  | 2 => ("JoinedLists$Program", "choices", "[I", true)
  | 3 => ("JoinedLists$Program", "lefts", "[I", true)
  | 4 => ("JoinedLists$Program", "rights", "[I", true)
  | 5 => ("JoinedLists$Program", "weights", "[[I", true)
  | 6 => ("JoinedLists$Program", "liveSets", "[I", true)
  | 7 => ("JoinedLists$Program", "asked", "I", false)
  | 8 => ("JoinedLists$Program", "stepCount", "I", false)
  | 9 => ("JoinedLists$Program", "drawCount", "I", false)
  | _ => ("JoinedLists$Program", "weighCount", "I", false)
def tyX2 : Nat → FieldType := fun k => match k with
  | 0 => .array .int
  | 1 => .array .int
  | 2 => .array .int
  | 3 => .array .int
  | 4 => .array .int
  | 5 => .array (.array .int)
  | 6 => .array .int
  | 7 => .int
  | 8 => .int
  | 9 => .int
  | _ => .int
abbrev wsX20 : List Cond := u_ws RX2 TX2 11
theorem nmX2 : ∀ a, a < 11 → ∀ b, b < 11 → a ≠ b → (TX2 a).2.1 ≠ (TX2 b).2.1 := by decide +kernel
theorem tyX2_ok : ∀ k, k < 11 → parseFieldDescriptor (TX2 k).2.2.1 = some (tyX2 k) := by decide +kernel
abbrev cX2_init : ByteArray := prog_4_method_1_code
def yX2_init : MethodName := ⟨RX2, "<init>", "()V"⟩
abbrev cX2_reset : ByteArray := prog_4_method_2_code
def yX2_reset : MethodName := ⟨RX2, "reset", "()V"⟩
abbrev cX2_swapWeight : ByteArray := prog_4_method_3_code
def yX2_swapWeight : MethodName := ⟨RX2, "swapWeight", "(III)I"⟩
abbrev cX2_isAsked : ByteArray := prog_4_method_4_code
def yX2_isAsked : MethodName := ⟨RX2, "isAsked", "(I)Z"⟩
abbrev cX2_swapAsked : ByteArray := prog_4_method_5_code
def yX2_swapAsked : MethodName := ⟨RX2, "swapAsked", "(IZ)Z"⟩
abbrev cX2_isFullFor : ByteArray := prog_4_method_6_code
def yX2_isFullFor : MethodName := ⟨RX2, "isFullFor", "(I)Z"⟩
abbrev cX2_append : ByteArray := prog_4_method_7_code
def yX2_append : MethodName := ⟨RX2, "append", "(IIIII)I"⟩
abbrev cX2_removeLast : ByteArray := prog_4_method_8_code
def yX2_removeLast : MethodName := ⟨RX2, "removeLast", "()I"⟩
abbrev cX2_countKind : ByteArray := prog_4_method_9_code
def yX2_countKind : MethodName := ⟨RX2, "countKind", "(II)V"⟩
abbrev cX2_isStep : ByteArray := prog_4_method_10_code
def yX2_isStep : MethodName := ⟨RX2, "isStep", "(I)Z"⟩
abbrev cX2_isDraw : ByteArray := prog_4_method_11_code
def yX2_isDraw : MethodName := ⟨RX2, "isDraw", "(I)Z"⟩
abbrev cX2_isUneven : ByteArray := prog_4_method_12_code
def yX2_isUneven : MethodName := ⟨RX2, "isUneven", "()Z"⟩
abbrev cX2_rowTotal : ByteArray := prog_4_method_13_code
def yX2_rowTotal : MethodName := ⟨RX2, "rowTotal", "(I)I"⟩
abbrev cX2_weightOf : ByteArray := prog_4_method_14_code
def yX2_weightOf : MethodName := ⟨RX2, "weightOf", "(II)I"⟩
abbrev cX2_markLive : ByteArray := prog_4_method_15_code
def yX2_markLive : MethodName := ⟨RX2, "markLive", "()V"⟩
abbrev cX2_liveAt : ByteArray := prog_4_method_16_code
def yX2_liveAt : MethodName := ⟨RX2, "liveAt", "(I)I"⟩
abbrev cX2_liveAtStep : ByteArray := prog_4_method_17_code
def yX2_liveAtStep : MethodName := ⟨RX2, "liveAtStep", "(I)I"⟩
abbrev cX2_variableOf : ByteArray := prog_4_method_18_code
def yX2_variableOf : MethodName := ⟨RX2, "variableOf", "(I)I"⟩
abbrev cX2_termValue : ByteArray := prog_4_method_19_code
def yX2_termValue : MethodName := ⟨RX2, "termValue", "(II)I"⟩
abbrev cX2_placeSkippedTo : ByteArray := prog_4_method_20_code
def yX2_placeSkippedTo : MethodName := ⟨RX2, "placeSkippedTo", "(I)I"⟩
abbrev cX2_ways : ByteArray := prog_4_method_21_code
def yX2_ways : MethodName := ⟨RX2, "ways", "(I)I"⟩
abbrev cX2_placeBehind : ByteArray := prog_4_method_22_code
def yX2_placeBehind : MethodName := ⟨RX2, "placeBehind", "(II)I"⟩
abbrev cX2_massBehind : ByteArray := prog_4_method_23_code
def yX2_massBehind : MethodName := ⟨RX2, "massBehind", "(IIIJ)J"⟩
abbrev cX2_heldBehind : ByteArray := prog_4_method_24_code
def yX2_heldBehind : MethodName := ⟨RX2, "heldBehind", "(III)I"⟩
abbrev cX2_isSeen : ByteArray := prog_4_method_25_code
def yX2_isSeen : MethodName := ⟨RX2, "isSeen", "(III)Z"⟩
abbrev cX2_combined : ByteArray := prog_4_method_26_code
def yX2_combined : MethodName := ⟨RX2, "combined", "(IIII)I"⟩
def RX3 : String := "JoinedLists$Survey"
def TX3 : u_T := fun k => match k with
  | 0 => ("JoinedLists$Survey", "program", "LJoinedLists$Program;", true)
  | 1 => ("JoinedLists$Survey", "massByValue", "[[J", true)
  | 2 => ("JoinedLists$Survey", "massAtEnd", "J", false)
  | 3 => ("JoinedLists$Survey", "runCount", "I", false)
  | _ => ("JoinedLists$Survey", "kept", "Z", false)
def tyX3 : Nat → FieldType := fun k => match k with
  | 0 => .object "JoinedLists$Program"
  | 1 => .array (.array .long)
  | 2 => .long
  | 3 => .int
  | _ => .boolean
abbrev wsX30 : List Cond := u_ws RX3 TX3 5
theorem nmX3 : ∀ a, a < 5 → ∀ b, b < 5 → a ≠ b → (TX3 a).2.1 ≠ (TX3 b).2.1 := by decide +kernel
theorem tyX3_ok : ∀ k, k < 5 → parseFieldDescriptor (TX3 k).2.2.1 = some (tyX3 k) := by decide +kernel
abbrev cX3_init : ByteArray := prog_5_method_1_code
def yX3_init : MethodName := ⟨RX3, "<init>", "(LJoinedLists$Program;)V"⟩
abbrev cX3_forget : ByteArray := prog_5_method_2_code
def yX3_forget : MethodName := ⟨RX3, "forget", "()V"⟩
abbrev cX3_tally : ByteArray := prog_5_method_3_code
def yX3_tally : MethodName := ⟨RX3, "tally", "()I"⟩
abbrev cX3_empty : ByteArray := prog_5_method_4_code
def yX3_empty : MethodName := ⟨RX3, "empty", "()V"⟩
abbrev cX3_follow : ByteArray := prog_5_method_5_code
def yX3_follow : MethodName := ⟨RX3, "follow", "(IIJI)V"⟩
abbrev cX3_branch : ByteArray := prog_5_method_6_code
def yX3_branch : MethodName := ⟨RX3, "branch", "(IIJI)V"⟩
abbrev cX3_addAtEnd : ByteArray := prog_5_method_7_code
def yX3_addAtEnd : MethodName := ⟨RX3, "addAtEnd", "(IJ)V"⟩
def RX4 : String := "JoinedLists"
def TX4 : u_T := fun k => match k with
  | 0 => ("JoinedLists", "program", "LJoinedLists$Program;", true)
  | 1 => ("JoinedLists", "listing", "LJoinedLists$Listing;", true)
  | _ => ("JoinedLists", "survey", "LJoinedLists$Survey;", true)
def tyX4 : Nat → FieldType := fun k => match k with
  | 0 => .object "JoinedLists$Program"
  | 1 => .object "JoinedLists$Listing"
  | _ => .object "JoinedLists$Survey"
abbrev wsX40 : List Cond := u_ws RX4 TX4 3
theorem nmX4 : ∀ a, a < 3 → ∀ b, b < 3 → a ≠ b → (TX4 a).2.1 ≠ (TX4 b).2.1 := by decide +kernel
theorem tyX4_ok : ∀ k, k < 3 → parseFieldDescriptor (TX4 k).2.2.1 = some (tyX4 k) := by decide +kernel
abbrev cX4_init : ByteArray := prog_1_method_1_code
def yX4_init : MethodName := ⟨RX4, "<init>", "()V"⟩
abbrev cX4_weight : ByteArray := prog_1_method_2_code
def yX4_weight : MethodName := ⟨RX4, "weight", "(III)I"⟩
abbrev cX4_draw : ByteArray := prog_1_method_3_code
def yX4_draw : MethodName := ⟨RX4, "draw", "(II)I"⟩
abbrev cX4_set : ByteArray := prog_1_method_4_code
def yX4_set : MethodName := ⟨RX4, "set", "(IIII)I"⟩
abbrev cX4_observe : ByteArray := prog_1_method_5_code
def yX4_observe : MethodName := ⟨RX4, "observe", "(III)I"⟩
abbrev cX4_weigh : ByteArray := prog_1_method_6_code
def yX4_weigh : MethodName := ⟨RX4, "weigh", "(I)I"⟩
abbrev cX4_skip : ByteArray := prog_1_method_7_code
def yX4_skip : MethodName := ⟨RX4, "skip", "(II)I"⟩
abbrev cX4_drop : ByteArray := prog_1_method_8_code
def yX4_drop : MethodName := ⟨RX4, "drop", "()I"⟩
abbrev cX4_ask : ByteArray := prog_1_method_9_code
def yX4_ask : MethodName := ⟨RX4, "ask", "(IZ)I"⟩
abbrev cX4_live : ByteArray := prog_1_method_10_code
def yX4_live : MethodName := ⟨RX4, "live", "(I)I"⟩
abbrev cX4_begin : ByteArray := prog_1_method_11_code
def yX4_begin : MethodName := ⟨RX4, "begin", "()I"⟩
abbrev cX4_list : ByteArray := prog_1_method_12_code
def yX4_list : MethodName := ⟨RX4, "list", "(I)I"⟩
abbrev cX4_done : ByteArray := prog_1_method_13_code
def yX4_done : MethodName := ⟨RX4, "done", "()I"⟩
abbrev cX4_states : ByteArray := prog_1_method_14_code
def yX4_states : MethodName := ⟨RX4, "states", "(II)I"⟩
abbrev cX4_code : ByteArray := prog_1_method_15_code
def yX4_code : MethodName := ⟨RX4, "code", "(II)I"⟩
abbrev cX4_mass : ByteArray := prog_1_method_16_code
def yX4_mass : MethodName := ⟨RX4, "mass", "(II)J"⟩
abbrev cX4_sum : ByteArray := prog_1_method_17_code
def yX4_sum : MethodName := ⟨RX4, "sum", "(III)J"⟩
abbrev cX4_odds : ByteArray := prog_1_method_18_code
def yX4_odds : MethodName := ⟨RX4, "odds", "(III)J"⟩
abbrev cX4_runs : ByteArray := prog_1_method_19_code
def yX4_runs : MethodName := ⟨RX4, "runs", "()I"⟩
abbrev cX4_plain : ByteArray := prog_1_method_20_code
def yX4_plain : MethodName := ⟨RX4, "plain", "(II)J"⟩
abbrev cX4_count : ByteArray := prog_1_method_21_code
def yX4_count : MethodName := ⟨RX4, "count", "(I)I"⟩
abbrev cX4_clear : ByteArray := prog_1_method_22_code
def yX4_clear : MethodName := ⟨RX4, "clear", "()I"⟩
abbrev cX4_addStep : ByteArray := prog_1_method_23_code
def yX4_addStep : MethodName := ⟨RX4, "addStep", "(IIIII)I"⟩
abbrev cX4_programChanged : ByteArray := prog_1_method_24_code
def yX4_programChanged : MethodName := ⟨RX4, "programChanged", "()V"⟩
abbrev cX4_isPlace : ByteArray := prog_1_method_25_code
def yX4_isPlace : MethodName := ⟨RX4, "isPlace", "(I)Z"⟩
abbrev cX4_isVariable : ByteArray := prog_1_method_26_code
def yX4_isVariable : MethodName := ⟨RX4, "isVariable", "(I)Z"⟩
abbrev cX4_isValue : ByteArray := prog_1_method_27_code
def yX4_isValue : MethodName := ⟨RX4, "isValue", "(I)Z"⟩
abbrev cX4_isRow : ByteArray := prog_1_method_28_code
def yX4_isRow : MethodName := ⟨RX4, "isRow", "(I)Z"⟩
abbrev cX4_isTerm : ByteArray := prog_1_method_29_code
def yX4_isTerm : MethodName := ⟨RX4, "isTerm", "(I)Z"⟩
abbrev cX4_isChoice : ByteArray := prog_1_method_30_code
def yX4_isChoice : MethodName := ⟨RX4, "isChoice", "(II)Z"⟩
abbrev cX4_commonDivisor : ByteArray := prog_1_method_31_code
def yX4_commonDivisor : MethodName := ⟨RX4, "commonDivisor", "(JJ)J"⟩
def RX5 : String := "JoinedListsModel"
def TX5 : u_T := fun k => match k with
  | 0 => ("JoinedListsModel", "thrown", "I", false)
  | 1 => ("JoinedListsModel", "steps", "I", false)
  | 2 => ("JoinedListsModel", "draws", "I", false)
  | 3 => ("JoinedListsModel", "weighs", "I", false)
  | 4 => ("JoinedListsModel", "kind", "[I", true)
  | 5 => ("JoinedListsModel", "gives", "[I", true)
  | 6 => ("JoinedListsModel", "extra", "[I", true)
  | 7 => ("JoinedListsModel", "one", "[I", true)
  | 8 => ("JoinedListsModel", "two", "[I", true)
  | 9 => ("JoinedListsModel", "weight", "[I", true)
  | 10 => ("JoinedListsModel", "asked", "[Z", true)
  | 11 => ("JoinedListsModel", "isListing", "Z", false)
  | 12 => ("JoinedListsModel", "worked", "I", false)
  | 13 => ("JoinedListsModel", "lost", "J", false)
  | 14 => ("JoinedListsModel", "many", "[I", true)
  | 15 => ("JoinedListsModel", "comes", "[I", true)
  | 16 => ("JoinedListsModel", "joined", "[I", true)
  | 17 => ("JoinedListsModel", "codes", "[I", true)
  | 18 => ("JoinedListsModel", "masses", "[J", true)
  | 19 => ("JoinedListsModel", "lives", "[I", true)
  | 20 => ("JoinedListsModel", "made", "I", false)
  | 21 => ("JoinedListsModel", "madePlace", "I", false)
  | 22 => ("JoinedListsModel", "madeLost", "J", false)
  | 23 => ("JoinedListsModel", "madeCode", "[I", true)
  | 24 => ("JoinedListsModel", "madeMass", "[J", true)
  | 25 => ("JoinedListsModel", "pile", "I", false)
  | 26 => ("JoinedListsModel", "pilePlace", "[I", true)
  | 27 => ("JoinedListsModel", "pileCode", "[I", true)
  | 28 => ("JoinedListsModel", "pileMass", "[J", true)
  | _ => ("JoinedListsModel", "plainMass", "J", false)
def tyX5 : Nat → FieldType := fun k => match k with
  | 0 => .int
  | 1 => .int
  | 2 => .int
  | 3 => .int
  | 4 => .array .int
  | 5 => .array .int
  | 6 => .array .int
  | 7 => .array .int
  | 8 => .array .int
  | 9 => .array .int
  | 10 => .array .boolean
  | 11 => .boolean
  | 12 => .int
  | 13 => .long
  | 14 => .array .int
  | 15 => .array .int
  | 16 => .array .int
  | 17 => .array .int
  | 18 => .array .long
  | 19 => .array .int
  | 20 => .int
  | 21 => .int
  | 22 => .long
  | 23 => .array .int
  | 24 => .array .long
  | 25 => .int
  | 26 => .array .int
  | 27 => .array .int
  | 28 => .array .long
  | _ => .long
abbrev wsX50 : List Cond := u_ws RX5 TX5 30
theorem nmX5 : ∀ a, a < 30 → ∀ b, b < 30 → a ≠ b → (TX5 a).2.1 ≠ (TX5 b).2.1 := by decide +kernel
theorem tyX5_ok : ∀ k, k < 30 → parseFieldDescriptor (TX5 k).2.2.1 = some (tyX5 k) := by decide +kernel
abbrev cX5_init : ByteArray := prog_7_method_1_code
def yX5_init : MethodName := ⟨RX5, "<init>", "()V"⟩
abbrev cX5_thrown : ByteArray := prog_7_method_2_code
def yX5_thrown : MethodName := ⟨RX5, "thrown", "()I"⟩
abbrev cX5_reset : ByteArray := prog_7_method_3_code
def yX5_reset : MethodName := ⟨RX5, "reset", "()V"⟩
abbrev cX5_isIn : ByteArray := prog_7_method_4_code
def yX5_isIn : MethodName := ⟨RX5, "isIn", "(III)Z"⟩
abbrev cX5_isTerm : ByteArray := prog_7_method_5_code
def yX5_isTerm : MethodName := ⟨RX5, "isTerm", "(I)Z"⟩
abbrev cX5_weight : ByteArray := prog_7_method_6_code
def yX5_weight : MethodName := ⟨RX5, "weight", "(III)I"⟩
abbrev cX5_added : ByteArray := prog_7_method_7_code
def yX5_added : MethodName := ⟨RX5, "added", "(IIIII)I"⟩
abbrev cX5_draw : ByteArray := prog_7_method_8_code
def yX5_draw : MethodName := ⟨RX5, "draw", "(II)I"⟩
abbrev cX5_set : ByteArray := prog_7_method_9_code
def yX5_set : MethodName := ⟨RX5, "set", "(IIII)I"⟩
abbrev cX5_observe : ByteArray := prog_7_method_10_code
def yX5_observe : MethodName := ⟨RX5, "observe", "(III)I"⟩
abbrev cX5_weigh : ByteArray := prog_7_method_11_code
def yX5_weigh : MethodName := ⟨RX5, "weigh", "(I)I"⟩
abbrev cX5_skip : ByteArray := prog_7_method_12_code
def yX5_skip : MethodName := ⟨RX5, "skip", "(II)I"⟩
abbrev cX5_drop : ByteArray := prog_7_method_13_code
def yX5_drop : MethodName := ⟨RX5, "drop", "()I"⟩
abbrev cX5_ask : ByteArray := prog_7_method_14_code
def yX5_ask : MethodName := ⟨RX5, "ask", "(IZ)I"⟩
abbrev cX5_bit : ByteArray := prog_7_method_15_code
def yX5_bit : MethodName := ⟨RX5, "bit", "(I)I"⟩
abbrev cX5_passed : ByteArray := prog_7_method_16_code
def yX5_passed : MethodName := ⟨RX5, "passed", "(I)I"⟩
abbrev cX5_liven : ByteArray := prog_7_method_17_code
def yX5_liven : MethodName := ⟨RX5, "liven", "()V"⟩
abbrev cX5_live : ByteArray := prog_7_method_18_code
def yX5_live : MethodName := ⟨RX5, "live", "(I)I"⟩
abbrev cX5_digit : ByteArray := prog_7_method_19_code
def yX5_digit : MethodName := ⟨RX5, "digit", "(II)I"⟩
abbrev cX5_with : ByteArray := prog_7_method_20_code
def yX5_with : MethodName := ⟨RX5, "with", "(III)I"⟩
abbrev cX5_termOf : ByteArray := prog_7_method_21_code
def yX5_termOf : MethodName := ⟨RX5, "termOf", "(II)I"⟩
abbrev cX5_worth : ByteArray := prog_7_method_22_code
def yX5_worth : MethodName := ⟨RX5, "worth", "(IIII)I"⟩
abbrev cX5_holds : ByteArray := prog_7_method_23_code
def yX5_holds : MethodName := ⟨RX5, "holds", "(III)Z"⟩
abbrev cX5_make : ByteArray := prog_7_method_24_code
def yX5_make : MethodName := ⟨RX5, "make", "(IJ)V"⟩
abbrev cX5_go : ByteArray := prog_7_method_25_code
def yX5_go : MethodName := ⟨RX5, "go", "(IIJ)V"⟩
abbrev cX5_isUneven : ByteArray := prog_7_method_26_code
def yX5_isUneven : MethodName := ⟨RX5, "isUneven", "()Z"⟩
abbrev cX5_begin : ByteArray := prog_7_method_27_code
def yX5_begin : MethodName := ⟨RX5, "begin", "()I"⟩
abbrev cX5_found : ByteArray := prog_7_method_28_code
def yX5_found : MethodName := ⟨RX5, "found", "(II)I"⟩
abbrev cX5_isThere : ByteArray := prog_7_method_29_code
def yX5_isThere : MethodName := ⟨RX5, "isThere", "(II)Z"⟩
abbrev cX5_come : ByteArray := prog_7_method_30_code
def yX5_come : MethodName := ⟨RX5, "come", "(IIJ)V"⟩
abbrev cX5_cut : ByteArray := prog_7_method_31_code
def yX5_cut : MethodName := ⟨RX5, "cut", "(II)I"⟩
abbrev cX5_least : ByteArray := prog_7_method_32_code
def yX5_least : MethodName := ⟨RX5, "least", "()I"⟩
abbrev cX5_isRoom : ByteArray := prog_7_method_33_code
def yX5_isRoom : MethodName := ⟨RX5, "isRoom", "(I)Z"⟩
abbrev cX5_list : ByteArray := prog_7_method_34_code
def yX5_list : MethodName := ⟨RX5, "list", "(I)I"⟩
abbrev cX5_done : ByteArray := prog_7_method_35_code
def yX5_done : MethodName := ⟨RX5, "done", "()I"⟩
abbrev cX5_states : ByteArray := prog_7_method_36_code
def yX5_states : MethodName := ⟨RX5, "states", "(II)I"⟩
abbrev cX5_code : ByteArray := prog_7_method_37_code
def yX5_code : MethodName := ⟨RX5, "code", "(II)I"⟩
abbrev cX5_mass : ByteArray := prog_7_method_38_code
def yX5_mass : MethodName := ⟨RX5, "mass", "(II)J"⟩
abbrev cX5_sumAt : ByteArray := prog_7_method_39_code
def yX5_sumAt : MethodName := ⟨RX5, "sumAt", "(III)J"⟩
abbrev cX5_sum : ByteArray := prog_7_method_40_code
def yX5_sum : MethodName := ⟨RX5, "sum", "(III)J"⟩
abbrev cX5_odds : ByteArray := prog_7_method_41_code
def yX5_odds : MethodName := ⟨RX5, "odds", "(III)J"⟩
abbrev cX5_lay : ByteArray := prog_7_method_42_code
def yX5_lay : MethodName := ⟨RX5, "lay", "(IIJ)V"⟩
abbrev cX5_listed : ByteArray := prog_7_method_43_code
def yX5_listed : MethodName := ⟨RX5, "listed", "(II)I"⟩
abbrev cX5_runs : ByteArray := prog_7_method_44_code
def yX5_runs : MethodName := ⟨RX5, "runs", "()I"⟩
abbrev cX5_plain : ByteArray := prog_7_method_45_code
def yX5_plain : MethodName := ⟨RX5, "plain", "(II)J"⟩
abbrev cX5_count : ByteArray := prog_7_method_46_code
def yX5_count : MethodName := ⟨RX5, "count", "(I)I"⟩
abbrev cX5_clear : ByteArray := prog_7_method_47_code
def yX5_clear : MethodName := ⟨RX5, "clear", "()I"⟩
def RJ9 : String := "java/lang/Math"
def TJ9 : u_T := fun k => match k with
  | _ => ("", "", "", false)
def tyJ9 : Nat → FieldType := fun k => match k with
  | _ => .int
abbrev wsJ90 : List Cond := u_ws RJ9 TJ9 0
theorem nmJ9 : ∀ a, a < 0 → ∀ b, b < 0 → a ≠ b → (TJ9 a).2.1 ≠ (TJ9 b).2.1 := by decide +kernel
theorem tyJ9_ok : ∀ k, k < 0 → parseFieldDescriptor (TJ9 k).2.2.1 = some (tyJ9 k) := by decide +kernel
abbrev cJ9_max_7cf53 : ByteArray := prog_10_method_65_code
def yJ9_max_7cf53 : MethodName := ⟨RJ9, "max", "(II)I"⟩
abbrev cJ9_min_7cf53 : ByteArray := prog_10_method_69_code
def yJ9_min_7cf53 : MethodName := ⟨RJ9, "min", "(II)I"⟩
def RJ0 : String := "java/lang/String"
def TJ0 : u_T := fun k => match k with
  | _ => ("", "", "", false)
def tyJ0 : Nat → FieldType := fun k => match k with
  | _ => .int
abbrev wsJ00 : List Cond := u_ws RJ0 TJ0 0
theorem nmJ0 : ∀ a, a < 0 → ∀ b, b < 0 → a ≠ b → (TJ0 a).2.1 ≠ (TJ0 b).2.1 := by decide +kernel
theorem tyJ0_ok : ∀ k, k < 0 → parseFieldDescriptor (TJ0 k).2.2.1 = some (tyJ0 k) := by decide +kernel
def RJ10 : String := "java/lang/System"
def TJ10 : u_T := fun k => match k with
  | _ => ("", "", "", false)
def tyJ10 : Nat → FieldType := fun k => match k with
  | _ => .int
abbrev wsJ100 : List Cond := u_ws RJ10 TJ10 0
theorem nmJ10 : ∀ a, a < 0 → ∀ b, b < 0 → a ≠ b → (TJ10 a).2.1 ≠ (TJ10 b).2.1 := by decide +kernel
theorem tyJ10_ok : ∀ k, k < 0 → parseFieldDescriptor (TJ10 k).2.2.1 = some (tyJ10 k) := by decide +kernel
def RL : String := "JoinedListsLaw"
abbrev cL_odds : ByteArray := method_3_code
def yL_odds : MethodName := ⟨RL, "odds", "(LJoinedLists;III[J)I"⟩
abbrev cL_law : ByteArray := code
def yL_law : MethodName := ⟨RL, "law", "([I)Z"⟩
theorem dX0_valueOf_0 : decode cX0_valueOf 0 = .ok (.iload_n 0, 1) := by decide +kernel
theorem dX0_valueOf_1 : decode cX0_valueOf 1 = .ok (.bipush 20, 2) := by decide +kernel
theorem dX0_valueOf_3 : decode cX0_valueOf 3 = .ok (.iconst 4, 1) := by decide +kernel
theorem dX0_valueOf_4 : decode cX0_valueOf 4 = .ok (.iload_n 1, 1) := by decide +kernel
theorem dX0_valueOf_5 : decode cX0_valueOf 5 = .ok (.imul, 1) := by decide +kernel
theorem dX0_valueOf_6 : decode cX0_valueOf 6 = .ok (.isub, 1) := by decide +kernel
theorem dX0_valueOf_7 : decode cX0_valueOf 7 = .ok (.ishr, 1) := by decide +kernel
theorem dX0_valueOf_8 : decode cX0_valueOf 8 = .ok (.bipush 15, 2) := by decide +kernel
theorem dX0_valueOf_10 : decode cX0_valueOf 10 = .ok (.iand, 1) := by decide +kernel
theorem dX0_valueOf_11 : decode cX0_valueOf 11 = .ok (.ireturn, 1) := by decide +kernel
theorem dX0_with_0 : decode cX0_with 0 = .ok (.bipush 20, 2) := by decide +kernel
theorem dX0_with_2 : decode cX0_with 2 = .ok (.iconst 4, 1) := by decide +kernel
theorem dX0_with_3 : decode cX0_with 3 = .ok (.iload_n 1, 1) := by decide +kernel
theorem dX0_with_4 : decode cX0_with 4 = .ok (.imul, 1) := by decide +kernel
theorem dX0_with_5 : decode cX0_with 5 = .ok (.isub, 1) := by decide +kernel
theorem dX0_with_6 : decode cX0_with 6 = .ok (.istore_n 3, 1) := by decide +kernel
theorem dX0_with_7 : decode cX0_with 7 = .ok (.iload_n 0, 1) := by decide +kernel
theorem dX0_with_8 : decode cX0_with 8 = .ok (.bipush 15, 2) := by decide +kernel
theorem dX0_with_10 : decode cX0_with 10 = .ok (.iload_n 3, 1) := by decide +kernel
theorem dX0_with_11 : decode cX0_with 11 = .ok (.ishl, 1) := by decide +kernel
theorem dX0_with_12 : decode cX0_with 12 = .ok (.iconst (-1), 1) := by decide +kernel
theorem dX0_with_13 : decode cX0_with 13 = .ok (.ixor, 1) := by decide +kernel
theorem dX0_with_14 : decode cX0_with 14 = .ok (.iand, 1) := by decide +kernel
theorem dX0_with_15 : decode cX0_with 15 = .ok (.iload_n 2, 1) := by decide +kernel
theorem dX0_with_16 : decode cX0_with 16 = .ok (.iload_n 3, 1) := by decide +kernel
theorem dX0_with_17 : decode cX0_with 17 = .ok (.ishl, 1) := by decide +kernel
theorem dX0_with_18 : decode cX0_with 18 = .ok (.ior, 1) := by decide +kernel
theorem dX0_with_19 : decode cX0_with 19 = .ok (.ireturn, 1) := by decide +kernel
theorem dX0_maskOf_0 : decode cX0_maskOf 0 = .ok (.iconst 0, 1) := by decide +kernel
theorem dX0_maskOf_1 : decode cX0_maskOf 1 = .ok (.istore_n 1, 1) := by decide +kernel
theorem dX0_maskOf_2 : decode cX0_maskOf 2 = .ok (.iconst 0, 1) := by decide +kernel
theorem dX0_maskOf_3 : decode cX0_maskOf 3 = .ok (.istore_n 2, 1) := by decide +kernel
theorem dX0_maskOf_4 : decode cX0_maskOf 4 = .ok (.iload_n 2, 1) := by decide +kernel
theorem dX0_maskOf_5 : decode cX0_maskOf 5 = .ok (.bipush 6, 2) := by decide +kernel
theorem dX0_maskOf_7 : decode cX0_maskOf 7 = .ok (.if_icmp .ge 29, 3) := by decide +kernel
theorem dX0_maskOf_10 : decode cX0_maskOf 10 = .ok (.iload_n 0, 1) := by decide +kernel
theorem dX0_maskOf_11 : decode cX0_maskOf 11 = .ok (.iconst 1, 1) := by decide +kernel
theorem dX0_maskOf_12 : decode cX0_maskOf 12 = .ok (.iload_n 2, 1) := by decide +kernel
theorem dX0_maskOf_13 : decode cX0_maskOf 13 = .ok (.ishl, 1) := by decide +kernel
theorem dX0_maskOf_14 : decode cX0_maskOf 14 = .ok (.iand, 1) := by decide +kernel
theorem dX0_maskOf_15 : decode cX0_maskOf 15 = .ok (.ifCond .eq 15, 3) := by decide +kernel
theorem dX0_maskOf_18 : decode cX0_maskOf 18 = .ok (.iload_n 1, 1) := by decide +kernel
theorem dX0_maskOf_19 : decode cX0_maskOf 19 = .ok (.bipush 15, 2) := by decide +kernel
theorem dX0_maskOf_21 : decode cX0_maskOf 21 = .ok (.bipush 20, 2) := by decide +kernel
theorem dX0_maskOf_23 : decode cX0_maskOf 23 = .ok (.iconst 4, 1) := by decide +kernel
theorem dX0_maskOf_24 : decode cX0_maskOf 24 = .ok (.iload_n 2, 1) := by decide +kernel
theorem dX0_maskOf_25 : decode cX0_maskOf 25 = .ok (.imul, 1) := by decide +kernel
theorem dX0_maskOf_26 : decode cX0_maskOf 26 = .ok (.isub, 1) := by decide +kernel
theorem dX0_maskOf_27 : decode cX0_maskOf 27 = .ok (.ishl, 1) := by decide +kernel
theorem dX0_maskOf_28 : decode cX0_maskOf 28 = .ok (.ior, 1) := by decide +kernel
theorem dX0_maskOf_29 : decode cX0_maskOf 29 = .ok (.istore_n 1, 1) := by decide +kernel
theorem dX0_maskOf_30 : decode cX0_maskOf 30 = .ok (.iinc 2 1, 3) := by decide +kernel
theorem dX0_maskOf_33 : decode cX0_maskOf 33 = .ok (.goto (-29), 3) := by decide +kernel
theorem dX0_maskOf_36 : decode cX0_maskOf 36 = .ok (.iload_n 1, 1) := by decide +kernel
theorem dX0_maskOf_37 : decode cX0_maskOf 37 = .ok (.ireturn, 1) := by decide +kernel
theorem dX0_decimal_0 : decode cX0_decimal 0 = .ok (.iconst 0, 1) := by decide +kernel
theorem dX0_decimal_1 : decode cX0_decimal 1 = .ok (.istore_n 1, 1) := by decide +kernel
theorem dX0_decimal_2 : decode cX0_decimal 2 = .ok (.iconst 0, 1) := by decide +kernel
theorem dX0_decimal_3 : decode cX0_decimal 3 = .ok (.istore_n 2, 1) := by decide +kernel
theorem dX0_decimal_4 : decode cX0_decimal 4 = .ok (.iload_n 2, 1) := by decide +kernel
theorem dX0_decimal_5 : decode cX0_decimal 5 = .ok (.bipush 6, 2) := by decide +kernel
theorem dX0_decimal_7 : decode cX0_decimal 7 = .ok (.if_icmp .ge 20, 3) := by decide +kernel
theorem dX0_decimal_10 : decode cX0_decimal 10 = .ok (.iload_n 1, 1) := by decide +kernel
theorem dX0_decimal_11 : decode cX0_decimal 11 = .ok (.bipush 10, 2) := by decide +kernel
theorem dX0_decimal_13 : decode cX0_decimal 13 = .ok (.imul, 1) := by decide +kernel
theorem dX0_decimal_14 : decode cX0_decimal 14 = .ok (.iload_n 0, 1) := by decide +kernel
theorem dX0_decimal_15 : decode cX0_decimal 15 = .ok (.iload_n 2, 1) := by decide +kernel
theorem dX0_decimal_16 : decode cX0_decimal 16 = .ok (.invokestatic 11, 3) := by decide +kernel
theorem dX0_decimal_19 : decode cX0_decimal 19 = .ok (.iadd, 1) := by decide +kernel
theorem dX0_decimal_20 : decode cX0_decimal 20 = .ok (.istore_n 1, 1) := by decide +kernel
theorem dX0_decimal_21 : decode cX0_decimal 21 = .ok (.iinc 2 1, 3) := by decide +kernel
theorem dX0_decimal_24 : decode cX0_decimal 24 = .ok (.goto (-20), 3) := by decide +kernel
theorem dX0_decimal_27 : decode cX0_decimal 27 = .ok (.iload_n 1, 1) := by decide +kernel
theorem dX0_decimal_28 : decode cX0_decimal 28 = .ok (.ireturn, 1) := by decide +kernel
theorem dX1_init_0 : decode cX1_init 0 = .ok (.aload_n 0, 1) := by decide +kernel
theorem dX1_init_1 : decode cX1_init 1 = .ok (.invokespecial 3, 3) := by decide +kernel
theorem dX1_init_4 : decode cX1_init 4 = .ok (.aload_n 0, 1) := by decide +kernel
theorem dX1_init_5 : decode cX1_init 5 = .ok (.bipush 31, 2) := by decide +kernel
theorem dX1_init_7 : decode cX1_init 7 = .ok (.sipush 200, 3) := by decide +kernel
theorem dX1_init_10 : decode cX1_init 10 = .ok (.multianewarray 9 2, 4) := by decide +kernel
theorem dX1_init_14 : decode cX1_init 14 = .ok (.putfield 11, 3) := by decide +kernel
theorem dX1_init_17 : decode cX1_init 17 = .ok (.aload_n 0, 1) := by decide +kernel
theorem dX1_init_18 : decode cX1_init 18 = .ok (.bipush 31, 2) := by decide +kernel
theorem dX1_init_20 : decode cX1_init 20 = .ok (.sipush 200, 3) := by decide +kernel
theorem dX1_init_23 : decode cX1_init 23 = .ok (.multianewarray 16 2, 4) := by decide +kernel
theorem dX1_init_27 : decode cX1_init 27 = .ok (.putfield 18, 3) := by decide +kernel
theorem dX1_init_30 : decode cX1_init 30 = .ok (.aload_n 0, 1) := by decide +kernel
theorem dX1_init_31 : decode cX1_init 31 = .ok (.bipush 31, 2) := by decide +kernel
theorem dX1_init_33 : decode cX1_init 33 = .ok (.newarray .int, 2) := by decide +kernel
theorem dX1_init_35 : decode cX1_init 35 = .ok (.putfield 21, 3) := by decide +kernel
theorem dX1_init_38 : decode cX1_init 38 = .ok (.aload_n 0, 1) := by decide +kernel
theorem dX1_init_39 : decode cX1_init 39 = .ok (.bipush 31, 2) := by decide +kernel
theorem dX1_init_41 : decode cX1_init 41 = .ok (.newarray .int, 2) := by decide +kernel
theorem dX1_init_43 : decode cX1_init 43 = .ok (.putfield 25, 3) := by decide +kernel
theorem dX1_init_46 : decode cX1_init 46 = .ok (.aload_n 0, 1) := by decide +kernel
theorem dX1_init_47 : decode cX1_init 47 = .ok (.bipush 31, 2) := by decide +kernel
theorem dX1_init_49 : decode cX1_init 49 = .ok (.newarray .int, 2) := by decide +kernel
theorem dX1_init_51 : decode cX1_init 51 = .ok (.putfield 28, 3) := by decide +kernel
theorem dX1_init_54 : decode cX1_init 54 = .ok (.aload_n 0, 1) := by decide +kernel
theorem dX1_init_55 : decode cX1_init 55 = .ok (.bipush 31, 2) := by decide +kernel
theorem dX1_init_57 : decode cX1_init 57 = .ok (.newarray .int, 2) := by decide +kernel
theorem dX1_init_59 : decode cX1_init 59 = .ok (.putfield 31, 3) := by decide +kernel
theorem dX1_init_62 : decode cX1_init 62 = .ok (.aload_n 0, 1) := by decide +kernel
theorem dX1_init_63 : decode cX1_init 63 = .ok (.bipush 31, 2) := by decide +kernel
theorem dX1_init_65 : decode cX1_init 65 = .ok (.newarray .int, 2) := by decide +kernel
theorem dX1_init_67 : decode cX1_init 67 = .ok (.putfield 34, 3) := by decide +kernel
theorem dX1_init_70 : decode cX1_init 70 = .ok (.aload_n 0, 1) := by decide +kernel
theorem dX1_init_71 : decode cX1_init 71 = .ok (.aload_n 1, 1) := by decide +kernel
theorem dX1_init_72 : decode cX1_init 72 = .ok (.putfield 37, 3) := by decide +kernel
theorem dX1_init_75 : decode cX1_init 75 = .ok (.return_, 1) := by decide +kernel
theorem dX1_end_0 : decode cX1_end 0 = .ok (.aload_n 0, 1) := by decide +kernel
theorem dX1_end_1 : decode cX1_end 1 = .ok (.iconst 0, 1) := by decide +kernel
theorem dX1_end_2 : decode cX1_end 2 = .ok (.putfield 41, 3) := by decide +kernel
theorem dX1_end_5 : decode cX1_end 5 = .ok (.return_, 1) := by decide +kernel
theorem dX1_start_0 : decode cX1_start 0 = .ok (.aload_n 0, 1) := by decide +kernel
theorem dX1_start_1 : decode cX1_start 1 = .ok (.getfield 37, 3) := by decide +kernel
theorem dX1_start_4 : decode cX1_start 4 = .ok (.invokevirtual 45, 3) := by decide +kernel
theorem dX1_start_7 : decode cX1_start 7 = .ok (.iconst 0, 1) := by decide +kernel
theorem dX1_start_8 : decode cX1_start 8 = .ok (.istore_n 1, 1) := by decide +kernel
theorem dX1_start_9 : decode cX1_start 9 = .ok (.iload_n 1, 1) := by decide +kernel
theorem dX1_start_10 : decode cX1_start 10 = .ok (.bipush 31, 2) := by decide +kernel
theorem dX1_start_12 : decode cX1_start 12 = .ok (.if_icmp .ge 54, 3) := by decide +kernel
theorem dX1_start_15 : decode cX1_start 15 = .ok (.aload_n 0, 1) := by decide +kernel
theorem dX1_start_16 : decode cX1_start 16 = .ok (.getfield 21, 3) := by decide +kernel
theorem dX1_start_19 : decode cX1_start 19 = .ok (.iload_n 1, 1) := by decide +kernel
theorem dX1_start_20 : decode cX1_start 20 = .ok (.iconst 0, 1) := by decide +kernel
theorem dX1_start_21 : decode cX1_start 21 = .ok (.iastore, 1) := by decide +kernel
theorem dX1_start_22 : decode cX1_start 22 = .ok (.aload_n 0, 1) := by decide +kernel
theorem dX1_start_23 : decode cX1_start 23 = .ok (.getfield 25, 3) := by decide +kernel
theorem dX1_start_26 : decode cX1_start 26 = .ok (.iload_n 1, 1) := by decide +kernel
theorem dX1_start_27 : decode cX1_start 27 = .ok (.iconst 0, 1) := by decide +kernel
theorem dX1_start_28 : decode cX1_start 28 = .ok (.iastore, 1) := by decide +kernel
theorem dX1_start_29 : decode cX1_start 29 = .ok (.aload_n 0, 1) := by decide +kernel
theorem dX1_start_30 : decode cX1_start 30 = .ok (.getfield 28, 3) := by decide +kernel
theorem dX1_start_33 : decode cX1_start 33 = .ok (.iload_n 1, 1) := by decide +kernel
theorem dX1_start_34 : decode cX1_start 34 = .ok (.iconst 0, 1) := by decide +kernel
theorem dX1_start_35 : decode cX1_start 35 = .ok (.iastore, 1) := by decide +kernel
theorem dX1_start_36 : decode cX1_start 36 = .ok (.aload_n 0, 1) := by decide +kernel
theorem dX1_start_37 : decode cX1_start 37 = .ok (.getfield 31, 3) := by decide +kernel
theorem dX1_start_40 : decode cX1_start 40 = .ok (.iload_n 1, 1) := by decide +kernel
theorem dX1_start_41 : decode cX1_start 41 = .ok (.iconst 0, 1) := by decide +kernel
theorem dX1_start_42 : decode cX1_start 42 = .ok (.iastore, 1) := by decide +kernel
theorem dX1_start_43 : decode cX1_start 43 = .ok (.aload_n 0, 1) := by decide +kernel
theorem dX1_start_44 : decode cX1_start 44 = .ok (.getfield 34, 3) := by decide +kernel
theorem dX1_start_47 : decode cX1_start 47 = .ok (.iload_n 1, 1) := by decide +kernel
theorem dX1_start_48 : decode cX1_start 48 = .ok (.aload_n 0, 1) := by decide +kernel
theorem dX1_start_49 : decode cX1_start 49 = .ok (.getfield 37, 3) := by decide +kernel
theorem dX1_start_52 : decode cX1_start 52 = .ok (.iload_n 1, 1) := by decide +kernel
theorem dX1_start_53 : decode cX1_start 53 = .ok (.invokevirtual 50, 3) := by decide +kernel
theorem dX1_start_56 : decode cX1_start 56 = .ok (.invokestatic 54, 3) := by decide +kernel
theorem dX1_start_59 : decode cX1_start 59 = .ok (.iastore, 1) := by decide +kernel
theorem dX1_start_60 : decode cX1_start 60 = .ok (.iinc 1 1, 3) := by decide +kernel
theorem dX1_start_63 : decode cX1_start 63 = .ok (.goto (-54), 3) := by decide +kernel
theorem dX1_start_66 : decode cX1_start 66 = .ok (.aload_n 0, 1) := by decide +kernel
theorem dX1_start_67 : decode cX1_start 67 = .ok (.iconst 1, 1) := by decide +kernel
theorem dX1_start_68 : decode cX1_start 68 = .ok (.putfield 41, 3) := by decide +kernel
theorem dX1_start_71 : decode cX1_start 71 = .ok (.aload_n 0, 1) := by decide +kernel
theorem dX1_start_72 : decode cX1_start 72 = .ok (.lconst 0, 1) := by decide +kernel
theorem dX1_start_73 : decode cX1_start 73 = .ok (.putfield 59, 3) := by decide +kernel
theorem dX1_start_76 : decode cX1_start 76 = .ok (.aload_n 0, 1) := by decide +kernel
theorem dX1_start_77 : decode cX1_start 77 = .ok (.iconst 0, 1) := by decide +kernel
theorem dX1_start_78 : decode cX1_start 78 = .ok (.putfield 63, 3) := by decide +kernel
theorem dX1_start_81 : decode cX1_start 81 = .ok (.aload_n 0, 1) := by decide +kernel
theorem dX1_start_82 : decode cX1_start 82 = .ok (.iconst 0, 1) := by decide +kernel
theorem dX1_start_83 : decode cX1_start 83 = .ok (.iconst 0, 1) := by decide +kernel
theorem dX1_start_84 : decode cX1_start 84 = .ok (.ldc2_w 67, 3) := by decide +kernel
theorem dX1_start_87 : decode cX1_start 87 = .ok (.invokevirtual 69, 3) := by decide +kernel
theorem dX1_start_90 : decode cX1_start 90 = .ok (.return_, 1) := by decide +kernel
theorem dX1_size_0 : decode cX1_size 0 = .ok (.iload_n 1, 1) := by decide +kernel
theorem dX1_size_1 : decode cX1_size 1 = .ok (.ifCond .lt 25, 3) := by decide +kernel
theorem dX1_size_4 : decode cX1_size 4 = .ok (.iload_n 1, 1) := by decide +kernel
theorem dX1_size_5 : decode cX1_size 5 = .ok (.bipush 31, 2) := by decide +kernel
theorem dX1_size_7 : decode cX1_size 7 = .ok (.if_icmp .ge 19, 3) := by decide +kernel
theorem dX1_size_10 : decode cX1_size 10 = .ok (.aload_n 0, 1) := by decide +kernel
theorem dX1_size_11 : decode cX1_size 11 = .ok (.getfield 25, 3) := by decide +kernel
theorem dX1_size_14 : decode cX1_size 14 = .ok (.iload_n 1, 1) := by decide +kernel
theorem dX1_size_15 : decode cX1_size 15 = .ok (.iaload, 1) := by decide +kernel
theorem dX1_size_16 : decode cX1_size 16 = .ok (.aload_n 0, 1) := by decide +kernel
theorem dX1_size_17 : decode cX1_size 17 = .ok (.getfield 21, 3) := by decide +kernel
theorem dX1_size_20 : decode cX1_size 20 = .ok (.iload_n 1, 1) := by decide +kernel
theorem dX1_size_21 : decode cX1_size 21 = .ok (.iaload, 1) := by decide +kernel
theorem dX1_size_22 : decode cX1_size 22 = .ok (.isub, 1) := by decide +kernel
theorem dX1_size_23 : decode cX1_size 23 = .ok (.goto 4, 3) := by decide +kernel
theorem dX1_size_26 : decode cX1_size 26 = .ok (.iconst 0, 1) := by decide +kernel
theorem dX1_size_27 : decode cX1_size 27 = .ok (.ireturn, 1) := by decide +kernel
theorem dX1_has_0 : decode cX1_has 0 = .ok (.iload_n 2, 1) := by decide +kernel
theorem dX1_has_1 : decode cX1_has 1 = .ok (.ifCond .lt 16, 3) := by decide +kernel
theorem dX1_has_4 : decode cX1_has 4 = .ok (.iload_n 2, 1) := by decide +kernel
theorem dX1_has_5 : decode cX1_has 5 = .ok (.aload_n 0, 1) := by decide +kernel
theorem dX1_has_6 : decode cX1_has 6 = .ok (.iload_n 1, 1) := by decide +kernel
theorem dX1_has_7 : decode cX1_has 7 = .ok (.invokevirtual 73, 3) := by decide +kernel
theorem dX1_has_10 : decode cX1_has 10 = .ok (.if_icmp .ge 7, 3) := by decide +kernel
theorem dX1_has_13 : decode cX1_has 13 = .ok (.iconst 1, 1) := by decide +kernel
theorem dX1_has_14 : decode cX1_has 14 = .ok (.goto 4, 3) := by decide +kernel
theorem dX1_has_17 : decode cX1_has 17 = .ok (.iconst 0, 1) := by decide +kernel
theorem dX1_has_18 : decode cX1_has 18 = .ok (.ireturn, 1) := by decide +kernel
theorem dX1_heldAt_0 : decode cX1_heldAt 0 = .ok (.aload_n 0, 1) := by decide +kernel
theorem dX1_heldAt_1 : decode cX1_heldAt 1 = .ok (.iload_n 1, 1) := by decide +kernel
theorem dX1_heldAt_2 : decode cX1_heldAt 2 = .ok (.iload_n 2, 1) := by decide +kernel
theorem dX1_heldAt_3 : decode cX1_heldAt 3 = .ok (.invokevirtual 76, 3) := by decide +kernel
theorem dX1_heldAt_6 : decode cX1_heldAt 6 = .ok (.ifCond .eq 21, 3) := by decide +kernel
theorem dX1_heldAt_9 : decode cX1_heldAt 9 = .ok (.aload_n 0, 1) := by decide +kernel
theorem dX1_heldAt_10 : decode cX1_heldAt 10 = .ok (.getfield 11, 3) := by decide +kernel
theorem dX1_heldAt_13 : decode cX1_heldAt 13 = .ok (.iload_n 1, 1) := by decide +kernel
theorem dX1_heldAt_14 : decode cX1_heldAt 14 = .ok (.aaload, 1) := by decide +kernel
theorem dX1_heldAt_15 : decode cX1_heldAt 15 = .ok (.aload_n 0, 1) := by decide +kernel
theorem dX1_heldAt_16 : decode cX1_heldAt 16 = .ok (.getfield 21, 3) := by decide +kernel
theorem dX1_heldAt_19 : decode cX1_heldAt 19 = .ok (.iload_n 1, 1) := by decide +kernel
theorem dX1_heldAt_20 : decode cX1_heldAt 20 = .ok (.iaload, 1) := by decide +kernel
theorem dX1_heldAt_21 : decode cX1_heldAt 21 = .ok (.iload_n 2, 1) := by decide +kernel
theorem dX1_heldAt_22 : decode cX1_heldAt 22 = .ok (.iadd, 1) := by decide +kernel
theorem dX1_heldAt_23 : decode cX1_heldAt 23 = .ok (.iaload, 1) := by decide +kernel
theorem dX1_heldAt_24 : decode cX1_heldAt 24 = .ok (.goto 4, 3) := by decide +kernel
theorem dX1_heldAt_27 : decode cX1_heldAt 27 = .ok (.iconst 0, 1) := by decide +kernel
theorem dX1_heldAt_28 : decode cX1_heldAt 28 = .ok (.ireturn, 1) := by decide +kernel
theorem dX1_massAt_0 : decode cX1_massAt 0 = .ok (.aload_n 0, 1) := by decide +kernel
theorem dX1_massAt_1 : decode cX1_massAt 1 = .ok (.iload_n 1, 1) := by decide +kernel
theorem dX1_massAt_2 : decode cX1_massAt 2 = .ok (.iload_n 2, 1) := by decide +kernel
theorem dX1_massAt_3 : decode cX1_massAt 3 = .ok (.invokevirtual 76, 3) := by decide +kernel
theorem dX1_massAt_6 : decode cX1_massAt 6 = .ok (.ifCond .eq 21, 3) := by decide +kernel
theorem dX1_massAt_9 : decode cX1_massAt 9 = .ok (.aload_n 0, 1) := by decide +kernel
theorem dX1_massAt_10 : decode cX1_massAt 10 = .ok (.getfield 18, 3) := by decide +kernel
theorem dX1_massAt_13 : decode cX1_massAt 13 = .ok (.iload_n 1, 1) := by decide +kernel
theorem dX1_massAt_14 : decode cX1_massAt 14 = .ok (.aaload, 1) := by decide +kernel
theorem dX1_massAt_15 : decode cX1_massAt 15 = .ok (.aload_n 0, 1) := by decide +kernel
theorem dX1_massAt_16 : decode cX1_massAt 16 = .ok (.getfield 21, 3) := by decide +kernel
theorem dX1_massAt_19 : decode cX1_massAt 19 = .ok (.iload_n 1, 1) := by decide +kernel
theorem dX1_massAt_20 : decode cX1_massAt 20 = .ok (.iaload, 1) := by decide +kernel
theorem dX1_massAt_21 : decode cX1_massAt 21 = .ok (.iload_n 2, 1) := by decide +kernel
theorem dX1_massAt_22 : decode cX1_massAt 22 = .ok (.iadd, 1) := by decide +kernel
theorem dX1_massAt_23 : decode cX1_massAt 23 = .ok (.laload, 1) := by decide +kernel
theorem dX1_massAt_24 : decode cX1_massAt 24 = .ok (.goto 4, 3) := by decide +kernel
theorem dX1_massAt_27 : decode cX1_massAt 27 = .ok (.lconst 0, 1) := by decide +kernel
theorem dX1_massAt_28 : decode cX1_massAt 28 = .ok (.lreturn, 1) := by decide +kernel
theorem dX1_total_0 : decode cX1_total 0 = .ok (.lconst 0, 1) := by decide +kernel
theorem dX1_total_1 : decode cX1_total 1 = .ok (.lstore 4, 2) := by decide +kernel
theorem dX1_total_3 : decode cX1_total 3 = .ok (.aload_n 0, 1) := by decide +kernel
theorem dX1_total_4 : decode cX1_total 4 = .ok (.iload_n 1, 1) := by decide +kernel
theorem dX1_total_5 : decode cX1_total 5 = .ok (.invokevirtual 73, 3) := by decide +kernel
theorem dX1_total_8 : decode cX1_total 8 = .ok (.istore 6, 2) := by decide +kernel
theorem dX1_total_10 : decode cX1_total 10 = .ok (.iconst 0, 1) := by decide +kernel
theorem dX1_total_11 : decode cX1_total 11 = .ok (.istore 7, 2) := by decide +kernel
theorem dX1_total_13 : decode cX1_total 13 = .ok (.iload 7, 2) := by decide +kernel
theorem dX1_total_15 : decode cX1_total 15 = .ok (.iload 6, 2) := by decide +kernel
theorem dX1_total_17 : decode cX1_total 17 = .ok (.if_icmp .ge 41, 3) := by decide +kernel
theorem dX1_total_20 : decode cX1_total 20 = .ok (.iload_n 2, 1) := by decide +kernel
theorem dX1_total_21 : decode cX1_total 21 = .ok (.iconst (-1), 1) := by decide +kernel
theorem dX1_total_22 : decode cX1_total 22 = .ok (.if_icmp .eq 18, 3) := by decide +kernel
theorem dX1_total_25 : decode cX1_total 25 = .ok (.aload_n 0, 1) := by decide +kernel
theorem dX1_total_26 : decode cX1_total 26 = .ok (.iload_n 1, 1) := by decide +kernel
theorem dX1_total_27 : decode cX1_total 27 = .ok (.iload 7, 2) := by decide +kernel
theorem dX1_total_29 : decode cX1_total 29 = .ok (.invokevirtual 80, 3) := by decide +kernel
theorem dX1_total_32 : decode cX1_total 32 = .ok (.iload_n 2, 1) := by decide +kernel
theorem dX1_total_33 : decode cX1_total 33 = .ok (.invokestatic 84, 3) := by decide +kernel
theorem dX1_total_36 : decode cX1_total 36 = .ok (.iload_n 3, 1) := by decide +kernel
theorem dX1_total_37 : decode cX1_total 37 = .ok (.if_icmp .ne 15, 3) := by decide +kernel
theorem dX1_total_40 : decode cX1_total 40 = .ok (.lload 4, 2) := by decide +kernel
theorem dX1_total_42 : decode cX1_total 42 = .ok (.aload_n 0, 1) := by decide +kernel
theorem dX1_total_43 : decode cX1_total 43 = .ok (.iload_n 1, 1) := by decide +kernel
theorem dX1_total_44 : decode cX1_total 44 = .ok (.iload 7, 2) := by decide +kernel
theorem dX1_total_46 : decode cX1_total 46 = .ok (.invokevirtual 87, 3) := by decide +kernel
theorem dX1_total_49 : decode cX1_total 49 = .ok (.ladd, 1) := by decide +kernel
theorem dX1_total_50 : decode cX1_total 50 = .ok (.lstore 4, 2) := by decide +kernel
theorem dX1_total_52 : decode cX1_total 52 = .ok (.iinc 7 1, 3) := by decide +kernel
theorem dX1_total_55 : decode cX1_total 55 = .ok (.goto (-42), 3) := by decide +kernel
theorem dX1_total_58 : decode cX1_total 58 = .ok (.lload 4, 2) := by decide +kernel
theorem dX1_total_60 : decode cX1_total 60 = .ok (.lreturn, 1) := by decide +kernel
theorem dX1_totalBeforeEnd_0 : decode cX1_totalBeforeEnd 0 = .ok (.lconst 0, 1) := by decide +kernel
theorem dX1_totalBeforeEnd_1 : decode cX1_totalBeforeEnd 1 = .ok (.lstore_n 3, 1) := by decide +kernel
theorem dX1_totalBeforeEnd_2 : decode cX1_totalBeforeEnd 2 = .ok (.iconst 0, 1) := by decide +kernel
theorem dX1_totalBeforeEnd_3 : decode cX1_totalBeforeEnd 3 = .ok (.istore 5, 2) := by decide +kernel
theorem dX1_totalBeforeEnd_5 : decode cX1_totalBeforeEnd 5 = .ok (.iload 5, 2) := by decide +kernel
theorem dX1_totalBeforeEnd_7 : decode cX1_totalBeforeEnd 7 = .ok (.aload_n 0, 1) := by decide +kernel
theorem dX1_totalBeforeEnd_8 : decode cX1_totalBeforeEnd 8 = .ok (.getfield 37, 3) := by decide +kernel
theorem dX1_totalBeforeEnd_11 : decode cX1_totalBeforeEnd 11 = .ok (.getfield 91, 3) := by decide +kernel
theorem dX1_totalBeforeEnd_14 : decode cX1_totalBeforeEnd 14 = .ok (.if_icmp .ge 20, 3) := by decide +kernel
theorem dX1_totalBeforeEnd_17 : decode cX1_totalBeforeEnd 17 = .ok (.lload_n 3, 1) := by decide +kernel
theorem dX1_totalBeforeEnd_18 : decode cX1_totalBeforeEnd 18 = .ok (.aload_n 0, 1) := by decide +kernel
theorem dX1_totalBeforeEnd_19 : decode cX1_totalBeforeEnd 19 = .ok (.iload 5, 2) := by decide +kernel
theorem dX1_totalBeforeEnd_21 : decode cX1_totalBeforeEnd 21 = .ok (.iload_n 1, 1) := by decide +kernel
theorem dX1_totalBeforeEnd_22 : decode cX1_totalBeforeEnd 22 = .ok (.iload_n 2, 1) := by decide +kernel
theorem dX1_totalBeforeEnd_23 : decode cX1_totalBeforeEnd 23 = .ok (.invokevirtual 94, 3) := by decide +kernel
theorem dX1_totalBeforeEnd_26 : decode cX1_totalBeforeEnd 26 = .ok (.ladd, 1) := by decide +kernel
theorem dX1_totalBeforeEnd_27 : decode cX1_totalBeforeEnd 27 = .ok (.lstore_n 3, 1) := by decide +kernel
theorem dX1_totalBeforeEnd_28 : decode cX1_totalBeforeEnd 28 = .ok (.iinc 5 1, 3) := by decide +kernel
theorem dX1_totalBeforeEnd_31 : decode cX1_totalBeforeEnd 31 = .ok (.goto (-26), 3) := by decide +kernel
theorem dX1_totalBeforeEnd_34 : decode cX1_totalBeforeEnd 34 = .ok (.lload_n 3, 1) := by decide +kernel
theorem dX1_totalBeforeEnd_35 : decode cX1_totalBeforeEnd 35 = .ok (.lreturn, 1) := by decide +kernel
theorem dX1_leastPlace_0 : decode cX1_leastPlace 0 = .ok (.iconst 0, 1) := by decide +kernel
theorem dX1_leastPlace_1 : decode cX1_leastPlace 1 = .ok (.istore_n 1, 1) := by decide +kernel
theorem dX1_leastPlace_2 : decode cX1_leastPlace 2 = .ok (.iload_n 1, 1) := by decide +kernel
theorem dX1_leastPlace_3 : decode cX1_leastPlace 3 = .ok (.aload_n 0, 1) := by decide +kernel
theorem dX1_leastPlace_4 : decode cX1_leastPlace 4 = .ok (.getfield 37, 3) := by decide +kernel
theorem dX1_leastPlace_7 : decode cX1_leastPlace 7 = .ok (.getfield 91, 3) := by decide +kernel
theorem dX1_leastPlace_10 : decode cX1_leastPlace 10 = .ok (.if_icmp .ge 19, 3) := by decide +kernel
theorem dX1_leastPlace_13 : decode cX1_leastPlace 13 = .ok (.aload_n 0, 1) := by decide +kernel
theorem dX1_leastPlace_14 : decode cX1_leastPlace 14 = .ok (.iload_n 1, 1) := by decide +kernel
theorem dX1_leastPlace_15 : decode cX1_leastPlace 15 = .ok (.invokevirtual 73, 3) := by decide +kernel
theorem dX1_leastPlace_18 : decode cX1_leastPlace 18 = .ok (.ifCond .le 5, 3) := by decide +kernel
theorem dX1_leastPlace_21 : decode cX1_leastPlace 21 = .ok (.iload_n 1, 1) := by decide +kernel
theorem dX1_leastPlace_22 : decode cX1_leastPlace 22 = .ok (.ireturn, 1) := by decide +kernel
theorem dX1_leastPlace_23 : decode cX1_leastPlace 23 = .ok (.iinc 1 1, 3) := by decide +kernel
theorem dX1_leastPlace_26 : decode cX1_leastPlace 26 = .ok (.goto (-24), 3) := by decide +kernel
theorem dX1_leastPlace_29 : decode cX1_leastPlace 29 = .ok (.bipush (-5), 2) := by decide +kernel
theorem dX1_leastPlace_31 : decode cX1_leastPlace 31 = .ok (.ireturn, 1) := by decide +kernel
theorem dX1_spend_0 : decode cX1_spend 0 = .ok (.iconst 0, 1) := by decide +kernel
theorem dX1_spend_1 : decode cX1_spend 1 = .ok (.istore_n 2, 1) := by decide +kernel
theorem dX1_spend_2 : decode cX1_spend 2 = .ok (.iload_n 2, 1) := by decide +kernel
theorem dX1_spend_3 : decode cX1_spend 3 = .ok (.iload_n 1, 1) := by decide +kernel
theorem dX1_spend_4 : decode cX1_spend 4 = .ok (.if_icmp .ge 36, 3) := by decide +kernel
theorem dX1_spend_7 : decode cX1_spend 7 = .ok (.aload_n 0, 1) := by decide +kernel
theorem dX1_spend_8 : decode cX1_spend 8 = .ok (.invokevirtual 98, 3) := by decide +kernel
theorem dX1_spend_11 : decode cX1_spend 11 = .ok (.istore_n 3, 1) := by decide +kernel
theorem dX1_spend_12 : decode cX1_spend 12 = .ok (.iload_n 3, 1) := by decide +kernel
theorem dX1_spend_13 : decode cX1_spend 13 = .ok (.bipush (-5), 2) := by decide +kernel
theorem dX1_spend_15 : decode cX1_spend 15 = .ok (.if_icmp .eq 25, 3) := by decide +kernel
theorem dX1_spend_18 : decode cX1_spend 18 = .ok (.aload_n 0, 1) := by decide +kernel
theorem dX1_spend_19 : decode cX1_spend 19 = .ok (.iload_n 3, 1) := by decide +kernel
theorem dX1_spend_20 : decode cX1_spend 20 = .ok (.invokevirtual 102, 3) := by decide +kernel
theorem dX1_spend_23 : decode cX1_spend 23 = .ok (.ifCond .ne 6, 3) := by decide +kernel
theorem dX1_spend_26 : decode cX1_spend 26 = .ok (.goto 14, 3) := by decide +kernel
theorem dX1_spend_29 : decode cX1_spend 29 = .ok (.aload_n 0, 1) := by decide +kernel
theorem dX1_spend_30 : decode cX1_spend 30 = .ok (.iload_n 3, 1) := by decide +kernel
theorem dX1_spend_31 : decode cX1_spend 31 = .ok (.invokevirtual 106, 3) := by decide +kernel
theorem dX1_spend_34 : decode cX1_spend 34 = .ok (.iinc 2 1, 3) := by decide +kernel
theorem dX1_spend_37 : decode cX1_spend 37 = .ok (.goto (-35), 3) := by decide +kernel
theorem dX1_spend_40 : decode cX1_spend 40 = .ok (.iload_n 2, 1) := by decide +kernel
theorem dX1_spend_41 : decode cX1_spend 41 = .ok (.ireturn, 1) := by decide +kernel
theorem dX1_hasRoomBehind_0 : decode cX1_hasRoomBehind 0 = .ok (.aload_n 0, 1) := by decide +kernel
theorem dX1_hasRoomBehind_1 : decode cX1_hasRoomBehind 1 = .ok (.iload_n 1, 1) := by decide +kernel
theorem dX1_hasRoomBehind_2 : decode cX1_hasRoomBehind 2 = .ok (.iconst 0, 1) := by decide +kernel
theorem dX1_hasRoomBehind_3 : decode cX1_hasRoomBehind 3 = .ok (.invokevirtual 80, 3) := by decide +kernel
theorem dX1_hasRoomBehind_6 : decode cX1_hasRoomBehind 6 = .ok (.istore_n 2, 1) := by decide +kernel
theorem dX1_hasRoomBehind_7 : decode cX1_hasRoomBehind 7 = .ok (.aload_n 0, 1) := by decide +kernel
theorem dX1_hasRoomBehind_8 : decode cX1_hasRoomBehind 8 = .ok (.getfield 37, 3) := by decide +kernel
theorem dX1_hasRoomBehind_11 : decode cX1_hasRoomBehind 11 = .ok (.iload_n 1, 1) := by decide +kernel
theorem dX1_hasRoomBehind_12 : decode cX1_hasRoomBehind 12 = .ok (.iload_n 2, 1) := by decide +kernel
theorem dX1_hasRoomBehind_13 : decode cX1_hasRoomBehind 13 = .ok (.invokevirtual 110, 3) := by decide +kernel
theorem dX1_hasRoomBehind_16 : decode cX1_hasRoomBehind 16 = .ok (.istore_n 3, 1) := by decide +kernel
theorem dX1_hasRoomBehind_17 : decode cX1_hasRoomBehind 17 = .ok (.iload_n 3, 1) := by decide +kernel
theorem dX1_hasRoomBehind_18 : decode cX1_hasRoomBehind 18 = .ok (.ifCond .lt 9, 3) := by decide +kernel
theorem dX1_hasRoomBehind_21 : decode cX1_hasRoomBehind 21 = .ok (.iload_n 3, 1) := by decide +kernel
theorem dX1_hasRoomBehind_22 : decode cX1_hasRoomBehind 22 = .ok (.bipush 31, 2) := by decide +kernel
theorem dX1_hasRoomBehind_24 : decode cX1_hasRoomBehind 24 = .ok (.if_icmp .lt 5, 3) := by decide +kernel
theorem dX1_hasRoomBehind_27 : decode cX1_hasRoomBehind 27 = .ok (.iconst 0, 1) := by decide +kernel
theorem dX1_hasRoomBehind_28 : decode cX1_hasRoomBehind 28 = .ok (.ireturn, 1) := by decide +kernel
theorem dX1_hasRoomBehind_29 : decode cX1_hasRoomBehind 29 = .ok (.sipush 200, 3) := by decide +kernel
theorem dX1_hasRoomBehind_32 : decode cX1_hasRoomBehind 32 = .ok (.aload_n 0, 1) := by decide +kernel
theorem dX1_hasRoomBehind_33 : decode cX1_hasRoomBehind 33 = .ok (.getfield 25, 3) := by decide +kernel
theorem dX1_hasRoomBehind_36 : decode cX1_hasRoomBehind 36 = .ok (.iload_n 3, 1) := by decide +kernel
theorem dX1_hasRoomBehind_37 : decode cX1_hasRoomBehind 37 = .ok (.iaload, 1) := by decide +kernel
theorem dX1_hasRoomBehind_38 : decode cX1_hasRoomBehind 38 = .ok (.isub, 1) := by decide +kernel
theorem dX1_hasRoomBehind_39 : decode cX1_hasRoomBehind 39 = .ok (.istore 4, 2) := by decide +kernel
theorem dX1_hasRoomBehind_41 : decode cX1_hasRoomBehind 41 = .ok (.aload_n 0, 1) := by decide +kernel
theorem dX1_hasRoomBehind_42 : decode cX1_hasRoomBehind 42 = .ok (.getfield 37, 3) := by decide +kernel
theorem dX1_hasRoomBehind_45 : decode cX1_hasRoomBehind 45 = .ok (.iload_n 1, 1) := by decide +kernel
theorem dX1_hasRoomBehind_46 : decode cX1_hasRoomBehind 46 = .ok (.invokevirtual 113, 3) := by decide +kernel
theorem dX1_hasRoomBehind_49 : decode cX1_hasRoomBehind 49 = .ok (.iload 4, 2) := by decide +kernel
theorem dX1_hasRoomBehind_51 : decode cX1_hasRoomBehind 51 = .ok (.if_icmp .le 14, 3) := by decide +kernel
theorem dX1_hasRoomBehind_54 : decode cX1_hasRoomBehind 54 = .ok (.aload_n 0, 1) := by decide +kernel
theorem dX1_hasRoomBehind_55 : decode cX1_hasRoomBehind 55 = .ok (.iload_n 1, 1) := by decide +kernel
theorem dX1_hasRoomBehind_56 : decode cX1_hasRoomBehind 56 = .ok (.iload_n 3, 1) := by decide +kernel
theorem dX1_hasRoomBehind_57 : decode cX1_hasRoomBehind 57 = .ok (.invokevirtual 116, 3) := by decide +kernel
theorem dX1_hasRoomBehind_60 : decode cX1_hasRoomBehind 60 = .ok (.iload 4, 2) := by decide +kernel
theorem dX1_hasRoomBehind_62 : decode cX1_hasRoomBehind 62 = .ok (.if_icmp .gt 7, 3) := by decide +kernel
theorem dX1_hasRoomBehind_65 : decode cX1_hasRoomBehind 65 = .ok (.iconst 1, 1) := by decide +kernel
theorem dX1_hasRoomBehind_66 : decode cX1_hasRoomBehind 66 = .ok (.goto 4, 3) := by decide +kernel
theorem dX1_hasRoomBehind_69 : decode cX1_hasRoomBehind 69 = .ok (.iconst 0, 1) := by decide +kernel
theorem dX1_hasRoomBehind_70 : decode cX1_hasRoomBehind 70 = .ok (.ireturn, 1) := by decide +kernel
theorem dX1_newBehind_0 : decode cX1_newBehind 0 = .ok (.aload_n 0, 1) := by decide +kernel
theorem dX1_newBehind_1 : decode cX1_newBehind 1 = .ok (.iload_n 1, 1) := by decide +kernel
theorem dX1_newBehind_2 : decode cX1_newBehind 2 = .ok (.iconst 0, 1) := by decide +kernel
theorem dX1_newBehind_3 : decode cX1_newBehind 3 = .ok (.invokevirtual 80, 3) := by decide +kernel
theorem dX1_newBehind_6 : decode cX1_newBehind 6 = .ok (.istore_n 3, 1) := by decide +kernel
theorem dX1_newBehind_7 : decode cX1_newBehind 7 = .ok (.aload_n 0, 1) := by decide +kernel
theorem dX1_newBehind_8 : decode cX1_newBehind 8 = .ok (.iload_n 1, 1) := by decide +kernel
theorem dX1_newBehind_9 : decode cX1_newBehind 9 = .ok (.iconst 0, 1) := by decide +kernel
theorem dX1_newBehind_10 : decode cX1_newBehind 10 = .ok (.invokevirtual 87, 3) := by decide +kernel
theorem dX1_newBehind_13 : decode cX1_newBehind 13 = .ok (.lstore 4, 2) := by decide +kernel
theorem dX1_newBehind_15 : decode cX1_newBehind 15 = .ok (.aload_n 0, 1) := by decide +kernel
theorem dX1_newBehind_16 : decode cX1_newBehind 16 = .ok (.getfield 37, 3) := by decide +kernel
theorem dX1_newBehind_19 : decode cX1_newBehind 19 = .ok (.iload_n 1, 1) := by decide +kernel
theorem dX1_newBehind_20 : decode cX1_newBehind 20 = .ok (.invokevirtual 113, 3) := by decide +kernel
theorem dX1_newBehind_23 : decode cX1_newBehind 23 = .ok (.istore 6, 2) := by decide +kernel
theorem dX1_newBehind_25 : decode cX1_newBehind 25 = .ok (.iconst 0, 1) := by decide +kernel
theorem dX1_newBehind_26 : decode cX1_newBehind 26 = .ok (.istore 7, 2) := by decide +kernel
theorem dX1_newBehind_28 : decode cX1_newBehind 28 = .ok (.bipush (-5), 2) := by decide +kernel
theorem dX1_newBehind_30 : decode cX1_newBehind 30 = .ok (.istore 8, 2) := by decide +kernel
theorem dX1_newBehind_32 : decode cX1_newBehind 32 = .ok (.iconst 0, 1) := by decide +kernel
theorem dX1_newBehind_33 : decode cX1_newBehind 33 = .ok (.istore 9, 2) := by decide +kernel
theorem dX1_newBehind_35 : decode cX1_newBehind 35 = .ok (.iload 9, 2) := by decide +kernel
theorem dX1_newBehind_37 : decode cX1_newBehind 37 = .ok (.iload 6, 2) := by decide +kernel
theorem dX1_newBehind_39 : decode cX1_newBehind 39 = .ok (.if_icmp .ge 78, 3) := by decide +kernel
theorem dX1_newBehind_42 : decode cX1_newBehind 42 = .ok (.aload_n 0, 1) := by decide +kernel
theorem dX1_newBehind_43 : decode cX1_newBehind 43 = .ok (.getfield 37, 3) := by decide +kernel
theorem dX1_newBehind_46 : decode cX1_newBehind 46 = .ok (.iload_n 1, 1) := by decide +kernel
theorem dX1_newBehind_47 : decode cX1_newBehind 47 = .ok (.iload 9, 2) := by decide +kernel
theorem dX1_newBehind_49 : decode cX1_newBehind 49 = .ok (.iload_n 3, 1) := by decide +kernel
theorem dX1_newBehind_50 : decode cX1_newBehind 50 = .ok (.lload 4, 2) := by decide +kernel
theorem dX1_newBehind_52 : decode cX1_newBehind 52 = .ok (.invokevirtual 119, 3) := by decide +kernel
theorem dX1_newBehind_55 : decode cX1_newBehind 55 = .ok (.lconst 0, 1) := by decide +kernel
theorem dX1_newBehind_56 : decode cX1_newBehind 56 = .ok (.lcmp, 1) := by decide +kernel
theorem dX1_newBehind_57 : decode cX1_newBehind 57 = .ok (.ifCond .le 54, 3) := by decide +kernel
theorem dX1_newBehind_60 : decode cX1_newBehind 60 = .ok (.aload_n 0, 1) := by decide +kernel
theorem dX1_newBehind_61 : decode cX1_newBehind 61 = .ok (.getfield 37, 3) := by decide +kernel
theorem dX1_newBehind_64 : decode cX1_newBehind 64 = .ok (.iload_n 1, 1) := by decide +kernel
theorem dX1_newBehind_65 : decode cX1_newBehind 65 = .ok (.iload 9, 2) := by decide +kernel
theorem dX1_newBehind_67 : decode cX1_newBehind 67 = .ok (.iload_n 3, 1) := by decide +kernel
theorem dX1_newBehind_68 : decode cX1_newBehind 68 = .ok (.invokevirtual 123, 3) := by decide +kernel
theorem dX1_newBehind_71 : decode cX1_newBehind 71 = .ok (.aload_n 0, 1) := by decide +kernel
theorem dX1_newBehind_72 : decode cX1_newBehind 72 = .ok (.getfield 34, 3) := by decide +kernel
theorem dX1_newBehind_75 : decode cX1_newBehind 75 = .ok (.iload_n 2, 1) := by decide +kernel
theorem dX1_newBehind_76 : decode cX1_newBehind 76 = .ok (.iaload, 1) := by decide +kernel
theorem dX1_newBehind_77 : decode cX1_newBehind 77 = .ok (.iand, 1) := by decide +kernel
theorem dX1_newBehind_78 : decode cX1_newBehind 78 = .ok (.istore 10, 2) := by decide +kernel
theorem dX1_newBehind_80 : decode cX1_newBehind 80 = .ok (.iload 10, 2) := by decide +kernel
theorem dX1_newBehind_82 : decode cX1_newBehind 82 = .ok (.iload 8, 2) := by decide +kernel
theorem dX1_newBehind_84 : decode cX1_newBehind 84 = .ok (.if_icmp .eq 27, 3) := by decide +kernel
theorem dX1_newBehind_87 : decode cX1_newBehind 87 = .ok (.aload_n 0, 1) := by decide +kernel
theorem dX1_newBehind_88 : decode cX1_newBehind 88 = .ok (.iload_n 2, 1) := by decide +kernel
theorem dX1_newBehind_89 : decode cX1_newBehind 89 = .ok (.iload 10, 2) := by decide +kernel
theorem dX1_newBehind_91 : decode cX1_newBehind 91 = .ok (.aload_n 0, 1) := by decide +kernel
theorem dX1_newBehind_92 : decode cX1_newBehind 92 = .ok (.iload_n 2, 1) := by decide +kernel
theorem dX1_newBehind_93 : decode cX1_newBehind 93 = .ok (.iload 10, 2) := by decide +kernel
theorem dX1_newBehind_95 : decode cX1_newBehind 95 = .ok (.invokevirtual 127, 3) := by decide +kernel
theorem dX1_newBehind_98 : decode cX1_newBehind 98 = .ok (.invokevirtual 130, 3) := by decide +kernel
theorem dX1_newBehind_101 : decode cX1_newBehind 101 = .ok (.ifCond .ne 10, 3) := by decide +kernel
theorem dX1_newBehind_104 : decode cX1_newBehind 104 = .ok (.iinc 7 1, 3) := by decide +kernel
theorem dX1_newBehind_107 : decode cX1_newBehind 107 = .ok (.iload 10, 2) := by decide +kernel
theorem dX1_newBehind_109 : decode cX1_newBehind 109 = .ok (.istore 8, 2) := by decide +kernel
theorem dX1_newBehind_111 : decode cX1_newBehind 111 = .ok (.iinc 9 1, 3) := by decide +kernel
theorem dX1_newBehind_114 : decode cX1_newBehind 114 = .ok (.goto (-79), 3) := by decide +kernel
theorem dX1_newBehind_117 : decode cX1_newBehind 117 = .ok (.iload 7, 2) := by decide +kernel
theorem dX1_newBehind_119 : decode cX1_newBehind 119 = .ok (.ireturn, 1) := by decide +kernel
theorem dX1_moveLeast_0 : decode cX1_moveLeast 0 = .ok (.aload_n 0, 1) := by decide +kernel
theorem dX1_moveLeast_1 : decode cX1_moveLeast 1 = .ok (.iload_n 1, 1) := by decide +kernel
theorem dX1_moveLeast_2 : decode cX1_moveLeast 2 = .ok (.iconst 0, 1) := by decide +kernel
theorem dX1_moveLeast_3 : decode cX1_moveLeast 3 = .ok (.invokevirtual 80, 3) := by decide +kernel
theorem dX1_moveLeast_6 : decode cX1_moveLeast 6 = .ok (.istore_n 2, 1) := by decide +kernel
theorem dX1_moveLeast_7 : decode cX1_moveLeast 7 = .ok (.aload_n 0, 1) := by decide +kernel
theorem dX1_moveLeast_8 : decode cX1_moveLeast 8 = .ok (.iload_n 1, 1) := by decide +kernel
theorem dX1_moveLeast_9 : decode cX1_moveLeast 9 = .ok (.iconst 0, 1) := by decide +kernel
theorem dX1_moveLeast_10 : decode cX1_moveLeast 10 = .ok (.invokevirtual 87, 3) := by decide +kernel
theorem dX1_moveLeast_13 : decode cX1_moveLeast 13 = .ok (.lstore_n 3, 1) := by decide +kernel
theorem dX1_moveLeast_14 : decode cX1_moveLeast 14 = .ok (.aload_n 0, 1) := by decide +kernel
theorem dX1_moveLeast_15 : decode cX1_moveLeast 15 = .ok (.getfield 37, 3) := by decide +kernel
theorem dX1_moveLeast_18 : decode cX1_moveLeast 18 = .ok (.iload_n 1, 1) := by decide +kernel
theorem dX1_moveLeast_19 : decode cX1_moveLeast 19 = .ok (.iload_n 2, 1) := by decide +kernel
theorem dX1_moveLeast_20 : decode cX1_moveLeast 20 = .ok (.invokevirtual 110, 3) := by decide +kernel
theorem dX1_moveLeast_23 : decode cX1_moveLeast 23 = .ok (.istore 5, 2) := by decide +kernel
theorem dX1_moveLeast_25 : decode cX1_moveLeast 25 = .ok (.aload_n 0, 1) := by decide +kernel
theorem dX1_moveLeast_26 : decode cX1_moveLeast 26 = .ok (.getfield 37, 3) := by decide +kernel
theorem dX1_moveLeast_29 : decode cX1_moveLeast 29 = .ok (.iload_n 1, 1) := by decide +kernel
theorem dX1_moveLeast_30 : decode cX1_moveLeast 30 = .ok (.invokevirtual 113, 3) := by decide +kernel
theorem dX1_moveLeast_33 : decode cX1_moveLeast 33 = .ok (.istore 6, 2) := by decide +kernel
theorem dX1_moveLeast_35 : decode cX1_moveLeast 35 = .ok (.aload_n 0, 1) := by decide +kernel
theorem dX1_moveLeast_36 : decode cX1_moveLeast 36 = .ok (.getfield 21, 3) := by decide +kernel
theorem dX1_moveLeast_39 : decode cX1_moveLeast 39 = .ok (.iload_n 1, 1) := by decide +kernel
theorem dX1_moveLeast_40 : decode cX1_moveLeast 40 = .ok (.dup2, 1) := by decide +kernel
theorem dX1_moveLeast_41 : decode cX1_moveLeast 41 = .ok (.iaload, 1) := by decide +kernel
theorem dX1_moveLeast_42 : decode cX1_moveLeast 42 = .ok (.iconst 1, 1) := by decide +kernel
theorem dX1_moveLeast_43 : decode cX1_moveLeast 43 = .ok (.iadd, 1) := by decide +kernel
theorem dX1_moveLeast_44 : decode cX1_moveLeast 44 = .ok (.iastore, 1) := by decide +kernel
theorem dX1_moveLeast_45 : decode cX1_moveLeast 45 = .ok (.aload_n 0, 1) := by decide +kernel
theorem dX1_moveLeast_46 : decode cX1_moveLeast 46 = .ok (.dup, 1) := by decide +kernel
theorem dX1_moveLeast_47 : decode cX1_moveLeast 47 = .ok (.getfield 63, 3) := by decide +kernel
theorem dX1_moveLeast_50 : decode cX1_moveLeast 50 = .ok (.iconst 1, 1) := by decide +kernel
theorem dX1_moveLeast_51 : decode cX1_moveLeast 51 = .ok (.iadd, 1) := by decide +kernel
theorem dX1_moveLeast_52 : decode cX1_moveLeast 52 = .ok (.putfield 63, 3) := by decide +kernel
theorem dX1_moveLeast_55 : decode cX1_moveLeast 55 = .ok (.iconst 0, 1) := by decide +kernel
theorem dX1_moveLeast_56 : decode cX1_moveLeast 56 = .ok (.istore 7, 2) := by decide +kernel
theorem dX1_moveLeast_58 : decode cX1_moveLeast 58 = .ok (.iload 7, 2) := by decide +kernel
theorem dX1_moveLeast_60 : decode cX1_moveLeast 60 = .ok (.iload 6, 2) := by decide +kernel
theorem dX1_moveLeast_62 : decode cX1_moveLeast 62 = .ok (.if_icmp .ge 73, 3) := by decide +kernel
theorem dX1_moveLeast_65 : decode cX1_moveLeast 65 = .ok (.aload_n 0, 1) := by decide +kernel
theorem dX1_moveLeast_66 : decode cX1_moveLeast 66 = .ok (.getfield 37, 3) := by decide +kernel
theorem dX1_moveLeast_69 : decode cX1_moveLeast 69 = .ok (.iload_n 1, 1) := by decide +kernel
theorem dX1_moveLeast_70 : decode cX1_moveLeast 70 = .ok (.iload 7, 2) := by decide +kernel
theorem dX1_moveLeast_72 : decode cX1_moveLeast 72 = .ok (.iload_n 2, 1) := by decide +kernel
theorem dX1_moveLeast_73 : decode cX1_moveLeast 73 = .ok (.lload_n 3, 1) := by decide +kernel
theorem dX1_moveLeast_74 : decode cX1_moveLeast 74 = .ok (.invokevirtual 119, 3) := by decide +kernel
theorem dX1_moveLeast_77 : decode cX1_moveLeast 77 = .ok (.lstore 8, 2) := by decide +kernel
theorem dX1_moveLeast_79 : decode cX1_moveLeast 79 = .ok (.lload 8, 2) := by decide +kernel
theorem dX1_moveLeast_81 : decode cX1_moveLeast 81 = .ok (.lconst 0, 1) := by decide +kernel
theorem dX1_moveLeast_82 : decode cX1_moveLeast 82 = .ok (.lcmp, 1) := by decide +kernel
theorem dX1_moveLeast_83 : decode cX1_moveLeast 83 = .ok (.ifCond .le 25, 3) := by decide +kernel
theorem dX1_moveLeast_86 : decode cX1_moveLeast 86 = .ok (.aload_n 0, 1) := by decide +kernel
theorem dX1_moveLeast_87 : decode cX1_moveLeast 87 = .ok (.iload 5, 2) := by decide +kernel
theorem dX1_moveLeast_89 : decode cX1_moveLeast 89 = .ok (.aload_n 0, 1) := by decide +kernel
theorem dX1_moveLeast_90 : decode cX1_moveLeast 90 = .ok (.getfield 37, 3) := by decide +kernel
theorem dX1_moveLeast_93 : decode cX1_moveLeast 93 = .ok (.iload_n 1, 1) := by decide +kernel
theorem dX1_moveLeast_94 : decode cX1_moveLeast 94 = .ok (.iload 7, 2) := by decide +kernel
theorem dX1_moveLeast_96 : decode cX1_moveLeast 96 = .ok (.iload_n 2, 1) := by decide +kernel
theorem dX1_moveLeast_97 : decode cX1_moveLeast 97 = .ok (.invokevirtual 123, 3) := by decide +kernel
theorem dX1_moveLeast_100 : decode cX1_moveLeast 100 = .ok (.lload 8, 2) := by decide +kernel
theorem dX1_moveLeast_102 : decode cX1_moveLeast 102 = .ok (.invokevirtual 69, 3) := by decide +kernel
theorem dX1_moveLeast_105 : decode cX1_moveLeast 105 = .ok (.goto 24, 3) := by decide +kernel
theorem dX1_moveLeast_108 : decode cX1_moveLeast 108 = .ok (.aload_n 0, 1) := by decide +kernel
theorem dX1_moveLeast_109 : decode cX1_moveLeast 109 = .ok (.getfield 37, 3) := by decide +kernel
theorem dX1_moveLeast_112 : decode cX1_moveLeast 112 = .ok (.iload_n 1, 1) := by decide +kernel
theorem dX1_moveLeast_113 : decode cX1_moveLeast 113 = .ok (.invokevirtual 134, 3) := by decide +kernel
theorem dX1_moveLeast_116 : decode cX1_moveLeast 116 = .ok (.ifCond .ne 13, 3) := by decide +kernel
theorem dX1_moveLeast_119 : decode cX1_moveLeast 119 = .ok (.aload_n 0, 1) := by decide +kernel
theorem dX1_moveLeast_120 : decode cX1_moveLeast 120 = .ok (.dup, 1) := by decide +kernel
theorem dX1_moveLeast_121 : decode cX1_moveLeast 121 = .ok (.getfield 59, 3) := by decide +kernel
theorem dX1_moveLeast_124 : decode cX1_moveLeast 124 = .ok (.lload_n 3, 1) := by decide +kernel
theorem dX1_moveLeast_125 : decode cX1_moveLeast 125 = .ok (.ladd, 1) := by decide +kernel
theorem dX1_moveLeast_126 : decode cX1_moveLeast 126 = .ok (.putfield 59, 3) := by decide +kernel
theorem dX1_moveLeast_129 : decode cX1_moveLeast 129 = .ok (.iinc 7 1, 3) := by decide +kernel
theorem dX1_moveLeast_132 : decode cX1_moveLeast 132 = .ok (.goto (-74), 3) := by decide +kernel
theorem dX1_moveLeast_135 : decode cX1_moveLeast 135 = .ok (.return_, 1) := by decide +kernel
theorem dX1_come_0 : decode cX1_come 0 = .ok (.iload_n 1, 1) := by decide +kernel
theorem dX1_come_1 : decode cX1_come 1 = .ok (.ifCond .lt 9, 3) := by decide +kernel
theorem dX1_come_4 : decode cX1_come 4 = .ok (.iload_n 1, 1) := by decide +kernel
theorem dX1_come_5 : decode cX1_come 5 = .ok (.bipush 31, 2) := by decide +kernel
theorem dX1_come_7 : decode cX1_come 7 = .ok (.if_icmp .lt 4, 3) := by decide +kernel
theorem dX1_come_10 : decode cX1_come 10 = .ok (.return_, 1) := by decide +kernel
theorem dX1_come_11 : decode cX1_come 11 = .ok (.iload_n 2, 1) := by decide +kernel
theorem dX1_come_12 : decode cX1_come 12 = .ok (.aload_n 0, 1) := by decide +kernel
theorem dX1_come_13 : decode cX1_come 13 = .ok (.getfield 34, 3) := by decide +kernel
theorem dX1_come_16 : decode cX1_come 16 = .ok (.iload_n 1, 1) := by decide +kernel
theorem dX1_come_17 : decode cX1_come 17 = .ok (.iaload, 1) := by decide +kernel
theorem dX1_come_18 : decode cX1_come 18 = .ok (.iand, 1) := by decide +kernel
theorem dX1_come_19 : decode cX1_come 19 = .ok (.istore 5, 2) := by decide +kernel
theorem dX1_come_21 : decode cX1_come 21 = .ok (.aload_n 0, 1) := by decide +kernel
theorem dX1_come_22 : decode cX1_come 22 = .ok (.iload_n 1, 1) := by decide +kernel
theorem dX1_come_23 : decode cX1_come 23 = .ok (.iload 5, 2) := by decide +kernel
theorem dX1_come_25 : decode cX1_come 25 = .ok (.invokevirtual 127, 3) := by decide +kernel
theorem dX1_come_28 : decode cX1_come 28 = .ok (.istore 6, 2) := by decide +kernel
theorem dX1_come_30 : decode cX1_come 30 = .ok (.aload_n 0, 1) := by decide +kernel
theorem dX1_come_31 : decode cX1_come 31 = .ok (.getfield 28, 3) := by decide +kernel
theorem dX1_come_34 : decode cX1_come 34 = .ok (.iload_n 1, 1) := by decide +kernel
theorem dX1_come_35 : decode cX1_come 35 = .ok (.dup2, 1) := by decide +kernel
theorem dX1_come_36 : decode cX1_come 36 = .ok (.iaload, 1) := by decide +kernel
theorem dX1_come_37 : decode cX1_come 37 = .ok (.iconst 1, 1) := by decide +kernel
theorem dX1_come_38 : decode cX1_come 38 = .ok (.iadd, 1) := by decide +kernel
theorem dX1_come_39 : decode cX1_come 39 = .ok (.iastore, 1) := by decide +kernel
theorem dX1_come_40 : decode cX1_come 40 = .ok (.aload_n 0, 1) := by decide +kernel
theorem dX1_come_41 : decode cX1_come 41 = .ok (.iload_n 1, 1) := by decide +kernel
theorem dX1_come_42 : decode cX1_come 42 = .ok (.iload 5, 2) := by decide +kernel
theorem dX1_come_44 : decode cX1_come 44 = .ok (.iload 6, 2) := by decide +kernel
theorem dX1_come_46 : decode cX1_come 46 = .ok (.invokevirtual 130, 3) := by decide +kernel
theorem dX1_come_49 : decode cX1_come 49 = .ok (.ifCond .eq 29, 3) := by decide +kernel
theorem dX1_come_52 : decode cX1_come 52 = .ok (.aload_n 0, 1) := by decide +kernel
theorem dX1_come_53 : decode cX1_come 53 = .ok (.getfield 18, 3) := by decide +kernel
theorem dX1_come_56 : decode cX1_come 56 = .ok (.iload_n 1, 1) := by decide +kernel
theorem dX1_come_57 : decode cX1_come 57 = .ok (.aaload, 1) := by decide +kernel
theorem dX1_come_58 : decode cX1_come 58 = .ok (.iload 6, 2) := by decide +kernel
theorem dX1_come_60 : decode cX1_come 60 = .ok (.dup2, 1) := by decide +kernel
theorem dX1_come_61 : decode cX1_come 61 = .ok (.laload, 1) := by decide +kernel
theorem dX1_come_62 : decode cX1_come 62 = .ok (.lload_n 3, 1) := by decide +kernel
theorem dX1_come_63 : decode cX1_come 63 = .ok (.ladd, 1) := by decide +kernel
theorem dX1_come_64 : decode cX1_come 64 = .ok (.lastore, 1) := by decide +kernel
theorem dX1_come_65 : decode cX1_come 65 = .ok (.aload_n 0, 1) := by decide +kernel
theorem dX1_come_66 : decode cX1_come 66 = .ok (.getfield 31, 3) := by decide +kernel
theorem dX1_come_69 : decode cX1_come 69 = .ok (.iload_n 1, 1) := by decide +kernel
theorem dX1_come_70 : decode cX1_come 70 = .ok (.dup2, 1) := by decide +kernel
theorem dX1_come_71 : decode cX1_come 71 = .ok (.iaload, 1) := by decide +kernel
theorem dX1_come_72 : decode cX1_come 72 = .ok (.iconst 1, 1) := by decide +kernel
theorem dX1_come_73 : decode cX1_come 73 = .ok (.iadd, 1) := by decide +kernel
theorem dX1_come_74 : decode cX1_come 74 = .ok (.iastore, 1) := by decide +kernel
theorem dX1_come_75 : decode cX1_come 75 = .ok (.goto 13, 3) := by decide +kernel
theorem dX1_come_78 : decode cX1_come 78 = .ok (.aload_n 0, 1) := by decide +kernel
theorem dX1_come_79 : decode cX1_come 79 = .ok (.iload_n 1, 1) := by decide +kernel
theorem dX1_come_80 : decode cX1_come 80 = .ok (.iload 6, 2) := by decide +kernel
theorem dX1_come_82 : decode cX1_come 82 = .ok (.iload 5, 2) := by decide +kernel
theorem dX1_come_84 : decode cX1_come 84 = .ok (.lload_n 3, 1) := by decide +kernel
theorem dX1_come_85 : decode cX1_come 85 = .ok (.invokevirtual 137, 3) := by decide +kernel
theorem dX1_come_88 : decode cX1_come 88 = .ok (.return_, 1) := by decide +kernel
theorem dX1_insert_0 : decode cX1_insert 0 = .ok (.aload_n 0, 1) := by decide +kernel
theorem dX1_insert_1 : decode cX1_insert 1 = .ok (.getfield 25, 3) := by decide +kernel
theorem dX1_insert_4 : decode cX1_insert 4 = .ok (.iload_n 1, 1) := by decide +kernel
theorem dX1_insert_5 : decode cX1_insert 5 = .ok (.iaload, 1) := by decide +kernel
theorem dX1_insert_6 : decode cX1_insert 6 = .ok (.istore 6, 2) := by decide +kernel
theorem dX1_insert_8 : decode cX1_insert 8 = .ok (.iload_n 2, 1) := by decide +kernel
theorem dX1_insert_9 : decode cX1_insert 9 = .ok (.ifCond .lt 17, 3) := by decide +kernel
theorem dX1_insert_12 : decode cX1_insert 12 = .ok (.iload_n 2, 1) := by decide +kernel
theorem dX1_insert_13 : decode cX1_insert 13 = .ok (.iload 6, 2) := by decide +kernel
theorem dX1_insert_15 : decode cX1_insert 15 = .ok (.if_icmp .gt 11, 3) := by decide +kernel
theorem dX1_insert_18 : decode cX1_insert 18 = .ok (.iload 6, 2) := by decide +kernel
theorem dX1_insert_20 : decode cX1_insert 20 = .ok (.sipush 200, 3) := by decide +kernel
theorem dX1_insert_23 : decode cX1_insert 23 = .ok (.if_icmp .lt 4, 3) := by decide +kernel
theorem dX1_insert_26 : decode cX1_insert 26 = .ok (.return_, 1) := by decide +kernel
theorem dX1_insert_27 : decode cX1_insert 27 = .ok (.aload_n 0, 1) := by decide +kernel
theorem dX1_insert_28 : decode cX1_insert 28 = .ok (.getfield 11, 3) := by decide +kernel
theorem dX1_insert_31 : decode cX1_insert 31 = .ok (.iload_n 1, 1) := by decide +kernel
theorem dX1_insert_32 : decode cX1_insert 32 = .ok (.aaload, 1) := by decide +kernel
theorem dX1_insert_33 : decode cX1_insert 33 = .ok (.iload_n 2, 1) := by decide +kernel
theorem dX1_insert_34 : decode cX1_insert 34 = .ok (.aload_n 0, 1) := by decide +kernel
theorem dX1_insert_35 : decode cX1_insert 35 = .ok (.getfield 11, 3) := by decide +kernel
theorem dX1_insert_38 : decode cX1_insert 38 = .ok (.iload_n 1, 1) := by decide +kernel
theorem dX1_insert_39 : decode cX1_insert 39 = .ok (.aaload, 1) := by decide +kernel
theorem dX1_insert_40 : decode cX1_insert 40 = .ok (.iload_n 2, 1) := by decide +kernel
theorem dX1_insert_41 : decode cX1_insert 41 = .ok (.iconst 1, 1) := by decide +kernel
theorem dX1_insert_42 : decode cX1_insert 42 = .ok (.iadd, 1) := by decide +kernel
theorem dX1_insert_43 : decode cX1_insert 43 = .ok (.iload 6, 2) := by decide +kernel
theorem dX1_insert_45 : decode cX1_insert 45 = .ok (.iload_n 2, 1) := by decide +kernel
theorem dX1_insert_46 : decode cX1_insert 46 = .ok (.isub, 1) := by decide +kernel
theorem dX1_insert_47 : decode cX1_insert 47 = .ok (.invokestatic 141, 3) := by decide +kernel
theorem dX1_insert_50 : decode cX1_insert 50 = .ok (.aload_n 0, 1) := by decide +kernel
theorem dX1_insert_51 : decode cX1_insert 51 = .ok (.getfield 18, 3) := by decide +kernel
theorem dX1_insert_54 : decode cX1_insert 54 = .ok (.iload_n 1, 1) := by decide +kernel
theorem dX1_insert_55 : decode cX1_insert 55 = .ok (.aaload, 1) := by decide +kernel
theorem dX1_insert_56 : decode cX1_insert 56 = .ok (.iload_n 2, 1) := by decide +kernel
theorem dX1_insert_57 : decode cX1_insert 57 = .ok (.aload_n 0, 1) := by decide +kernel
theorem dX1_insert_58 : decode cX1_insert 58 = .ok (.getfield 18, 3) := by decide +kernel
theorem dX1_insert_61 : decode cX1_insert 61 = .ok (.iload_n 1, 1) := by decide +kernel
theorem dX1_insert_62 : decode cX1_insert 62 = .ok (.aaload, 1) := by decide +kernel
theorem dX1_insert_63 : decode cX1_insert 63 = .ok (.iload_n 2, 1) := by decide +kernel
theorem dX1_insert_64 : decode cX1_insert 64 = .ok (.iconst 1, 1) := by decide +kernel
theorem dX1_insert_65 : decode cX1_insert 65 = .ok (.iadd, 1) := by decide +kernel
theorem dX1_insert_66 : decode cX1_insert 66 = .ok (.iload 6, 2) := by decide +kernel
theorem dX1_insert_68 : decode cX1_insert 68 = .ok (.iload_n 2, 1) := by decide +kernel
theorem dX1_insert_69 : decode cX1_insert 69 = .ok (.isub, 1) := by decide +kernel
theorem dX1_insert_70 : decode cX1_insert 70 = .ok (.invokestatic 141, 3) := by decide +kernel
theorem dX1_insert_73 : decode cX1_insert 73 = .ok (.aload_n 0, 1) := by decide +kernel
theorem dX1_insert_74 : decode cX1_insert 74 = .ok (.getfield 11, 3) := by decide +kernel
theorem dX1_insert_77 : decode cX1_insert 77 = .ok (.iload_n 1, 1) := by decide +kernel
theorem dX1_insert_78 : decode cX1_insert 78 = .ok (.aaload, 1) := by decide +kernel
theorem dX1_insert_79 : decode cX1_insert 79 = .ok (.iload_n 2, 1) := by decide +kernel
theorem dX1_insert_80 : decode cX1_insert 80 = .ok (.iload_n 3, 1) := by decide +kernel
theorem dX1_insert_81 : decode cX1_insert 81 = .ok (.iastore, 1) := by decide +kernel
theorem dX1_insert_82 : decode cX1_insert 82 = .ok (.aload_n 0, 1) := by decide +kernel
theorem dX1_insert_83 : decode cX1_insert 83 = .ok (.getfield 18, 3) := by decide +kernel
theorem dX1_insert_86 : decode cX1_insert 86 = .ok (.iload_n 1, 1) := by decide +kernel
theorem dX1_insert_87 : decode cX1_insert 87 = .ok (.aaload, 1) := by decide +kernel
theorem dX1_insert_88 : decode cX1_insert 88 = .ok (.iload_n 2, 1) := by decide +kernel
theorem dX1_insert_89 : decode cX1_insert 89 = .ok (.lload 4, 2) := by decide +kernel
theorem dX1_insert_91 : decode cX1_insert 91 = .ok (.lastore, 1) := by decide +kernel
theorem dX1_insert_92 : decode cX1_insert 92 = .ok (.aload_n 0, 1) := by decide +kernel
theorem dX1_insert_93 : decode cX1_insert 93 = .ok (.getfield 25, 3) := by decide +kernel
theorem dX1_insert_96 : decode cX1_insert 96 = .ok (.iload_n 1, 1) := by decide +kernel
theorem dX1_insert_97 : decode cX1_insert 97 = .ok (.iload 6, 2) := by decide +kernel
theorem dX1_insert_99 : decode cX1_insert 99 = .ok (.iconst 1, 1) := by decide +kernel
theorem dX1_insert_100 : decode cX1_insert 100 = .ok (.iadd, 1) := by decide +kernel
theorem dX1_insert_101 : decode cX1_insert 101 = .ok (.iastore, 1) := by decide +kernel
theorem dX1_insert_102 : decode cX1_insert 102 = .ok (.return_, 1) := by decide +kernel
theorem dX1_isThere_0 : decode cX1_isThere 0 = .ok (.iload_n 3, 1) := by decide +kernel
theorem dX1_isThere_1 : decode cX1_isThere 1 = .ok (.ifCond .lt 29, 3) := by decide +kernel
theorem dX1_isThere_4 : decode cX1_isThere 4 = .ok (.iload_n 3, 1) := by decide +kernel
theorem dX1_isThere_5 : decode cX1_isThere 5 = .ok (.aload_n 0, 1) := by decide +kernel
theorem dX1_isThere_6 : decode cX1_isThere 6 = .ok (.getfield 25, 3) := by decide +kernel
theorem dX1_isThere_9 : decode cX1_isThere 9 = .ok (.iload_n 1, 1) := by decide +kernel
theorem dX1_isThere_10 : decode cX1_isThere 10 = .ok (.iaload, 1) := by decide +kernel
theorem dX1_isThere_11 : decode cX1_isThere 11 = .ok (.if_icmp .ge 19, 3) := by decide +kernel
theorem dX1_isThere_14 : decode cX1_isThere 14 = .ok (.aload_n 0, 1) := by decide +kernel
theorem dX1_isThere_15 : decode cX1_isThere 15 = .ok (.getfield 11, 3) := by decide +kernel
theorem dX1_isThere_18 : decode cX1_isThere 18 = .ok (.iload_n 1, 1) := by decide +kernel
theorem dX1_isThere_19 : decode cX1_isThere 19 = .ok (.aaload, 1) := by decide +kernel
theorem dX1_isThere_20 : decode cX1_isThere 20 = .ok (.iload_n 3, 1) := by decide +kernel
theorem dX1_isThere_21 : decode cX1_isThere 21 = .ok (.iaload, 1) := by decide +kernel
theorem dX1_isThere_22 : decode cX1_isThere 22 = .ok (.iload_n 2, 1) := by decide +kernel
theorem dX1_isThere_23 : decode cX1_isThere 23 = .ok (.if_icmp .ne 7, 3) := by decide +kernel
theorem dX1_isThere_26 : decode cX1_isThere 26 = .ok (.iconst 1, 1) := by decide +kernel
theorem dX1_isThere_27 : decode cX1_isThere 27 = .ok (.goto 4, 3) := by decide +kernel
theorem dX1_isThere_30 : decode cX1_isThere 30 = .ok (.iconst 0, 1) := by decide +kernel
theorem dX1_isThere_31 : decode cX1_isThere 31 = .ok (.ireturn, 1) := by decide +kernel
theorem dX1_seat_0 : decode cX1_seat 0 = .ok (.aload_n 0, 1) := by decide +kernel
theorem dX1_seat_1 : decode cX1_seat 1 = .ok (.getfield 21, 3) := by decide +kernel
theorem dX1_seat_4 : decode cX1_seat 4 = .ok (.iload_n 1, 1) := by decide +kernel
theorem dX1_seat_5 : decode cX1_seat 5 = .ok (.iaload, 1) := by decide +kernel
theorem dX1_seat_6 : decode cX1_seat 6 = .ok (.istore_n 3, 1) := by decide +kernel
theorem dX1_seat_7 : decode cX1_seat 7 = .ok (.aload_n 0, 1) := by decide +kernel
theorem dX1_seat_8 : decode cX1_seat 8 = .ok (.getfield 25, 3) := by decide +kernel
theorem dX1_seat_11 : decode cX1_seat 11 = .ok (.iload_n 1, 1) := by decide +kernel
theorem dX1_seat_12 : decode cX1_seat 12 = .ok (.iaload, 1) := by decide +kernel
theorem dX1_seat_13 : decode cX1_seat 13 = .ok (.istore 4, 2) := by decide +kernel
theorem dX1_seat_15 : decode cX1_seat 15 = .ok (.iconst 0, 1) := by decide +kernel
theorem dX1_seat_16 : decode cX1_seat 16 = .ok (.istore 5, 2) := by decide +kernel
theorem dX1_seat_18 : decode cX1_seat 18 = .ok (.iload 5, 2) := by decide +kernel
theorem dX1_seat_20 : decode cX1_seat 20 = .ok (.sipush 200, 3) := by decide +kernel
theorem dX1_seat_23 : decode cX1_seat 23 = .ok (.if_icmp .ge 48, 3) := by decide +kernel
theorem dX1_seat_26 : decode cX1_seat 26 = .ok (.iload_n 3, 1) := by decide +kernel
theorem dX1_seat_27 : decode cX1_seat 27 = .ok (.iload 4, 2) := by decide +kernel
theorem dX1_seat_29 : decode cX1_seat 29 = .ok (.if_icmp .ge 42, 3) := by decide +kernel
theorem dX1_seat_32 : decode cX1_seat 32 = .ok (.iload_n 3, 1) := by decide +kernel
theorem dX1_seat_33 : decode cX1_seat 33 = .ok (.iload 4, 2) := by decide +kernel
theorem dX1_seat_35 : decode cX1_seat 35 = .ok (.iadd, 1) := by decide +kernel
theorem dX1_seat_36 : decode cX1_seat 36 = .ok (.iconst 1, 1) := by decide +kernel
theorem dX1_seat_37 : decode cX1_seat 37 = .ok (.ishr, 1) := by decide +kernel
theorem dX1_seat_38 : decode cX1_seat 38 = .ok (.istore 6, 2) := by decide +kernel
theorem dX1_seat_40 : decode cX1_seat 40 = .ok (.aload_n 0, 1) := by decide +kernel
theorem dX1_seat_41 : decode cX1_seat 41 = .ok (.getfield 11, 3) := by decide +kernel
theorem dX1_seat_44 : decode cX1_seat 44 = .ok (.iload_n 1, 1) := by decide +kernel
theorem dX1_seat_45 : decode cX1_seat 45 = .ok (.aaload, 1) := by decide +kernel
theorem dX1_seat_46 : decode cX1_seat 46 = .ok (.iload 6, 2) := by decide +kernel
theorem dX1_seat_48 : decode cX1_seat 48 = .ok (.iaload, 1) := by decide +kernel
theorem dX1_seat_49 : decode cX1_seat 49 = .ok (.iload_n 2, 1) := by decide +kernel
theorem dX1_seat_50 : decode cX1_seat 50 = .ok (.if_icmp .ge 11, 3) := by decide +kernel
theorem dX1_seat_53 : decode cX1_seat 53 = .ok (.iload 6, 2) := by decide +kernel
theorem dX1_seat_55 : decode cX1_seat 55 = .ok (.iconst 1, 1) := by decide +kernel
theorem dX1_seat_56 : decode cX1_seat 56 = .ok (.iadd, 1) := by decide +kernel
theorem dX1_seat_57 : decode cX1_seat 57 = .ok (.istore_n 3, 1) := by decide +kernel
theorem dX1_seat_58 : decode cX1_seat 58 = .ok (.goto 7, 3) := by decide +kernel
theorem dX1_seat_61 : decode cX1_seat 61 = .ok (.iload 6, 2) := by decide +kernel
theorem dX1_seat_63 : decode cX1_seat 63 = .ok (.istore 4, 2) := by decide +kernel
theorem dX1_seat_65 : decode cX1_seat 65 = .ok (.iinc 5 1, 3) := by decide +kernel
theorem dX1_seat_68 : decode cX1_seat 68 = .ok (.goto (-50), 3) := by decide +kernel
theorem dX1_seat_71 : decode cX1_seat 71 = .ok (.iload_n 3, 1) := by decide +kernel
theorem dX1_seat_72 : decode cX1_seat 72 = .ok (.ireturn, 1) := by decide +kernel
theorem dX2_init_0 : decode cX2_init 0 = .ok (.aload_n 0, 1) := by decide +kernel
theorem dX2_init_1 : decode cX2_init 1 = .ok (.invokespecial 3, 3) := by decide +kernel
theorem dX2_init_4 : decode cX2_init 4 = .ok (.aload_n 0, 1) := by decide +kernel
theorem dX2_init_5 : decode cX2_init 5 = .ok (.bipush 30, 2) := by decide +kernel
theorem dX2_init_7 : decode cX2_init 7 = .ok (.newarray .int, 2) := by decide +kernel
theorem dX2_init_9 : decode cX2_init 9 = .ok (.putfield 9, 3) := by decide +kernel
theorem dX2_init_12 : decode cX2_init 12 = .ok (.aload_n 0, 1) := by decide +kernel
theorem dX2_init_13 : decode cX2_init 13 = .ok (.bipush 30, 2) := by decide +kernel
theorem dX2_init_15 : decode cX2_init 15 = .ok (.newarray .int, 2) := by decide +kernel
theorem dX2_init_17 : decode cX2_init 17 = .ok (.putfield 15, 3) := by decide +kernel
theorem dX2_init_20 : decode cX2_init 20 = .ok (.aload_n 0, 1) := by decide +kernel
theorem dX2_init_21 : decode cX2_init 21 = .ok (.bipush 30, 2) := by decide +kernel
theorem dX2_init_23 : decode cX2_init 23 = .ok (.newarray .int, 2) := by decide +kernel
theorem dX2_init_25 : decode cX2_init 25 = .ok (.putfield 18, 3) := by decide +kernel
theorem dX2_init_28 : decode cX2_init 28 = .ok (.aload_n 0, 1) := by decide +kernel
theorem dX2_init_29 : decode cX2_init 29 = .ok (.bipush 30, 2) := by decide +kernel
theorem dX2_init_31 : decode cX2_init 31 = .ok (.newarray .int, 2) := by decide +kernel
theorem dX2_init_33 : decode cX2_init 33 = .ok (.putfield 21, 3) := by decide +kernel
theorem dX2_init_36 : decode cX2_init 36 = .ok (.aload_n 0, 1) := by decide +kernel
theorem dX2_init_37 : decode cX2_init 37 = .ok (.bipush 30, 2) := by decide +kernel
theorem dX2_init_39 : decode cX2_init 39 = .ok (.newarray .int, 2) := by decide +kernel
theorem dX2_init_41 : decode cX2_init 41 = .ok (.putfield 24, 3) := by decide +kernel
theorem dX2_init_44 : decode cX2_init 44 = .ok (.aload_n 0, 1) := by decide +kernel
theorem dX2_init_45 : decode cX2_init 45 = .ok (.iconst 4, 1) := by decide +kernel
theorem dX2_init_46 : decode cX2_init 46 = .ok (.bipush 10, 2) := by decide +kernel
theorem dX2_init_48 : decode cX2_init 48 = .ok (.multianewarray 27 2, 4) := by decide +kernel
theorem dX2_init_52 : decode cX2_init 52 = .ok (.putfield 29, 3) := by decide +kernel
theorem dX2_init_55 : decode cX2_init 55 = .ok (.aload_n 0, 1) := by decide +kernel
theorem dX2_init_56 : decode cX2_init 56 = .ok (.bipush 31, 2) := by decide +kernel
theorem dX2_init_58 : decode cX2_init 58 = .ok (.newarray .int, 2) := by decide +kernel
theorem dX2_init_60 : decode cX2_init 60 = .ok (.putfield 32, 3) := by decide +kernel
theorem dX2_init_63 : decode cX2_init 63 = .ok (.aload_n 0, 1) := by decide +kernel
theorem dX2_init_64 : decode cX2_init 64 = .ok (.invokevirtual 35, 3) := by decide +kernel
theorem dX2_init_67 : decode cX2_init 67 = .ok (.return_, 1) := by decide +kernel
theorem dX2_reset_0 : decode cX2_reset 0 = .ok (.aload_n 0, 1) := by decide +kernel
theorem dX2_reset_1 : decode cX2_reset 1 = .ok (.iconst 0, 1) := by decide +kernel
theorem dX2_reset_2 : decode cX2_reset 2 = .ok (.putfield 38, 3) := by decide +kernel
theorem dX2_reset_5 : decode cX2_reset 5 = .ok (.aload_n 0, 1) := by decide +kernel
theorem dX2_reset_6 : decode cX2_reset 6 = .ok (.iconst 0, 1) := by decide +kernel
theorem dX2_reset_7 : decode cX2_reset 7 = .ok (.putfield 42, 3) := by decide +kernel
theorem dX2_reset_10 : decode cX2_reset 10 = .ok (.aload_n 0, 1) := by decide +kernel
theorem dX2_reset_11 : decode cX2_reset 11 = .ok (.iconst 0, 1) := by decide +kernel
theorem dX2_reset_12 : decode cX2_reset 12 = .ok (.putfield 45, 3) := by decide +kernel
theorem dX2_reset_15 : decode cX2_reset 15 = .ok (.aload_n 0, 1) := by decide +kernel
theorem dX2_reset_16 : decode cX2_reset 16 = .ok (.iconst 0, 1) := by decide +kernel
theorem dX2_reset_17 : decode cX2_reset 17 = .ok (.putfield 48, 3) := by decide +kernel
theorem dX2_reset_20 : decode cX2_reset 20 = .ok (.iconst 0, 1) := by decide +kernel
theorem dX2_reset_21 : decode cX2_reset 21 = .ok (.istore_n 1, 1) := by decide +kernel
theorem dX2_reset_22 : decode cX2_reset 22 = .ok (.iload_n 1, 1) := by decide +kernel
theorem dX2_reset_23 : decode cX2_reset 23 = .ok (.iconst 4, 1) := by decide +kernel
theorem dX2_reset_24 : decode cX2_reset 24 = .ok (.if_icmp .ge 41, 3) := by decide +kernel
theorem dX2_reset_27 : decode cX2_reset 27 = .ok (.iconst 0, 1) := by decide +kernel
theorem dX2_reset_28 : decode cX2_reset 28 = .ok (.istore_n 2, 1) := by decide +kernel
theorem dX2_reset_29 : decode cX2_reset 29 = .ok (.iload_n 2, 1) := by decide +kernel
theorem dX2_reset_30 : decode cX2_reset 30 = .ok (.bipush 10, 2) := by decide +kernel
theorem dX2_reset_32 : decode cX2_reset 32 = .ok (.if_icmp .ge 27, 3) := by decide +kernel
theorem dX2_reset_35 : decode cX2_reset 35 = .ok (.aload_n 0, 1) := by decide +kernel
theorem dX2_reset_36 : decode cX2_reset 36 = .ok (.getfield 29, 3) := by decide +kernel
theorem dX2_reset_39 : decode cX2_reset 39 = .ok (.iload_n 1, 1) := by decide +kernel
theorem dX2_reset_40 : decode cX2_reset 40 = .ok (.aaload, 1) := by decide +kernel
theorem dX2_reset_41 : decode cX2_reset 41 = .ok (.iload_n 2, 1) := by decide +kernel
theorem dX2_reset_42 : decode cX2_reset 42 = .ok (.iload_n 2, 1) := by decide +kernel
theorem dX2_reset_43 : decode cX2_reset 43 = .ok (.ifCond .ne 8, 3) := by decide +kernel
theorem dX2_reset_46 : decode cX2_reset 46 = .ok (.bipush 60, 2) := by decide +kernel
theorem dX2_reset_48 : decode cX2_reset 48 = .ok (.goto 4, 3) := by decide +kernel
theorem dX2_reset_51 : decode cX2_reset 51 = .ok (.iconst 0, 1) := by decide +kernel
theorem dX2_reset_52 : decode cX2_reset 52 = .ok (.iastore, 1) := by decide +kernel
theorem dX2_reset_53 : decode cX2_reset 53 = .ok (.iinc 2 1, 3) := by decide +kernel
theorem dX2_reset_56 : decode cX2_reset 56 = .ok (.goto (-27), 3) := by decide +kernel
theorem dX2_reset_59 : decode cX2_reset 59 = .ok (.iinc 1 1, 3) := by decide +kernel
theorem dX2_reset_62 : decode cX2_reset 62 = .ok (.goto (-40), 3) := by decide +kernel
theorem dX2_reset_65 : decode cX2_reset 65 = .ok (.return_, 1) := by decide +kernel
theorem dX2_swapWeight_0 : decode cX2_swapWeight 0 = .ok (.iload_n 1, 1) := by decide +kernel
theorem dX2_swapWeight_1 : decode cX2_swapWeight 1 = .ok (.invokestatic 51, 3) := by decide +kernel
theorem dX2_swapWeight_4 : decode cX2_swapWeight 4 = .ok (.ifCond .eq 10, 3) := by decide +kernel
theorem dX2_swapWeight_7 : decode cX2_swapWeight 7 = .ok (.iload_n 2, 1) := by decide +kernel
theorem dX2_swapWeight_8 : decode cX2_swapWeight 8 = .ok (.invokestatic 55, 3) := by decide +kernel
theorem dX2_swapWeight_11 : decode cX2_swapWeight 11 = .ok (.ifCond .ne 5, 3) := by decide +kernel
theorem dX2_swapWeight_14 : decode cX2_swapWeight 14 = .ok (.iconst (-1), 1) := by decide +kernel
theorem dX2_swapWeight_15 : decode cX2_swapWeight 15 = .ok (.ireturn, 1) := by decide +kernel
theorem dX2_swapWeight_16 : decode cX2_swapWeight 16 = .ok (.aload_n 0, 1) := by decide +kernel
theorem dX2_swapWeight_17 : decode cX2_swapWeight 17 = .ok (.getfield 29, 3) := by decide +kernel
theorem dX2_swapWeight_20 : decode cX2_swapWeight 20 = .ok (.iload_n 1, 1) := by decide +kernel
theorem dX2_swapWeight_21 : decode cX2_swapWeight 21 = .ok (.aaload, 1) := by decide +kernel
theorem dX2_swapWeight_22 : decode cX2_swapWeight 22 = .ok (.iload_n 2, 1) := by decide +kernel
theorem dX2_swapWeight_23 : decode cX2_swapWeight 23 = .ok (.iaload, 1) := by decide +kernel
theorem dX2_swapWeight_24 : decode cX2_swapWeight 24 = .ok (.istore 4, 2) := by decide +kernel
theorem dX2_swapWeight_26 : decode cX2_swapWeight 26 = .ok (.aload_n 0, 1) := by decide +kernel
theorem dX2_swapWeight_27 : decode cX2_swapWeight 27 = .ok (.getfield 29, 3) := by decide +kernel
theorem dX2_swapWeight_30 : decode cX2_swapWeight 30 = .ok (.iload_n 1, 1) := by decide +kernel
theorem dX2_swapWeight_31 : decode cX2_swapWeight 31 = .ok (.aaload, 1) := by decide +kernel
theorem dX2_swapWeight_32 : decode cX2_swapWeight 32 = .ok (.iload_n 2, 1) := by decide +kernel
theorem dX2_swapWeight_33 : decode cX2_swapWeight 33 = .ok (.iload_n 3, 1) := by decide +kernel
theorem dX2_swapWeight_34 : decode cX2_swapWeight 34 = .ok (.iastore, 1) := by decide +kernel
theorem dX2_swapWeight_35 : decode cX2_swapWeight 35 = .ok (.iload 4, 2) := by decide +kernel
theorem dX2_swapWeight_37 : decode cX2_swapWeight 37 = .ok (.ireturn, 1) := by decide +kernel
theorem dX2_isAsked_0 : decode cX2_isAsked 0 = .ok (.aload_n 0, 1) := by decide +kernel
theorem dX2_isAsked_1 : decode cX2_isAsked 1 = .ok (.getfield 48, 3) := by decide +kernel
theorem dX2_isAsked_4 : decode cX2_isAsked 4 = .ok (.iconst 1, 1) := by decide +kernel
theorem dX2_isAsked_5 : decode cX2_isAsked 5 = .ok (.iload_n 1, 1) := by decide +kernel
theorem dX2_isAsked_6 : decode cX2_isAsked 6 = .ok (.ishl, 1) := by decide +kernel
theorem dX2_isAsked_7 : decode cX2_isAsked 7 = .ok (.iand, 1) := by decide +kernel
theorem dX2_isAsked_8 : decode cX2_isAsked 8 = .ok (.ifCond .eq 7, 3) := by decide +kernel
theorem dX2_isAsked_11 : decode cX2_isAsked 11 = .ok (.iconst 1, 1) := by decide +kernel
theorem dX2_isAsked_12 : decode cX2_isAsked 12 = .ok (.goto 4, 3) := by decide +kernel
theorem dX2_isAsked_15 : decode cX2_isAsked 15 = .ok (.iconst 0, 1) := by decide +kernel
theorem dX2_isAsked_16 : decode cX2_isAsked 16 = .ok (.ireturn, 1) := by decide +kernel
theorem dX2_swapAsked_0 : decode cX2_swapAsked 0 = .ok (.aload_n 0, 1) := by decide +kernel
theorem dX2_swapAsked_1 : decode cX2_swapAsked 1 = .ok (.iload_n 1, 1) := by decide +kernel
theorem dX2_swapAsked_2 : decode cX2_swapAsked 2 = .ok (.invokevirtual 58, 3) := by decide +kernel
theorem dX2_swapAsked_5 : decode cX2_swapAsked 5 = .ok (.istore_n 3, 1) := by decide +kernel
theorem dX2_swapAsked_6 : decode cX2_swapAsked 6 = .ok (.aload_n 0, 1) := by decide +kernel
theorem dX2_swapAsked_7 : decode cX2_swapAsked 7 = .ok (.iload_n 2, 1) := by decide +kernel
theorem dX2_swapAsked_8 : decode cX2_swapAsked 8 = .ok (.ifCond .eq 14, 3) := by decide +kernel
theorem dX2_swapAsked_11 : decode cX2_swapAsked 11 = .ok (.aload_n 0, 1) := by decide +kernel
theorem dX2_swapAsked_12 : decode cX2_swapAsked 12 = .ok (.getfield 48, 3) := by decide +kernel
theorem dX2_swapAsked_15 : decode cX2_swapAsked 15 = .ok (.iconst 1, 1) := by decide +kernel
theorem dX2_swapAsked_16 : decode cX2_swapAsked 16 = .ok (.iload_n 1, 1) := by decide +kernel
theorem dX2_swapAsked_17 : decode cX2_swapAsked 17 = .ok (.ishl, 1) := by decide +kernel
theorem dX2_swapAsked_18 : decode cX2_swapAsked 18 = .ok (.ior, 1) := by decide +kernel
theorem dX2_swapAsked_19 : decode cX2_swapAsked 19 = .ok (.goto 13, 3) := by decide +kernel
theorem dX2_swapAsked_22 : decode cX2_swapAsked 22 = .ok (.aload_n 0, 1) := by decide +kernel
theorem dX2_swapAsked_23 : decode cX2_swapAsked 23 = .ok (.getfield 48, 3) := by decide +kernel
theorem dX2_swapAsked_26 : decode cX2_swapAsked 26 = .ok (.iconst 1, 1) := by decide +kernel
theorem dX2_swapAsked_27 : decode cX2_swapAsked 27 = .ok (.iload_n 1, 1) := by decide +kernel
theorem dX2_swapAsked_28 : decode cX2_swapAsked 28 = .ok (.ishl, 1) := by decide +kernel
theorem dX2_swapAsked_29 : decode cX2_swapAsked 29 = .ok (.iconst (-1), 1) := by decide +kernel
theorem dX2_swapAsked_30 : decode cX2_swapAsked 30 = .ok (.ixor, 1) := by decide +kernel
theorem dX2_swapAsked_31 : decode cX2_swapAsked 31 = .ok (.iand, 1) := by decide +kernel
theorem dX2_swapAsked_32 : decode cX2_swapAsked 32 = .ok (.putfield 48, 3) := by decide +kernel
theorem dX2_swapAsked_35 : decode cX2_swapAsked 35 = .ok (.iload_n 3, 1) := by decide +kernel
theorem dX2_swapAsked_36 : decode cX2_swapAsked 36 = .ok (.ireturn, 1) := by decide +kernel
theorem dX2_isFullFor_0 : decode cX2_isFullFor 0 = .ok (.aload_n 0, 1) := by decide +kernel
theorem dX2_isFullFor_1 : decode cX2_isFullFor 1 = .ok (.getfield 38, 3) := by decide +kernel
theorem dX2_isFullFor_4 : decode cX2_isFullFor 4 = .ok (.bipush 30, 2) := by decide +kernel
theorem dX2_isFullFor_6 : decode cX2_isFullFor 6 = .ok (.if_icmp .ge 29, 3) := by decide +kernel
theorem dX2_isFullFor_9 : decode cX2_isFullFor 9 = .ok (.iload_n 1, 1) := by decide +kernel
theorem dX2_isFullFor_10 : decode cX2_isFullFor 10 = .ok (.ifCond .ne 12, 3) := by decide +kernel
theorem dX2_isFullFor_13 : decode cX2_isFullFor 13 = .ok (.aload_n 0, 1) := by decide +kernel
theorem dX2_isFullFor_14 : decode cX2_isFullFor 14 = .ok (.getfield 42, 3) := by decide +kernel
theorem dX2_isFullFor_17 : decode cX2_isFullFor 17 = .ok (.bipush 8, 2) := by decide +kernel
theorem dX2_isFullFor_19 : decode cX2_isFullFor 19 = .ok (.if_icmp .ge 16, 3) := by decide +kernel
theorem dX2_isFullFor_22 : decode cX2_isFullFor 22 = .ok (.iload_n 1, 1) := by decide +kernel
theorem dX2_isFullFor_23 : decode cX2_isFullFor 23 = .ok (.iconst 3, 1) := by decide +kernel
theorem dX2_isFullFor_24 : decode cX2_isFullFor 24 = .ok (.if_icmp .ne 15, 3) := by decide +kernel
theorem dX2_isFullFor_27 : decode cX2_isFullFor 27 = .ok (.aload_n 0, 1) := by decide +kernel
theorem dX2_isFullFor_28 : decode cX2_isFullFor 28 = .ok (.getfield 45, 3) := by decide +kernel
theorem dX2_isFullFor_31 : decode cX2_isFullFor 31 = .ok (.iconst 3, 1) := by decide +kernel
theorem dX2_isFullFor_32 : decode cX2_isFullFor 32 = .ok (.if_icmp .lt 7, 3) := by decide +kernel
theorem dX2_isFullFor_35 : decode cX2_isFullFor 35 = .ok (.iconst 1, 1) := by decide +kernel
theorem dX2_isFullFor_36 : decode cX2_isFullFor 36 = .ok (.goto 4, 3) := by decide +kernel
theorem dX2_isFullFor_39 : decode cX2_isFullFor 39 = .ok (.iconst 0, 1) := by decide +kernel
theorem dX2_isFullFor_40 : decode cX2_isFullFor 40 = .ok (.ireturn, 1) := by decide +kernel
theorem dX2_append_0 : decode cX2_append 0 = .ok (.aload_n 0, 1) := by decide +kernel
theorem dX2_append_1 : decode cX2_append 1 = .ok (.getfield 38, 3) := by decide +kernel
theorem dX2_append_4 : decode cX2_append 4 = .ok (.istore 6, 2) := by decide +kernel
theorem dX2_append_6 : decode cX2_append 6 = .ok (.iload 6, 2) := by decide +kernel
theorem dX2_append_8 : decode cX2_append 8 = .ok (.ifCond .lt 10, 3) := by decide +kernel
theorem dX2_append_11 : decode cX2_append 11 = .ok (.iload 6, 2) := by decide +kernel
theorem dX2_append_13 : decode cX2_append 13 = .ok (.bipush 30, 2) := by decide +kernel
theorem dX2_append_15 : decode cX2_append 15 = .ok (.if_icmp .lt 6, 3) := by decide +kernel
theorem dX2_append_18 : decode cX2_append 18 = .ok (.bipush (-2), 2) := by decide +kernel
theorem dX2_append_20 : decode cX2_append 20 = .ok (.ireturn, 1) := by decide +kernel
theorem dX2_append_21 : decode cX2_append 21 = .ok (.aload_n 0, 1) := by decide +kernel
theorem dX2_append_22 : decode cX2_append 22 = .ok (.getfield 9, 3) := by decide +kernel
theorem dX2_append_25 : decode cX2_append 25 = .ok (.iload 6, 2) := by decide +kernel
theorem dX2_append_27 : decode cX2_append 27 = .ok (.iload_n 1, 1) := by decide +kernel
theorem dX2_append_28 : decode cX2_append 28 = .ok (.iastore, 1) := by decide +kernel
theorem dX2_append_29 : decode cX2_append 29 = .ok (.aload_n 0, 1) := by decide +kernel
theorem dX2_append_30 : decode cX2_append 30 = .ok (.getfield 15, 3) := by decide +kernel
theorem dX2_append_33 : decode cX2_append 33 = .ok (.iload 6, 2) := by decide +kernel
theorem dX2_append_35 : decode cX2_append 35 = .ok (.iload_n 2, 1) := by decide +kernel
theorem dX2_append_36 : decode cX2_append 36 = .ok (.iastore, 1) := by decide +kernel
theorem dX2_append_37 : decode cX2_append 37 = .ok (.aload_n 0, 1) := by decide +kernel
theorem dX2_append_38 : decode cX2_append 38 = .ok (.getfield 18, 3) := by decide +kernel
theorem dX2_append_41 : decode cX2_append 41 = .ok (.iload 6, 2) := by decide +kernel
theorem dX2_append_43 : decode cX2_append 43 = .ok (.iload_n 3, 1) := by decide +kernel
theorem dX2_append_44 : decode cX2_append 44 = .ok (.iastore, 1) := by decide +kernel
theorem dX2_append_45 : decode cX2_append 45 = .ok (.aload_n 0, 1) := by decide +kernel
theorem dX2_append_46 : decode cX2_append 46 = .ok (.getfield 21, 3) := by decide +kernel
theorem dX2_append_49 : decode cX2_append 49 = .ok (.iload 6, 2) := by decide +kernel
theorem dX2_append_51 : decode cX2_append 51 = .ok (.iload 4, 2) := by decide +kernel
theorem dX2_append_53 : decode cX2_append 53 = .ok (.iastore, 1) := by decide +kernel
theorem dX2_append_54 : decode cX2_append 54 = .ok (.aload_n 0, 1) := by decide +kernel
theorem dX2_append_55 : decode cX2_append 55 = .ok (.getfield 24, 3) := by decide +kernel
theorem dX2_append_58 : decode cX2_append 58 = .ok (.iload 6, 2) := by decide +kernel
theorem dX2_append_60 : decode cX2_append 60 = .ok (.iload 5, 2) := by decide +kernel
theorem dX2_append_62 : decode cX2_append 62 = .ok (.iastore, 1) := by decide +kernel
theorem dX2_append_63 : decode cX2_append 63 = .ok (.aload_n 0, 1) := by decide +kernel
theorem dX2_append_64 : decode cX2_append 64 = .ok (.iload 6, 2) := by decide +kernel
theorem dX2_append_66 : decode cX2_append 66 = .ok (.iconst 1, 1) := by decide +kernel
theorem dX2_append_67 : decode cX2_append 67 = .ok (.iadd, 1) := by decide +kernel
theorem dX2_append_68 : decode cX2_append 68 = .ok (.putfield 38, 3) := by decide +kernel
theorem dX2_append_71 : decode cX2_append 71 = .ok (.aload_n 0, 1) := by decide +kernel
theorem dX2_append_72 : decode cX2_append 72 = .ok (.iload_n 1, 1) := by decide +kernel
theorem dX2_append_73 : decode cX2_append 73 = .ok (.iconst 1, 1) := by decide +kernel
theorem dX2_append_74 : decode cX2_append 74 = .ok (.invokevirtual 61, 3) := by decide +kernel
theorem dX2_append_77 : decode cX2_append 77 = .ok (.iload 6, 2) := by decide +kernel
theorem dX2_append_79 : decode cX2_append 79 = .ok (.ireturn, 1) := by decide +kernel
theorem dX2_removeLast_0 : decode cX2_removeLast 0 = .ok (.aload_n 0, 1) := by decide +kernel
theorem dX2_removeLast_1 : decode cX2_removeLast 1 = .ok (.getfield 38, 3) := by decide +kernel
theorem dX2_removeLast_4 : decode cX2_removeLast 4 = .ok (.iconst 1, 1) := by decide +kernel
theorem dX2_removeLast_5 : decode cX2_removeLast 5 = .ok (.isub, 1) := by decide +kernel
theorem dX2_removeLast_6 : decode cX2_removeLast 6 = .ok (.istore_n 1, 1) := by decide +kernel
theorem dX2_removeLast_7 : decode cX2_removeLast 7 = .ok (.aload_n 0, 1) := by decide +kernel
theorem dX2_removeLast_8 : decode cX2_removeLast 8 = .ok (.iload_n 1, 1) := by decide +kernel
theorem dX2_removeLast_9 : decode cX2_removeLast 9 = .ok (.invokevirtual 65, 3) := by decide +kernel
theorem dX2_removeLast_12 : decode cX2_removeLast 12 = .ok (.ifCond .ne 6, 3) := by decide +kernel
theorem dX2_removeLast_15 : decode cX2_removeLast 15 = .ok (.bipush (-3), 2) := by decide +kernel
theorem dX2_removeLast_17 : decode cX2_removeLast 17 = .ok (.ireturn, 1) := by decide +kernel
theorem dX2_removeLast_18 : decode cX2_removeLast 18 = .ok (.aload_n 0, 1) := by decide +kernel
theorem dX2_removeLast_19 : decode cX2_removeLast 19 = .ok (.aload_n 0, 1) := by decide +kernel
theorem dX2_removeLast_20 : decode cX2_removeLast 20 = .ok (.getfield 9, 3) := by decide +kernel
theorem dX2_removeLast_23 : decode cX2_removeLast 23 = .ok (.iload_n 1, 1) := by decide +kernel
theorem dX2_removeLast_24 : decode cX2_removeLast 24 = .ok (.iaload, 1) := by decide +kernel
theorem dX2_removeLast_25 : decode cX2_removeLast 25 = .ok (.iconst (-1), 1) := by decide +kernel
theorem dX2_removeLast_26 : decode cX2_removeLast 26 = .ok (.invokevirtual 61, 3) := by decide +kernel
theorem dX2_removeLast_29 : decode cX2_removeLast 29 = .ok (.aload_n 0, 1) := by decide +kernel
theorem dX2_removeLast_30 : decode cX2_removeLast 30 = .ok (.iload_n 1, 1) := by decide +kernel
theorem dX2_removeLast_31 : decode cX2_removeLast 31 = .ok (.putfield 38, 3) := by decide +kernel
theorem dX2_removeLast_34 : decode cX2_removeLast 34 = .ok (.iload_n 1, 1) := by decide +kernel
theorem dX2_removeLast_35 : decode cX2_removeLast 35 = .ok (.ireturn, 1) := by decide +kernel
theorem dX2_countKind_0 : decode cX2_countKind 0 = .ok (.iload_n 1, 1) := by decide +kernel
theorem dX2_countKind_1 : decode cX2_countKind 1 = .ok (.ifCond .ne 16, 3) := by decide +kernel
theorem dX2_countKind_4 : decode cX2_countKind 4 = .ok (.aload_n 0, 1) := by decide +kernel
theorem dX2_countKind_5 : decode cX2_countKind 5 = .ok (.dup, 1) := by decide +kernel
theorem dX2_countKind_6 : decode cX2_countKind 6 = .ok (.getfield 42, 3) := by decide +kernel
theorem dX2_countKind_9 : decode cX2_countKind 9 = .ok (.iload_n 2, 1) := by decide +kernel
theorem dX2_countKind_10 : decode cX2_countKind 10 = .ok (.iadd, 1) := by decide +kernel
theorem dX2_countKind_11 : decode cX2_countKind 11 = .ok (.putfield 42, 3) := by decide +kernel
theorem dX2_countKind_14 : decode cX2_countKind 14 = .ok (.goto 18, 3) := by decide +kernel
theorem dX2_countKind_17 : decode cX2_countKind 17 = .ok (.iload_n 1, 1) := by decide +kernel
theorem dX2_countKind_18 : decode cX2_countKind 18 = .ok (.iconst 3, 1) := by decide +kernel
theorem dX2_countKind_19 : decode cX2_countKind 19 = .ok (.if_icmp .ne 13, 3) := by decide +kernel
theorem dX2_countKind_22 : decode cX2_countKind 22 = .ok (.aload_n 0, 1) := by decide +kernel
theorem dX2_countKind_23 : decode cX2_countKind 23 = .ok (.dup, 1) := by decide +kernel
theorem dX2_countKind_24 : decode cX2_countKind 24 = .ok (.getfield 45, 3) := by decide +kernel
theorem dX2_countKind_27 : decode cX2_countKind 27 = .ok (.iload_n 2, 1) := by decide +kernel
theorem dX2_countKind_28 : decode cX2_countKind 28 = .ok (.iadd, 1) := by decide +kernel
theorem dX2_countKind_29 : decode cX2_countKind 29 = .ok (.putfield 45, 3) := by decide +kernel
theorem dX2_countKind_32 : decode cX2_countKind 32 = .ok (.return_, 1) := by decide +kernel
theorem dX2_isStep_0 : decode cX2_isStep 0 = .ok (.iload_n 1, 1) := by decide +kernel
theorem dX2_isStep_1 : decode cX2_isStep 1 = .ok (.ifCond .lt 21, 3) := by decide +kernel
theorem dX2_isStep_4 : decode cX2_isStep 4 = .ok (.iload_n 1, 1) := by decide +kernel
theorem dX2_isStep_5 : decode cX2_isStep 5 = .ok (.aload_n 0, 1) := by decide +kernel
theorem dX2_isStep_6 : decode cX2_isStep 6 = .ok (.getfield 38, 3) := by decide +kernel
theorem dX2_isStep_9 : decode cX2_isStep 9 = .ok (.if_icmp .ge 13, 3) := by decide +kernel
theorem dX2_isStep_12 : decode cX2_isStep 12 = .ok (.iload_n 1, 1) := by decide +kernel
theorem dX2_isStep_13 : decode cX2_isStep 13 = .ok (.bipush 30, 2) := by decide +kernel
theorem dX2_isStep_15 : decode cX2_isStep 15 = .ok (.if_icmp .ge 7, 3) := by decide +kernel
theorem dX2_isStep_18 : decode cX2_isStep 18 = .ok (.iconst 1, 1) := by decide +kernel
theorem dX2_isStep_19 : decode cX2_isStep 19 = .ok (.goto 4, 3) := by decide +kernel
theorem dX2_isStep_22 : decode cX2_isStep 22 = .ok (.iconst 0, 1) := by decide +kernel
theorem dX2_isStep_23 : decode cX2_isStep 23 = .ok (.ireturn, 1) := by decide +kernel
theorem dX2_isDraw_0 : decode cX2_isDraw 0 = .ok (.aload_n 0, 1) := by decide +kernel
theorem dX2_isDraw_1 : decode cX2_isDraw 1 = .ok (.iload_n 1, 1) := by decide +kernel
theorem dX2_isDraw_2 : decode cX2_isDraw 2 = .ok (.invokevirtual 65, 3) := by decide +kernel
theorem dX2_isDraw_5 : decode cX2_isDraw 5 = .ok (.ifCond .eq 16, 3) := by decide +kernel
theorem dX2_isDraw_8 : decode cX2_isDraw 8 = .ok (.aload_n 0, 1) := by decide +kernel
theorem dX2_isDraw_9 : decode cX2_isDraw 9 = .ok (.getfield 9, 3) := by decide +kernel
theorem dX2_isDraw_12 : decode cX2_isDraw 12 = .ok (.iload_n 1, 1) := by decide +kernel
theorem dX2_isDraw_13 : decode cX2_isDraw 13 = .ok (.iaload, 1) := by decide +kernel
theorem dX2_isDraw_14 : decode cX2_isDraw 14 = .ok (.ifCond .ne 7, 3) := by decide +kernel
theorem dX2_isDraw_17 : decode cX2_isDraw 17 = .ok (.iconst 1, 1) := by decide +kernel
theorem dX2_isDraw_18 : decode cX2_isDraw 18 = .ok (.goto 4, 3) := by decide +kernel
theorem dX2_isDraw_21 : decode cX2_isDraw 21 = .ok (.iconst 0, 1) := by decide +kernel
theorem dX2_isDraw_22 : decode cX2_isDraw 22 = .ok (.ireturn, 1) := by decide +kernel
theorem dX2_isUneven_0 : decode cX2_isUneven 0 = .ok (.iconst 0, 1) := by decide +kernel
theorem dX2_isUneven_1 : decode cX2_isUneven 1 = .ok (.istore_n 1, 1) := by decide +kernel
theorem dX2_isUneven_2 : decode cX2_isUneven 2 = .ok (.iload_n 1, 1) := by decide +kernel
theorem dX2_isUneven_3 : decode cX2_isUneven 3 = .ok (.aload_n 0, 1) := by decide +kernel
theorem dX2_isUneven_4 : decode cX2_isUneven 4 = .ok (.getfield 38, 3) := by decide +kernel
theorem dX2_isUneven_7 : decode cX2_isUneven 7 = .ok (.if_icmp .ge 34, 3) := by decide +kernel
theorem dX2_isUneven_10 : decode cX2_isUneven 10 = .ok (.aload_n 0, 1) := by decide +kernel
theorem dX2_isUneven_11 : decode cX2_isUneven 11 = .ok (.iload_n 1, 1) := by decide +kernel
theorem dX2_isUneven_12 : decode cX2_isUneven 12 = .ok (.invokevirtual 68, 3) := by decide +kernel
theorem dX2_isUneven_15 : decode cX2_isUneven 15 = .ok (.ifCond .eq 20, 3) := by decide +kernel
theorem dX2_isUneven_18 : decode cX2_isUneven 18 = .ok (.aload_n 0, 1) := by decide +kernel
theorem dX2_isUneven_19 : decode cX2_isUneven 19 = .ok (.aload_n 0, 1) := by decide +kernel
theorem dX2_isUneven_20 : decode cX2_isUneven 20 = .ok (.getfield 18, 3) := by decide +kernel
theorem dX2_isUneven_23 : decode cX2_isUneven 23 = .ok (.iload_n 1, 1) := by decide +kernel
theorem dX2_isUneven_24 : decode cX2_isUneven 24 = .ok (.iaload, 1) := by decide +kernel
theorem dX2_isUneven_25 : decode cX2_isUneven 25 = .ok (.invokevirtual 71, 3) := by decide +kernel
theorem dX2_isUneven_28 : decode cX2_isUneven 28 = .ok (.bipush 60, 2) := by decide +kernel
theorem dX2_isUneven_30 : decode cX2_isUneven 30 = .ok (.if_icmp .eq 5, 3) := by decide +kernel
theorem dX2_isUneven_33 : decode cX2_isUneven 33 = .ok (.iconst 1, 1) := by decide +kernel
theorem dX2_isUneven_34 : decode cX2_isUneven 34 = .ok (.ireturn, 1) := by decide +kernel
theorem dX2_isUneven_35 : decode cX2_isUneven 35 = .ok (.iinc 1 1, 3) := by decide +kernel
theorem dX2_isUneven_38 : decode cX2_isUneven 38 = .ok (.goto (-36), 3) := by decide +kernel
theorem dX2_isUneven_41 : decode cX2_isUneven 41 = .ok (.iconst 0, 1) := by decide +kernel
theorem dX2_isUneven_42 : decode cX2_isUneven 42 = .ok (.ireturn, 1) := by decide +kernel
theorem dX2_rowTotal_0 : decode cX2_rowTotal 0 = .ok (.iconst 0, 1) := by decide +kernel
theorem dX2_rowTotal_1 : decode cX2_rowTotal 1 = .ok (.istore_n 2, 1) := by decide +kernel
theorem dX2_rowTotal_2 : decode cX2_rowTotal 2 = .ok (.iconst 0, 1) := by decide +kernel
theorem dX2_rowTotal_3 : decode cX2_rowTotal 3 = .ok (.istore_n 3, 1) := by decide +kernel
theorem dX2_rowTotal_4 : decode cX2_rowTotal 4 = .ok (.iload_n 3, 1) := by decide +kernel
theorem dX2_rowTotal_5 : decode cX2_rowTotal 5 = .ok (.bipush 10, 2) := by decide +kernel
theorem dX2_rowTotal_7 : decode cX2_rowTotal 7 = .ok (.if_icmp .ge 18, 3) := by decide +kernel
theorem dX2_rowTotal_10 : decode cX2_rowTotal 10 = .ok (.iload_n 2, 1) := by decide +kernel
theorem dX2_rowTotal_11 : decode cX2_rowTotal 11 = .ok (.aload_n 0, 1) := by decide +kernel
theorem dX2_rowTotal_12 : decode cX2_rowTotal 12 = .ok (.iload_n 1, 1) := by decide +kernel
theorem dX2_rowTotal_13 : decode cX2_rowTotal 13 = .ok (.iload_n 3, 1) := by decide +kernel
theorem dX2_rowTotal_14 : decode cX2_rowTotal 14 = .ok (.invokevirtual 75, 3) := by decide +kernel
theorem dX2_rowTotal_17 : decode cX2_rowTotal 17 = .ok (.iadd, 1) := by decide +kernel
theorem dX2_rowTotal_18 : decode cX2_rowTotal 18 = .ok (.istore_n 2, 1) := by decide +kernel
theorem dX2_rowTotal_19 : decode cX2_rowTotal 19 = .ok (.iinc 3 1, 3) := by decide +kernel
theorem dX2_rowTotal_22 : decode cX2_rowTotal 22 = .ok (.goto (-18), 3) := by decide +kernel
theorem dX2_rowTotal_25 : decode cX2_rowTotal 25 = .ok (.iload_n 2, 1) := by decide +kernel
theorem dX2_rowTotal_26 : decode cX2_rowTotal 26 = .ok (.ireturn, 1) := by decide +kernel
theorem dX2_weightOf_0 : decode cX2_weightOf 0 = .ok (.iload_n 1, 1) := by decide +kernel
theorem dX2_weightOf_1 : decode cX2_weightOf 1 = .ok (.invokestatic 51, 3) := by decide +kernel
theorem dX2_weightOf_4 : decode cX2_weightOf 4 = .ok (.ifCond .eq 21, 3) := by decide +kernel
theorem dX2_weightOf_7 : decode cX2_weightOf 7 = .ok (.iload_n 2, 1) := by decide +kernel
theorem dX2_weightOf_8 : decode cX2_weightOf 8 = .ok (.invokestatic 55, 3) := by decide +kernel
theorem dX2_weightOf_11 : decode cX2_weightOf 11 = .ok (.ifCond .eq 14, 3) := by decide +kernel
theorem dX2_weightOf_14 : decode cX2_weightOf 14 = .ok (.aload_n 0, 1) := by decide +kernel
theorem dX2_weightOf_15 : decode cX2_weightOf 15 = .ok (.getfield 29, 3) := by decide +kernel
theorem dX2_weightOf_18 : decode cX2_weightOf 18 = .ok (.iload_n 1, 1) := by decide +kernel
theorem dX2_weightOf_19 : decode cX2_weightOf 19 = .ok (.aaload, 1) := by decide +kernel
theorem dX2_weightOf_20 : decode cX2_weightOf 20 = .ok (.iload_n 2, 1) := by decide +kernel
theorem dX2_weightOf_21 : decode cX2_weightOf 21 = .ok (.iaload, 1) := by decide +kernel
theorem dX2_weightOf_22 : decode cX2_weightOf 22 = .ok (.goto 4, 3) := by decide +kernel
theorem dX2_weightOf_25 : decode cX2_weightOf 25 = .ok (.iconst 0, 1) := by decide +kernel
theorem dX2_weightOf_26 : decode cX2_weightOf 26 = .ok (.ireturn, 1) := by decide +kernel
theorem dX2_markLive_0 : decode cX2_markLive 0 = .ok (.aload_n 0, 1) := by decide +kernel
theorem dX2_markLive_1 : decode cX2_markLive 1 = .ok (.getfield 38, 3) := by decide +kernel
theorem dX2_markLive_4 : decode cX2_markLive 4 = .ok (.istore_n 1, 1) := by decide +kernel
theorem dX2_markLive_5 : decode cX2_markLive 5 = .ok (.iload_n 1, 1) := by decide +kernel
theorem dX2_markLive_6 : decode cX2_markLive 6 = .ok (.ifCond .lt 41, 3) := by decide +kernel
theorem dX2_markLive_9 : decode cX2_markLive 9 = .ok (.iload_n 1, 1) := by decide +kernel
theorem dX2_markLive_10 : decode cX2_markLive 10 = .ok (.bipush 31, 2) := by decide +kernel
theorem dX2_markLive_12 : decode cX2_markLive 12 = .ok (.if_icmp .ge 29, 3) := by decide +kernel
theorem dX2_markLive_15 : decode cX2_markLive 15 = .ok (.aload_n 0, 1) := by decide +kernel
theorem dX2_markLive_16 : decode cX2_markLive 16 = .ok (.getfield 32, 3) := by decide +kernel
theorem dX2_markLive_19 : decode cX2_markLive 19 = .ok (.iload_n 1, 1) := by decide +kernel
theorem dX2_markLive_20 : decode cX2_markLive 20 = .ok (.aload_n 0, 1) := by decide +kernel
theorem dX2_markLive_21 : decode cX2_markLive 21 = .ok (.iload_n 1, 1) := by decide +kernel
theorem dX2_markLive_22 : decode cX2_markLive 22 = .ok (.invokevirtual 65, 3) := by decide +kernel
theorem dX2_markLive_25 : decode cX2_markLive 25 = .ok (.ifCond .eq 11, 3) := by decide +kernel
theorem dX2_markLive_28 : decode cX2_markLive 28 = .ok (.aload_n 0, 1) := by decide +kernel
theorem dX2_markLive_29 : decode cX2_markLive 29 = .ok (.iload_n 1, 1) := by decide +kernel
theorem dX2_markLive_30 : decode cX2_markLive 30 = .ok (.invokevirtual 79, 3) := by decide +kernel
