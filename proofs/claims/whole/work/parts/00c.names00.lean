def RX0 : String := "CodeRooms$Glossary"
def TX0 : u_T := fun k => match k with
  | _ => ("CodeRooms$Glossary", "words", "Ljava/util/ArrayList;", true)
def tyX0 : Nat → FieldType := fun k => match k with
  | _ => .object "java/util/ArrayList"
abbrev wsX00 : List Cond := u_ws RX0 TX0 1
theorem nmX0 : ∀ a, a < 1 → ∀ b, b < 1 → a ≠ b → (TX0 a).2.1 ≠ (TX0 b).2.1 := by decide +kernel
theorem tyX0_ok : ∀ k, k < 1 → parseFieldDescriptor (TX0 k).2.2.1 = some (tyX0 k) := by decide +kernel
abbrev cX0_init : ByteArray := prog_2_method_1_code
def yX0_init : MethodName := ⟨RX0, "<init>", "()V"⟩
abbrev cX0_learn : ByteArray := prog_2_method_2_code
def yX0_learn : MethodName := ⟨RX0, "learn", "(LCodeRooms$Text;J)V"⟩
abbrev cX0_enter : ByteArray := prog_2_method_3_code
def yX0_enter : MethodName := ⟨RX0, "enter", "(LCodeRooms$Text;J)V"⟩
abbrev cX0_wordFor : ByteArray := prog_2_method_4_code
def yX0_wordFor : MethodName := ⟨RX0, "wordFor", "(JJ)LCodeRooms$Word;"⟩
def RX1 : String := "CodeRooms$Kept"
def TX1 : u_T := fun k => match k with
  | 0 => ("CodeRooms$Kept", "places", "[I", true)
  | 1 => ("CodeRooms$Kept", "alike", "[[I", true)
  | _ => ("CodeRooms$Kept", "isHeld", "Z", false)
def tyX1 : Nat → FieldType := fun k => match k with
  | 0 => .array .int
  | 1 => .array (.array .int)
  | _ => .boolean
abbrev wsX10 : List Cond := u_ws RX1 TX1 3
theorem nmX1 : ∀ a, a < 3 → ∀ b, b < 3 → a ≠ b → (TX1 a).2.1 ≠ (TX1 b).2.1 := by decide +kernel
theorem tyX1_ok : ∀ k, k < 3 → parseFieldDescriptor (TX1 k).2.2.1 = some (tyX1 k) := by decide +kernel
abbrev cX1_init : ByteArray := prog_3_method_1_code
def yX1_init : MethodName := ⟨RX1, "<init>", "()V"⟩
abbrev cX1_hold : ByteArray := prog_3_method_2_code
def yX1_hold : MethodName := ⟨RX1, "hold", "(LCodeRooms$Plan;)I"⟩
abbrev cX1_distance : ByteArray := prog_3_method_3_code
def yX1_distance : MethodName := ⟨RX1, "distance", "(LCodeRooms$Plan;)I"⟩
abbrev cX1_countPairs : ByteArray := prog_3_method_4_code
def yX1_countPairs : MethodName := ⟨RX1, "countPairs", "(LCodeRooms$Plan;)I"⟩
abbrev cX1_mostAlike : ByteArray := prog_3_method_5_code
def yX1_mostAlike : MethodName := ⟨RX1, "mostAlike", "([[III)I"⟩
def RX2 : String := "CodeRooms$Mender"
def TX2 : u_T := fun k => match k with
  | 0 => ("CodeRooms$Mender", "plan", "LCodeRooms$Plan;", true)
  | 1 => ("CodeRooms$Mender", "sizes", "[I", true)
  | 2 => ("CodeRooms$Mender", "least", "J", false)
  | 3 => ("CodeRooms$Mender", "mover", "LCodeRooms$Routine;", false)
  | 4 => ("CodeRooms$Mender", "partner", "LCodeRooms$Routine;", false)
  | _ => ("CodeRooms$Mender", "target", "I", false)
def tyX2 : Nat → FieldType := fun k => match k with
  | 0 => .object "CodeRooms$Plan"
  | 1 => .array .int
  | 2 => .long
  | 3 => .object "CodeRooms$Routine"
  | 4 => .object "CodeRooms$Routine"
  | _ => .int
abbrev wsX20 : List Cond := u_ws RX2 TX2 6
theorem nmX2 : ∀ a, a < 6 → ∀ b, b < 6 → a ≠ b → (TX2 a).2.1 ≠ (TX2 b).2.1 := by decide +kernel
theorem tyX2_ok : ∀ k, k < 6 → parseFieldDescriptor (TX2 k).2.2.1 = some (tyX2 k) := by decide +kernel
abbrev cX2_init : ByteArray := prog_4_method_1_code
def yX2_init : MethodName := ⟨RX2, "<init>", "(LCodeRooms$Plan;)V"⟩
abbrev cX2_mend : ByteArray := prog_4_method_2_code
def yX2_mend : MethodName := ⟨RX2, "mend", "()I"⟩
abbrev cX2_leastShift : ByteArray := prog_4_method_3_code
def yX2_leastShift : MethodName := ⟨RX2, "leastShift", "(LCodeRooms$Routine;)J"⟩
abbrev cX2_countSizes : ByteArray := prog_4_method_4_code
def yX2_countSizes : MethodName := ⟨RX2, "countSizes", "()V"⟩
abbrev cX2_weighPulls : ByteArray := prog_4_method_5_code
def yX2_weighPulls : MethodName := ⟨RX2, "weighPulls", "(LCodeRooms$Routine;)V"⟩
abbrev cX2_findStep : ByteArray := prog_4_method_6_code
def yX2_findStep : MethodName := ⟨RX2, "findStep", "()Z"⟩
abbrev cX2_findMove : ByteArray := prog_4_method_7_code
def yX2_findMove : MethodName := ⟨RX2, "findMove", "()V"⟩
abbrev cX2_findSwap : ByteArray := prog_4_method_8_code
def yX2_findSwap : MethodName := ⟨RX2, "findSwap", "()V"⟩
abbrev cX2_shiftOf : ByteArray := prog_4_method_9_code
def yX2_shiftOf : MethodName := ⟨RX2, "shiftOf", "(LCodeRooms$Routine;I)J"⟩
abbrev cX2_tradeOf : ByteArray := prog_4_method_10_code
def yX2_tradeOf : MethodName := ⟨RX2, "tradeOf", "(LCodeRooms$Routine;LCodeRooms$Routine;)J"⟩
abbrev cX2_takeStep : ByteArray := prog_4_method_11_code
def yX2_takeStep : MethodName := ⟨RX2, "takeStep", "()V"⟩
abbrev cX2_carry : ByteArray := prog_4_method_12_code
def yX2_carry : MethodName := ⟨RX2, "carry", "(LCodeRooms$Routine;I)V"⟩
def RX3 : String := "CodeRooms$Past"
def TX3 : u_T := fun k => match k with
  | 0 => ("CodeRooms$Past", "changes", "[J", true)
  | _ => ("CodeRooms$Past", "size", "I", false)
def tyX3 : Nat → FieldType := fun k => match k with
  | 0 => .array .long
  | _ => .int
abbrev wsX30 : List Cond := u_ws RX3 TX3 2
theorem nmX3 : ∀ a, a < 2 → ∀ b, b < 2 → a ≠ b → (TX3 a).2.1 ≠ (TX3 b).2.1 := by decide +kernel
theorem tyX3_ok : ∀ k, k < 2 → parseFieldDescriptor (TX3 k).2.2.1 = some (tyX3 k) := by decide +kernel
abbrev cX3_init : ByteArray := prog_5_method_1_code
def yX3_init : MethodName := ⟨RX3, "<init>", "()V"⟩
abbrev cX3_add : ByteArray := prog_5_method_2_code
def yX3_add : MethodName := ⟨RX3, "add", "(J)I"⟩
abbrev cX3_countAlone : ByteArray := prog_5_method_3_code
def yX3_countAlone : MethodName := ⟨RX3, "countAlone", "(LCodeRooms$Plan;)I"⟩
abbrev cX3_isInOneRoom : ByteArray := prog_5_method_4_code
def yX3_isInOneRoom : MethodName := ⟨RX3, "isInOneRoom", "(JLCodeRooms$Plan;)Z"⟩
def RX4 : String := "CodeRooms$Plan"
def TX4 : u_T := fun k => match k with
  | 0 => ("CodeRooms$Plan", "routines", "[LCodeRooms$Routine;", true)
  | 1 => ("CodeRooms$Plan", "housed", "[LCodeRooms$Routine;", true)
  | 2 => ("CodeRooms$Plan", "settings", "[I", true)
  | 3 => ("CodeRooms$Plan", "members", "[J", true)
  | 4 => ("CodeRooms$Plan", "size", "I", false)
  | _ => ("CodeRooms$Plan", "housedCount", "I", false)
def tyX4 : Nat → FieldType := fun k => match k with
  | 0 => .array (.object "CodeRooms$Routine")
  | 1 => .array (.object "CodeRooms$Routine")
  | 2 => .array .int
  | 3 => .array .long
  | 4 => .int
  | _ => .int
abbrev wsX40 : List Cond := u_ws RX4 TX4 6
theorem nmX4 : ∀ a, a < 6 → ∀ b, b < 6 → a ≠ b → (TX4 a).2.1 ≠ (TX4 b).2.1 := by decide +kernel
theorem tyX4_ok : ∀ k, k < 6 → parseFieldDescriptor (TX4 k).2.2.1 = some (tyX4 k) := by decide +kernel
abbrev cX4_init : ByteArray := prog_6_method_1_code
def yX4_init : MethodName := ⟨RX4, "<init>", "()V"⟩
abbrev cX4_roomCount : ByteArray := prog_6_method_2_code
def yX4_roomCount : MethodName := ⟨RX4, "roomCount", "()I"⟩
abbrev cX4_even : ByteArray := prog_6_method_3_code
def yX4_even : MethodName := ⟨RX4, "even", "()I"⟩
abbrev cX4_hasName : ByteArray := prog_6_method_4_code
def yX4_hasName : MethodName := ⟨RX4, "hasName", "(LCodeRooms$Text;)Z"⟩
abbrev cX4_add : ByteArray := prog_6_method_5_code
def yX4_add : MethodName := ⟨RX4, "add", "(LCodeRooms$Text;)LCodeRooms$Routine;"⟩
abbrev cX4_tell : ByteArray := prog_6_method_6_code
def yX4_tell : MethodName := ⟨RX4, "tell", "(LCodeRooms$Routine;LCodeRooms$Routine;II)I"⟩
abbrev cX4_alter : ByteArray := prog_6_method_7_code
def yX4_alter : MethodName := ⟨RX4, "alter", "(II)I"⟩
abbrev cX4_weighTies : ByteArray := prog_6_method_8_code
def yX4_weighTies : MethodName := ⟨RX4, "weighTies", "()V"⟩
abbrev cX4_weighTie : ByteArray := prog_6_method_9_code
def yX4_weighTie : MethodName := ⟨RX4, "weighTie", "(LCodeRooms$Routine;LCodeRooms$Routine;)V"⟩
abbrev cX4_settle : ByteArray := prog_6_method_10_code
def yX4_settle : MethodName := ⟨RX4, "settle", "()V"⟩
abbrev cX4_gather : ByteArray := prog_6_method_11_code
def yX4_gather : MethodName := ⟨RX4, "gather", "()V"⟩
abbrev cX4_housedBits : ByteArray := prog_6_method_12_code
def yX4_housedBits : MethodName := ⟨RX4, "housedBits", "()J"⟩
abbrev cX4_price : ByteArray := prog_6_method_13_code
def yX4_price : MethodName := ⟨RX4, "price", "()J"⟩
abbrev cX4_brokenMusts : ByteArray := prog_6_method_14_code
def yX4_brokenMusts : MethodName := ⟨RX4, "brokenMusts", "()I"⟩
abbrev cX4_squares : ByteArray := prog_6_method_15_code
def yX4_squares : MethodName := ⟨RX4, "squares", "()I"⟩
abbrev cX4_tiesBetweenRooms : ByteArray := prog_6_method_16_code
def yX4_tiesBetweenRooms : MethodName := ⟨RX4, "tiesBetweenRooms", "()J"⟩
def RX5 : String := "CodeRooms$Routine"
def TX5 : u_T := fun k => match k with
  | 0 => ("CodeRooms$Routine", "number", "I", true)
  | 1 => ("CodeRooms$Routine", "bit", "J", true)
  | 2 => ("CodeRooms$Routine", "label", "LCodeRooms$Text;", true)
  | 3 => ("CodeRooms$Routine", "told", "[[I", true)
  | 4 => ("CodeRooms$Routine", "tieWith", "[I", true)
  | 5 => ("CodeRooms$Routine", "mustWith", "[I", true)
  | 6 => ("CodeRooms$Routine", "pulls", "[J", true)
  | 7 => ("CodeRooms$Routine", "tiedTo", "J", false)
  | 8 => ("CodeRooms$Routine", "callers", "J", false)
  | 9 => ("CodeRooms$Routine", "callees", "J", false)
  | 10 => ("CodeRooms$Routine", "fixedTo", "I", false)
  | 11 => ("CodeRooms$Routine", "place", "I", false)
  | _ => ("CodeRooms$Routine", "isHub", "Z", false)
def tyX5 : Nat → FieldType := fun k => match k with
  | 0 => .int
  | 1 => .long
  | 2 => .object "CodeRooms$Text"
  | 3 => .array (.array .int)
  | 4 => .array .int
  | 5 => .array .int
  | 6 => .array .long
  | 7 => .long
  | 8 => .long
  | 9 => .long
  | 10 => .int
  | 11 => .int
  | _ => .boolean
abbrev wsX50 : List Cond := u_ws RX5 TX5 13
theorem nmX5 : ∀ a, a < 13 → ∀ b, b < 13 → a ≠ b → (TX5 a).2.1 ≠ (TX5 b).2.1 := by decide +kernel
theorem tyX5_ok : ∀ k, k < 13 → parseFieldDescriptor (TX5 k).2.2.1 = some (tyX5 k) := by decide +kernel
abbrev cX5_init : ByteArray := prog_7_method_1_code
def yX5_init : MethodName := ⟨RX5, "<init>", "(ILCodeRooms$Text;)V"⟩
abbrev cX5_setTie : ByteArray := prog_7_method_2_code
def yX5_setTie : MethodName := ⟨RX5, "setTie", "(LCodeRooms$Routine;I)V"⟩
abbrev cX5_isMisplaced : ByteArray := prog_7_method_3_code
def yX5_isMisplaced : MethodName := ⟨RX5, "isMisplaced", "()Z"⟩
abbrev cX5_clashesWith : ByteArray := prog_7_method_4_code
def yX5_clashesWith : MethodName := ⟨RX5, "clashesWith", "(LCodeRooms$Routine;)Z"⟩
abbrev cX5_pullOf : ByteArray := prog_7_method_5_code
def yX5_pullOf : MethodName := ⟨RX5, "pullOf", "(LCodeRooms$Routine;)I"⟩
def RX6 : String := "CodeRooms$Search"
def TX6 : u_T := fun k => match k with
  | 0 => ("CodeRooms$Search", "plan", "LCodeRooms$Plan;", true)
  | 1 => ("CodeRooms$Search", "trial", "[I", true)
  | 2 => ("CodeRooms$Search", "found", "[I", true)
  | _ => ("CodeRooms$Search", "least", "J", false)
def tyX6 : Nat → FieldType := fun k => match k with
  | 0 => .object "CodeRooms$Plan"
  | 1 => .array .int
  | 2 => .array .int
  | _ => .long
abbrev wsX60 : List Cond := u_ws RX6 TX6 4
theorem nmX6 : ∀ a, a < 4 → ∀ b, b < 4 → a ≠ b → (TX6 a).2.1 ≠ (TX6 b).2.1 := by decide +kernel
theorem tyX6_ok : ∀ k, k < 4 → parseFieldDescriptor (TX6 k).2.2.1 = some (tyX6 k) := by decide +kernel
abbrev cX6_init : ByteArray := prog_8_method_1_code
def yX6_init : MethodName := ⟨RX6, "<init>", "(LCodeRooms$Plan;)V"⟩
abbrev cX6_settleBest : ByteArray := prog_8_method_2_code
def yX6_settleBest : MethodName := ⟨RX6, "settleBest", "()J"⟩
abbrev cX6_fixedRooms : ByteArray := prog_8_method_3_code
def yX6_fixedRooms : MethodName := ⟨RX6, "fixedRooms", "()I"⟩
abbrev cX6_tryFrom : ByteArray := prog_8_method_4_code
def yX6_tryFrom : MethodName := ⟨RX6, "tryFrom", "(IJI)V"⟩
abbrev cX6_tryRooms : ByteArray := prog_8_method_5_code
def yX6_tryRooms : MethodName := ⟨RX6, "tryRooms", "(IJI)V"⟩
abbrev cX6_priceOfAdding : ByteArray := prog_8_method_6_code
def yX6_priceOfAdding : MethodName := ⟨RX6, "priceOfAdding", "(II)J"⟩
def RX7 : String := "CodeRooms$Text"
def TX7 : u_T := fun k => match k with
  | 0 => ("CodeRooms$Text", "bytes", "[B", true)
  | _ => ("CodeRooms$Text", "size", "I", false)
def tyX7 : Nat → FieldType := fun k => match k with
  | 0 => .array .byte
  | _ => .int
abbrev wsX70 : List Cond := u_ws RX7 TX7 2
theorem nmX7 : ∀ a, a < 2 → ∀ b, b < 2 → a ≠ b → (TX7 a).2.1 ≠ (TX7 b).2.1 := by decide +kernel
theorem tyX7_ok : ∀ k, k < 2 → parseFieldDescriptor (TX7 k).2.2.1 = some (tyX7 k) := by decide +kernel
abbrev cX7_init : ByteArray := prog_9_method_1_code
def yX7_init : MethodName := ⟨RX7, "<init>", "(I)V"⟩
abbrev cX7_add : ByteArray := prog_9_method_2_code
def yX7_add : MethodName := ⟨RX7, "add", "(I)V"⟩
abbrev cX7_addNumber : ByteArray := prog_9_method_3_code
def yX7_addNumber : MethodName := ⟨RX7, "addNumber", "(I)V"⟩
abbrev cX7_addAll : ByteArray := prog_9_method_4_code
def yX7_addAll : MethodName := ⟨RX7, "addAll", "(LCodeRooms$Text;)V"⟩
abbrev cX7_clear : ByteArray := prog_9_method_5_code
def yX7_clear : MethodName := ⟨RX7, "clear", "()V"⟩
abbrev cX7_at : ByteArray := prog_9_method_6_code
def yX7_at : MethodName := ⟨RX7, "at", "(I)I"⟩
abbrev cX7_part : ByteArray := prog_9_method_7_code
def yX7_part : MethodName := ⟨RX7, "part", "(II)LCodeRooms$Text;"⟩
abbrev cX7_isName : ByteArray := prog_9_method_8_code
def yX7_isName : MethodName := ⟨RX7, "isName", "()Z"⟩
abbrev cX7_compareWith : ByteArray := prog_9_method_9_code
def yX7_compareWith : MethodName := ⟨RX7, "compareWith", "(LCodeRooms$Text;)I"⟩
def RX8 : String := "CodeRooms$Traffic"
def TX8 : u_T := fun k => match k with
  | 0 => ("CodeRooms$Traffic", "plan", "LCodeRooms$Plan;", true)
  | _ => ("CodeRooms$Traffic", "reached", "[I", true)
def tyX8 : Nat → FieldType := fun k => match k with
  | 0 => .object "CodeRooms$Plan"
  | _ => .array .int
abbrev wsX80 : List Cond := u_ws RX8 TX8 2
theorem nmX8 : ∀ a, a < 2 → ∀ b, b < 2 → a ≠ b → (TX8 a).2.1 ≠ (TX8 b).2.1 := by decide +kernel
theorem tyX8_ok : ∀ k, k < 2 → parseFieldDescriptor (TX8 k).2.2.1 = some (tyX8 k) := by decide +kernel
abbrev cX8_init : ByteArray := prog_10_method_1_code
def yX8_init : MethodName := ⟨RX8, "<init>", "(LCodeRooms$Plan;)V"⟩
abbrev cX8_calledFromOutside : ByteArray := prog_10_method_2_code
def yX8_calledFromOutside : MethodName := ⟨RX8, "calledFromOutside", "(II)I"⟩
abbrev cX8_roomsAround : ByteArray := prog_10_method_3_code
def yX8_roomsAround : MethodName := ⟨RX8, "roomsAround", "(I)I"⟩
abbrev cX8_findCalled : ByteArray := prog_10_method_4_code
def yX8_findCalled : MethodName := ⟨RX8, "findCalled", "()V"⟩
abbrev cX8_leadOn : ByteArray := prog_10_method_5_code
def yX8_leadOn : MethodName := ⟨RX8, "leadOn", "()V"⟩
abbrev cX8_leads : ByteArray := prog_10_method_6_code
def yX8_leads : MethodName := ⟨RX8, "leads", "(II)Z"⟩
def RX9 : String := "CodeRooms$Word"
def TX9 : u_T := fun k => match k with
  | 0 => ("CodeRooms$Word", "letters", "LCodeRooms$Text;", true)
  | _ => ("CodeRooms$Word", "holders", "J", false)
def tyX9 : Nat → FieldType := fun k => match k with
  | 0 => .object "CodeRooms$Text"
  | _ => .long
abbrev wsX90 : List Cond := u_ws RX9 TX9 2
theorem nmX9 : ∀ a, a < 2 → ∀ b, b < 2 → a ≠ b → (TX9 a).2.1 ≠ (TX9 b).2.1 := by decide +kernel
theorem tyX9_ok : ∀ k, k < 2 → parseFieldDescriptor (TX9 k).2.2.1 = some (tyX9 k) := by decide +kernel
abbrev cX9_init : ByteArray := prog_11_method_1_code
def yX9_init : MethodName := ⟨RX9, "<init>", "(LCodeRooms$Text;J)V"⟩
def RX10 : String := "CodeRooms"
def TX10 : u_T := fun k => match k with
  | 0 => ("CodeRooms", "tape", "LCodeRooms$Text;", true)
  | 1 => ("CodeRooms", "page", "LCodeRooms$Text;", true)
  | 2 => ("CodeRooms", "plan", "LCodeRooms$Plan;", true)
  | 3 => ("CodeRooms", "glossary", "LCodeRooms$Glossary;", true)
  | 4 => ("CodeRooms", "mender", "LCodeRooms$Mender;", true)
  | 5 => ("CodeRooms", "search", "LCodeRooms$Search;", true)
  | 6 => ("CodeRooms", "traffic", "LCodeRooms$Traffic;", true)
  | 7 => ("CodeRooms", "past", "LCodeRooms$Past;", true)
  | _ => ("CodeRooms", "kept", "LCodeRooms$Kept;", true)
def tyX10 : Nat → FieldType := fun k => match k with
  | 0 => .object "CodeRooms$Text"
  | 1 => .object "CodeRooms$Text"
  | 2 => .object "CodeRooms$Plan"
  | 3 => .object "CodeRooms$Glossary"
  | 4 => .object "CodeRooms$Mender"
  | 5 => .object "CodeRooms$Search"
  | 6 => .object "CodeRooms$Traffic"
  | 7 => .object "CodeRooms$Past"
  | _ => .object "CodeRooms$Kept"
abbrev wsX100 : List Cond := u_ws RX10 TX10 9
theorem nmX10 : ∀ a, a < 9 → ∀ b, b < 9 → a ≠ b → (TX10 a).2.1 ≠ (TX10 b).2.1 := by decide +kernel
theorem tyX10_ok : ∀ k, k < 9 → parseFieldDescriptor (TX10 k).2.2.1 = some (tyX10 k) := by decide +kernel
abbrev cX10_init : ByteArray := prog_1_method_1_code
def yX10_init : MethodName := ⟨RX10, "<init>", "()V"⟩
abbrev cX10_feed : ByteArray := prog_1_method_2_code
def yX10_feed : MethodName := ⟨RX10, "feed", "(IIIII)I"⟩
abbrev cX10_routine : ByteArray := prog_1_method_3_code
def yX10_routine : MethodName := ⟨RX10, "routine", "(I)I"⟩
abbrev cX10_tie : ByteArray := prog_1_method_4_code
def yX10_tie : MethodName := ⟨RX10, "tie", "(IIII)I"⟩
abbrev cX10_ties : ByteArray := prog_1_method_5_code
def yX10_ties : MethodName := ⟨RX10, "ties", "(II)I"⟩
abbrev cX10_set : ByteArray := prog_1_method_6_code
def yX10_set : MethodName := ⟨RX10, "set", "(II)I"⟩
abbrev cX10_must : ByteArray := prog_1_method_7_code
def yX10_must : MethodName := ⟨RX10, "must", "(III)I"⟩
abbrev cX10_fix : ByteArray := prog_1_method_8_code
def yX10_fix : MethodName := ⟨RX10, "fix", "(II)I"⟩
abbrev cX10_hub : ByteArray := prog_1_method_9_code
def yX10_hub : MethodName := ⟨RX10, "hub", "(I)Z"⟩
abbrev cX10_room : ByteArray := prog_1_method_10_code
def yX10_room : MethodName := ⟨RX10, "room", "(I)I"⟩
abbrev cX10_put : ByteArray := prog_1_method_11_code
def yX10_put : MethodName := ⟨RX10, "put", "(II)I"⟩
abbrev cX10_cost : ByteArray := prog_1_method_12_code
def yX10_cost : MethodName := ⟨RX10, "cost", "()J"⟩
abbrev cX10_better : ByteArray := prog_1_method_13_code
def yX10_better : MethodName := ⟨RX10, "better", "()I"⟩
abbrev cX10_best : ByteArray := prog_1_method_14_code
def yX10_best : MethodName := ⟨RX10, "best", "()J"⟩
abbrev cX10_border : ByteArray := prog_1_method_15_code
def yX10_border : MethodName := ⟨RX10, "border", "(I)J"⟩
abbrev cX10_name : ByteArray := prog_1_method_16_code
def yX10_name : MethodName := ⟨RX10, "name", "(I)I"⟩
abbrev cX10_octet : ByteArray := prog_1_method_17_code
def yX10_octet : MethodName := ⟨RX10, "octet", "(I)I"⟩
abbrev cX10_face : ByteArray := prog_1_method_18_code
def yX10_face : MethodName := ⟨RX10, "face", "(II)I"⟩
abbrev cX10_ring : ByteArray := prog_1_method_19_code
def yX10_ring : MethodName := ⟨RX10, "ring", "(I)I"⟩
abbrev cX10_change : ByteArray := prog_1_method_20_code
def yX10_change : MethodName := ⟨RX10, "change", "(II)I"⟩
abbrev cX10_alone : ByteArray := prog_1_method_21_code
def yX10_alone : MethodName := ⟨RX10, "alone", "()I"⟩
abbrev cX10_keep : ByteArray := prog_1_method_22_code
def yX10_keep : MethodName := ⟨RX10, "keep", "()I"⟩
abbrev cX10_moves : ByteArray := prog_1_method_23_code
def yX10_moves : MethodName := ⟨RX10, "moves", "()I"⟩
abbrev cX10_count : ByteArray := prog_1_method_24_code
def yX10_count : MethodName := ⟨RX10, "count", "(I)I"⟩
abbrev cX10_known : ByteArray := prog_1_method_25_code
def yX10_known : MethodName := ⟨RX10, "known", "(I)LCodeRooms$Routine;"⟩
abbrev cX10_needRoom : ByteArray := prog_1_method_26_code
def yX10_needRoom : MethodName := ⟨RX10, "needRoom", "(I)V"⟩
def RX11 : String := "CodeRoomsModel"
def TX11 : u_T := fun k => match k with
  | 0 => ("CodeRoomsModel", "thrown", "I", false)
  | 1 => ("CodeRoomsModel", "tape", "[B", true)
  | 2 => ("CodeRoomsModel", "taped", "I", false)
  | 3 => ("CodeRoomsModel", "names", "[B", true)
  | 4 => ("CodeRoomsModel", "nameLong", "[I", true)
  | 5 => ("CodeRoomsModel", "many", "I", false)
  | 6 => ("CodeRoomsModel", "numbers", "[I", true)
  | 7 => ("CodeRoomsModel", "weights", "[I", true)
  | 8 => ("CodeRoomsModel", "even", "I", false)
  | 9 => ("CodeRoomsModel", "limit", "I", false)
  | 10 => ("CodeRoomsModel", "rooms", "I", false)
  | 11 => ("CodeRoomsModel", "isHub", "[Z", true)
  | 12 => ("CodeRoomsModel", "roomOf", "[I", true)
  | 13 => ("CodeRoomsModel", "musts", "[I", true)
  | 14 => ("CodeRoomsModel", "fixed", "[I", true)
  | 15 => ("CodeRoomsModel", "free", "[I", true)
  | 16 => ("CodeRoomsModel", "bestRow", "[I", true)
  | 17 => ("CodeRoomsModel", "page", "[B", true)
  | 18 => ("CodeRoomsModel", "pageLong", "I", false)
  | 19 => ("CodeRoomsModel", "next", "[I", true)
  | 20 => ("CodeRoomsModel", "lows", "[I", true)
  | 21 => ("CodeRoomsModel", "highs", "[I", true)
  | 22 => ("CodeRoomsModel", "changes", "I", false)
  | 23 => ("CodeRoomsModel", "isKept", "Z", false)
  | 24 => ("CodeRoomsModel", "keptRoom", "[I", true)
  | _ => ("CodeRoomsModel", "together", "[I", true)
def tyX11 : Nat → FieldType := fun k => match k with
  | 0 => .int
  | 1 => .array .byte
  | 2 => .int
  | 3 => .array .byte
  | 4 => .array .int
  | 5 => .int
  | 6 => .array .int
  | 7 => .array .int
  | 8 => .int
  | 9 => .int
  | 10 => .int
  | 11 => .array .boolean
  | 12 => .array .int
  | 13 => .array .int
  | 14 => .array .int
  | 15 => .array .int
  | 16 => .array .int
  | 17 => .array .byte
  | 18 => .int
  | 19 => .array .int
  | 20 => .array .int
  | 21 => .array .int
  | 22 => .int
  | 23 => .boolean
  | 24 => .array .int
  | _ => .array .int
abbrev wsX110 : List Cond := u_ws RX11 TX11 26
theorem nmX11 : ∀ a, a < 26 → ∀ b, b < 26 → a ≠ b → (TX11 a).2.1 ≠ (TX11 b).2.1 := by decide +kernel
theorem tyX11_ok : ∀ k, k < 26 → parseFieldDescriptor (TX11 k).2.2.1 = some (tyX11 k) := by decide +kernel
abbrev cX11_init : ByteArray := prog_13_method_1_code
def yX11_init : MethodName := ⟨RX11, "<init>", "()V"⟩
abbrev cX11_thrown : ByteArray := prog_13_method_2_code
def yX11_thrown : MethodName := ⟨RX11, "thrown", "()I"⟩
abbrev cX11_bad : ByteArray := prog_13_method_3_code
def yX11_bad : MethodName := ⟨RX11, "bad", "(ZI)Z"⟩
abbrev cX11_feed : ByteArray := prog_13_method_4_code
def yX11_feed : MethodName := ⟨RX11, "feed", "(IIIII)I"⟩
abbrev cX11_isName : ByteArray := prog_13_method_5_code
def yX11_isName : MethodName := ⟨RX11, "isName", "(I)Z"⟩
abbrev cX11_hasName : ByteArray := prog_13_method_6_code
def yX11_hasName : MethodName := ⟨RX11, "hasName", "(II)Z"⟩
abbrev cX11_routine : ByteArray := prog_13_method_7_code
def yX11_routine : MethodName := ⟨RX11, "routine", "(I)I"⟩
abbrev cX11_isRoutine : ByteArray := prog_13_method_8_code
def yX11_isRoutine : MethodName := ⟨RX11, "isRoutine", "(I)Z"⟩
abbrev cX11_cell : ByteArray := prog_13_method_9_code
def yX11_cell : MethodName := ⟨RX11, "cell", "(III)I"⟩
abbrev cX11_tie : ByteArray := prog_13_method_10_code
def yX11_tie : MethodName := ⟨RX11, "tie", "(IIII)I"⟩
abbrev cX11_tieOf : ByteArray := prog_13_method_11_code
def yX11_tieOf : MethodName := ⟨RX11, "tieOf", "(II)I"⟩
abbrev cX11_ties : ByteArray := prog_13_method_12_code
def yX11_ties : MethodName := ⟨RX11, "ties", "(II)I"⟩
abbrev cX11_settles : ByteArray := prog_13_method_13_code
def yX11_settles : MethodName := ⟨RX11, "settles", "()V"⟩
abbrev cX11_set : ByteArray := prog_13_method_14_code
def yX11_set : MethodName := ⟨RX11, "set", "(II)I"⟩
abbrev cX11_must : ByteArray := prog_13_method_15_code
def yX11_must : MethodName := ⟨RX11, "must", "(III)I"⟩
abbrev cX11_fix : ByteArray := prog_13_method_16_code
def yX11_fix : MethodName := ⟨RX11, "fix", "(II)I"⟩
abbrev cX11_hub : ByteArray := prog_13_method_17_code
def yX11_hub : MethodName := ⟨RX11, "hub", "(I)Z"⟩
abbrev cX11_room : ByteArray := prog_13_method_18_code
def yX11_room : MethodName := ⟨RX11, "room", "(I)I"⟩
abbrev cX11_isRoom : ByteArray := prog_13_method_19_code
def yX11_isRoom : MethodName := ⟨RX11, "isRoom", "(I)Z"⟩
abbrev cX11_put : ByteArray := prog_13_method_20_code
def yX11_put : MethodName := ⟨RX11, "put", "(II)I"⟩
abbrev cX11_sizeOf : ByteArray := prog_13_method_21_code
def yX11_sizeOf : MethodName := ⟨RX11, "sizeOf", "(I)I"⟩
abbrev cX11_isBroken : ByteArray := prog_13_method_22_code
def yX11_isBroken : MethodName := ⟨RX11, "isBroken", "(III)Z"⟩
abbrev cX11_brokenMany : ByteArray := prog_13_method_23_code
def yX11_brokenMany : MethodName := ⟨RX11, "brokenMany", "()I"⟩
abbrev cX11_costNow : ByteArray := prog_13_method_24_code
def yX11_costNow : MethodName := ⟨RX11, "costNow", "()J"⟩
abbrev cX11_cost : ByteArray := prog_13_method_25_code
def yX11_cost : MethodName := ⟨RX11, "cost", "()J"⟩
abbrev cX11_hangs : ByteArray := prog_13_method_26_code
def yX11_hangs : MethodName := ⟨RX11, "hangs", "(III)J"⟩
abbrev cX11_moved : ByteArray := prog_13_method_27_code
def yX11_moved : MethodName := ⟨RX11, "moved", "(II)J"⟩
abbrev cX11_swapped : ByteArray := prog_13_method_28_code
def yX11_swapped : MethodName := ⟨RX11, "swapped", "(II)J"⟩
abbrev cX11_isBetter : ByteArray := prog_13_method_29_code
def yX11_isBetter : MethodName := ⟨RX11, "isBetter", "()Z"⟩
abbrev cX11_better : ByteArray := prog_13_method_30_code
def yX11_better : MethodName := ⟨RX11, "better", "()I"⟩
abbrev cX11_best : ByteArray := prog_13_method_31_code
def yX11_best : MethodName := ⟨RX11, "best", "()J"⟩
abbrev cX11_border : ByteArray := prog_13_method_32_code
def yX11_border : MethodName := ⟨RX11, "border", "(I)J"⟩
abbrev cX11_ends : ByteArray := prog_13_method_33_code
def yX11_ends : MethodName := ⟨RX11, "ends", "(II)I"⟩
abbrev cX11_compared : ByteArray := prog_13_method_34_code
def yX11_compared : MethodName := ⟨RX11, "compared", "(IIIIII)I"⟩
abbrev cX11_hasWord : ByteArray := prog_13_method_35_code
def yX11_hasWord : MethodName := ⟨RX11, "hasWord", "(IIII)Z"⟩
abbrev cX11_scoreOf : ByteArray := prog_13_method_36_code
def yX11_scoreOf : MethodName := ⟨RX11, "scoreOf", "(IIII)I"⟩
abbrev cX11_name : ByteArray := prog_13_method_37_code
def yX11_name : MethodName := ⟨RX11, "name", "(I)I"⟩
abbrev cX11_octet : ByteArray := prog_13_method_38_code
def yX11_octet : MethodName := ⟨RX11, "octet", "(I)I"⟩
abbrev cX11_face : ByteArray := prog_13_method_39_code
def yX11_face : MethodName := ⟨RX11, "face", "(II)I"⟩
abbrev cX11_leads : ByteArray := prog_13_method_40_code
def yX11_leads : MethodName := ⟨RX11, "leads", "(II)Z"⟩
abbrev cX11_reached : ByteArray := prog_13_method_41_code
def yX11_reached : MethodName := ⟨RX11, "reached", "(I)I"⟩
abbrev cX11_ring : ByteArray := prog_13_method_42_code
def yX11_ring : MethodName := ⟨RX11, "ring", "(I)I"⟩
abbrev cX11_has : ByteArray := prog_13_method_43_code
def yX11_has : MethodName := ⟨RX11, "has", "(II)Z"⟩
abbrev cX11_change : ByteArray := prog_13_method_44_code
def yX11_change : MethodName := ⟨RX11, "change", "(II)I"⟩
abbrev cX11_alone : ByteArray := prog_13_method_45_code
def yX11_alone : MethodName := ⟨RX11, "alone", "()I"⟩
abbrev cX11_keep : ByteArray := prog_13_method_46_code
def yX11_keep : MethodName := ⟨RX11, "keep", "()I"⟩
abbrev cX11_stays : ByteArray := prog_13_method_47_code
def yX11_stays : MethodName := ⟨RX11, "stays", "(II)I"⟩
abbrev cX11_moves : ByteArray := prog_13_method_48_code
def yX11_moves : MethodName := ⟨RX11, "moves", "()I"⟩
abbrev cX11_count : ByteArray := prog_13_method_49_code
def yX11_count : MethodName := ⟨RX11, "count", "(I)I"⟩
def RJx145de : String := "java/io/Serializable"
def TJx145de : u_T := fun k => match k with
  | _ => ("", "", "", false)
def tyJx145de : Nat → FieldType := fun k => match k with
  | _ => .int
abbrev wsJx145de0 : List Cond := u_ws RJx145de TJx145de 0
theorem nmJx145de : ∀ a, a < 0 → ∀ b, b < 0 → a ≠ b → (TJx145de a).2.1 ≠ (TJx145de b).2.1 := by decide +kernel
theorem tyJx145de_ok : ∀ k, k < 0 → parseFieldDescriptor (TJx145de k).2.2.1 = some (tyJx145de k) := by decide +kernel
def RJ5 : String := "java/lang/AbstractStringBuilder"
def TJ5 : u_T := fun k => match k with
  | _ => ("", "", "", false)
def tyJ5 : Nat → FieldType := fun k => match k with
  | _ => .int
abbrev wsJ50 : List Cond := u_ws RJ5 TJ5 0
theorem nmJ5 : ∀ a, a < 0 → ∀ b, b < 0 → a ≠ b → (TJ5 a).2.1 ≠ (TJ5 b).2.1 := by decide +kernel
theorem tyJ5_ok : ∀ k, k < 0 → parseFieldDescriptor (TJ5 k).2.2.1 = some (tyJ5 k) := by decide +kernel
abbrev cJ5_init_d00df : ByteArray := prog_15_method_2_code
def yJ5_init_d00df : MethodName := ⟨RJ5, "<init>", "(I)V"⟩
abbrev cJ5_length_8abf5 : ByteArray := prog_15_method_6_code
def yJ5_length_8abf5 : MethodName := ⟨RJ5, "length", "()I"⟩
abbrev cJ5_ensureCapacityInternal_d00df : ByteArray := prog_15_method_9_code
def yJ5_ensureCapacityInternal_d00df : MethodName := ⟨RJ5, "ensureCapacityInternal", "(I)V"⟩
abbrev cJ5_newCapacity_0f7a4 : ByteArray := prog_15_method_10_code
def yJ5_newCapacity_0f7a4 : MethodName := ⟨RJ5, "newCapacity", "(I)I"⟩
abbrev cJ5_inflate_da8c8 : ByteArray := prog_15_method_11_code
def yJ5_inflate_da8c8 : MethodName := ⟨RJ5, "inflate", "()V"⟩
abbrev cJ5_append_cf1ce : ByteArray := prog_15_method_22_code
def yJ5_append_cf1ce : MethodName := ⟨RJ5, "append", "(Ljava/lang/String;)Ljava/lang/AbstractStringBuilder;"⟩
abbrev cJ5_appendNull_278bc : ByteArray := prog_15_method_26_code
def yJ5_appendNull_278bc : MethodName := ⟨RJ5, "appendNull", "()Ljava/lang/AbstractStringBuilder;"⟩
abbrev cJ5_append_c97b9 : ByteArray := prog_15_method_32_code
def yJ5_append_c97b9 : MethodName := ⟨RJ5, "append", "(I)Ljava/lang/AbstractStringBuilder;"⟩
abbrev cJ5_getValue_6d5f1 : ByteArray := prog_15_method_64_code
def yJ5_getValue_6d5f1 : MethodName := ⟨RJ5, "getValue", "()[B"⟩
abbrev cJ5_isLatin1_aae02 : ByteArray := prog_15_method_68_code
def yJ5_isLatin1_aae02 : MethodName := ⟨RJ5, "isLatin1", "()Z"⟩
abbrev cJ5_inflateIfNeededFor_a7421 : ByteArray := prog_15_method_71_code
def yJ5_inflateIfNeededFor_a7421 : MethodName := ⟨RJ5, "inflateIfNeededFor", "(Ljava/lang/String;)V"⟩
abbrev cJ5_putStringAt_47b60 : ByteArray := prog_15_method_73_code
def yJ5_putStringAt_47b60 : MethodName := ⟨RJ5, "putStringAt", "(ILjava/lang/String;)V"⟩
def RJx8e188 : String := "java/lang/Cloneable"
def TJx8e188 : u_T := fun k => match k with
  | _ => ("", "", "", false)
def tyJx8e188 : Nat → FieldType := fun k => match k with
  | _ => .int
abbrev wsJx8e1880 : List Cond := u_ws RJx8e188 TJx8e188 0
theorem nmJx8e188 : ∀ a, a < 0 → ∀ b, b < 0 → a ≠ b → (TJx8e188 a).2.1 ≠ (TJx8e188 b).2.1 := by decide +kernel
theorem tyJx8e188_ok : ∀ k, k < 0 → parseFieldDescriptor (TJx8e188 k).2.2.1 = some (tyJx8e188 k) := by decide +kernel
def RJ6 : String := "java/lang/Integer"
def TJ6 : u_T := fun k => match k with
  | _ => ("", "", "", false)
def tyJ6 : Nat → FieldType := fun k => match k with
  | _ => .int
abbrev wsJ60 : List Cond := u_ws RJ6 TJ6 0
theorem nmJ6 : ∀ a, a < 0 → ∀ b, b < 0 → a ≠ b → (TJ6 a).2.1 ≠ (TJ6 b).2.1 := by decide +kernel
theorem tyJ6_ok : ∀ k, k < 0 → parseFieldDescriptor (TJ6 k).2.2.1 = some (tyJ6 k) := by decide +kernel
abbrev cJ6_getChars_ba4f3 : ByteArray := prog_21_method_12_code
def yJ6_getChars_ba4f3 : MethodName := ⟨RJ6, "getChars", "(II[B)I"⟩
abbrev cJ6_stringSize_0f7a4 : ByteArray := prog_21_method_13_code
def yJ6_stringSize_0f7a4 : MethodName := ⟨RJ6, "stringSize", "(I)I"⟩
def RJxab1ab : String := "java/lang/Iterable"
def TJxab1ab : u_T := fun k => match k with
  | _ => ("", "", "", false)
def tyJxab1ab : Nat → FieldType := fun k => match k with
  | _ => .int
abbrev wsJxab1ab0 : List Cond := u_ws RJxab1ab TJxab1ab 0
theorem nmJxab1ab : ∀ a, a < 0 → ∀ b, b < 0 → a ≠ b → (TJxab1ab a).2.1 ≠ (TJxab1ab b).2.1 := by decide +kernel
theorem tyJxab1ab_ok : ∀ k, k < 0 → parseFieldDescriptor (TJxab1ab k).2.2.1 = some (tyJxab1ab k) := by decide +kernel
def RJ13 : String := "java/lang/Long"
def TJ13 : u_T := fun k => match k with
  | _ => ("", "", "", false)
def tyJ13 : Nat → FieldType := fun k => match k with
  | _ => .int
abbrev wsJ130 : List Cond := u_ws RJ13 TJ13 0
theorem nmJ13 : ∀ a, a < 0 → ∀ b, b < 0 → a ≠ b → (TJ13 a).2.1 ≠ (TJ13 b).2.1 := by decide +kernel
theorem tyJ13_ok : ∀ k, k < 0 → parseFieldDescriptor (TJ13 k).2.2.1 = some (tyJ13 k) := by decide +kernel
abbrev cJ13_bitCount_95d88 : ByteArray := prog_23_method_50_code
def yJ13_bitCount_95d88 : MethodName := ⟨RJ13, "bitCount", "(J)I"⟩
def RJ9 : String := "java/lang/Math"
def TJ9 : u_T := fun k => match k with
  | _ => ("", "", "", false)
def tyJ9 : Nat → FieldType := fun k => match k with
  | _ => .int
abbrev wsJ90 : List Cond := u_ws RJ9 TJ9 0
theorem nmJ9 : ∀ a, a < 0 → ∀ b, b < 0 → a ≠ b → (TJ9 a).2.1 ≠ (TJ9 b).2.1 := by decide +kernel
theorem tyJ9_ok : ∀ k, k < 0 → parseFieldDescriptor (TJ9 k).2.2.1 = some (tyJ9 k) := by decide +kernel
abbrev cJ9_max_7cf53 : ByteArray := prog_24_method_65_code
def yJ9_max_7cf53 : MethodName := ⟨RJ9, "max", "(II)I"⟩
abbrev cJ9_min_7cf53 : ByteArray := prog_24_method_69_code
def yJ9_min_7cf53 : MethodName := ⟨RJ9, "min", "(II)I"⟩
abbrev cJ9_min_f86c9 : ByteArray := prog_24_method_70_code
def yJ9_min_f86c9 : MethodName := ⟨RJ9, "min", "(JJ)J"⟩
def RJ0 : String := "java/lang/String"
def TJ0 : u_T := fun k => match k with
  | 0 => ("java/lang/String", "value", "[B", true)
  | 1 => ("java/lang/String", "coder", "B", true)
  | 2 => ("java/lang/String", "hash", "I", false)
  | _ => ("java/lang/String", "hashIsZero", "Z", false)
def tyJ0 : Nat → FieldType := fun k => match k with
  | 0 => .array .byte
  | 1 => .byte
  | 2 => .int
  | _ => .boolean
abbrev wsJ00 : List Cond := u_ws RJ0 TJ0 4
theorem nmJ0 : ∀ a, a < 4 → ∀ b, b < 4 → a ≠ b → (TJ0 a).2.1 ≠ (TJ0 b).2.1 := by decide +kernel
theorem tyJ0_ok : ∀ k, k < 4 → parseFieldDescriptor (TJ0 k).2.2.1 = some (tyJ0 k) := by decide +kernel
abbrev cJ0_init_81219 : ByteArray := prog_26_method_53_code
def yJ0_init_81219 : MethodName := ⟨RJ0, "<init>", "(Ljava/lang/StringBuilder;)V"⟩
abbrev cJ0_length_8abf5 : ByteArray := prog_26_method_54_code
def yJ0_length_8abf5 : MethodName := ⟨RJ0, "length", "()I"⟩
abbrev cJ0_getBytes_840e7 : ByteArray := prog_26_method_147_code
def yJ0_getBytes_840e7 : MethodName := ⟨RJ0, "getBytes", "([BIB)V"⟩
abbrev cJ0_init_db425 : ByteArray := prog_26_method_150_code
def yJ0_init_db425 : MethodName := ⟨RJ0, "<init>", "(Ljava/lang/AbstractStringBuilder;Ljava/lang/Void;)V"⟩
abbrev cJ0_coder_7d493 : ByteArray := prog_26_method_152_code
def yJ0_coder_7d493 : MethodName := ⟨RJ0, "coder", "()B"⟩
abbrev cJ0_checkBoundsOffCount_cabcc : ByteArray := prog_26_method_157_code
def yJ0_checkBoundsOffCount_cabcc : MethodName := ⟨RJ0, "checkBoundsOffCount", "(III)I"⟩
abbrev cJ0_checkBoundsBeginEnd_23922 : ByteArray := prog_26_method_158_code
def yJ0_checkBoundsBeginEnd_23922 : MethodName := ⟨RJ0, "checkBoundsBeginEnd", "(III)V"⟩
def RJ4 : String := "java/lang/StringBuilder"
def TJ4 : u_T := fun k => match k with
  | 0 => ("java/lang/AbstractStringBuilder", "value", "[B", false)
  | 1 => ("java/lang/AbstractStringBuilder", "coder", "B", false)
  | 2 => ("java/lang/AbstractStringBuilder", "maybeLatin1", "Z", false)
  | _ => ("java/lang/AbstractStringBuilder", "count", "I", false)
def tyJ4 : Nat → FieldType := fun k => match k with
  | 0 => .array .byte
  | 1 => .byte
  | 2 => .boolean
  | _ => .int
abbrev wsJ40 : List Cond := u_ws RJ4 TJ4 4
theorem nmJ4 : ∀ a, a < 4 → ∀ b, b < 4 → a ≠ b → (TJ4 a).2.1 ≠ (TJ4 b).2.1 := by decide +kernel
theorem tyJ4_ok : ∀ k, k < 4 → parseFieldDescriptor (TJ4 k).2.2.1 = some (tyJ4 k) := by decide +kernel
abbrev cJ4_init_da8c8 : ByteArray := prog_27_method_1_code
def yJ4_init_da8c8 : MethodName := ⟨RJ4, "<init>", "()V"⟩
abbrev cJ4_append_15ec4 : ByteArray := prog_27_method_7_code
def yJ4_append_15ec4 : MethodName := ⟨RJ4, "append", "(Ljava/lang/String;)Ljava/lang/StringBuilder;"⟩
abbrev cJ4_append_bf812 : ByteArray := prog_27_method_15_code
def yJ4_append_bf812 : MethodName := ⟨RJ4, "append", "(I)Ljava/lang/StringBuilder;"⟩
abbrev cJ4_toString_0e30d : ByteArray := prog_27_method_42_code
def yJ4_toString_0e30d : MethodName := ⟨RJ4, "toString", "()Ljava/lang/String;"⟩
abbrev cJ4_length_8abf5 : ByteArray := prog_27_method_93_code
def yJ4_length_8abf5 : MethodName := ⟨RJ4, "length", "()I"⟩
def RJ1 : String := "java/lang/StringLatin1"
def TJ1 : u_T := fun k => match k with
  | _ => ("", "", "", false)
def tyJ1 : Nat → FieldType := fun k => match k with
  | _ => .int
abbrev wsJ10 : List Cond := u_ws RJ1 TJ1 0
theorem nmJ1 : ∀ a, a < 0 → ∀ b, b < 0 → a ≠ b → (TJ1 a).2.1 ≠ (TJ1 b).2.1 := by decide +kernel
theorem tyJ1_ok : ∀ k, k < 0 → parseFieldDescriptor (TJ1 k).2.2.1 = some (tyJ1 k) := by decide +kernel
abbrev cJ1_inflate_0e8fd : ByteArray := prog_28_method_50_code
def yJ1_inflate_0e8fd : MethodName := ⟨RJ1, "inflate", "([BI[BII)V"⟩
def RJ2 : String := "java/lang/StringUTF16"
def TJ2 : u_T := fun k => match k with
  | _ => ("", "", "", false)
def tyJ2 : Nat → FieldType := fun k => match k with
  | _ => .int
abbrev wsJ20 : List Cond := u_ws RJ2 TJ2 0
theorem nmJ2 : ∀ a, a < 0 → ∀ b, b < 0 → a ≠ b → (TJ2 a).2.1 ≠ (TJ2 b).2.1 := by decide +kernel
theorem tyJ2_ok : ∀ k, k < 0 → parseFieldDescriptor (TJ2 k).2.2.1 = some (tyJ2 k) := by decide +kernel
abbrev cJ2_newBytesFor_77867 : ByteArray := prog_29_method_2_code
def yJ2_newBytesFor_77867 : MethodName := ⟨RJ2, "newBytesFor", "(I)[B"⟩
abbrev cJ2_newBytesLength_0f7a4 : ByteArray := prog_29_method_3_code
def yJ2_newBytesLength_0f7a4 : MethodName := ⟨RJ2, "newBytesLength", "(I)I"⟩
abbrev cJ2_putChar_b72d1 : ByteArray := prog_29_method_4_code
def yJ2_putChar_b72d1 : MethodName := ⟨RJ2, "putChar", "([BII)V"⟩
abbrev cJ2_getChar_3b067 : ByteArray := prog_29_method_5_code
def yJ2_getChar_3b067 : MethodName := ⟨RJ2, "getChar", "([BI)C"⟩
abbrev cJ2_length_9d52b : ByteArray := prog_29_method_6_code
def yJ2_length_9d52b : MethodName := ⟨RJ2, "length", "([B)I"⟩
abbrev cJ2_coderFromArrayLen_85cad : ByteArray := prog_29_method_15_code
def yJ2_coderFromArrayLen_85cad : MethodName := ⟨RJ2, "coderFromArrayLen", "([BI)B"⟩
abbrev cJ2_compress_39247 : ByteArray := prog_29_method_17_code
def yJ2_compress_39247 : MethodName := ⟨RJ2, "compress", "([BII)[B"⟩
abbrev cJ2_compress_5af95 : ByteArray := prog_29_method_22_code
def yJ2_compress_5af95 : MethodName := ⟨RJ2, "compress", "([BI[BII)I"⟩
abbrev cJ2_getChars_46870 : ByteArray := prog_29_method_77_code
def yJ2_getChars_46870 : MethodName := ⟨RJ2, "getChars", "(III[B)I"⟩
abbrev cJ2_putCharsAt_cd4e5 : ByteArray := prog_29_method_81_code
def yJ2_putCharsAt_cd4e5 : MethodName := ⟨RJ2, "putCharsAt", "([BICCCC)I"⟩
abbrev cJ2_inflate_0e8fd : ByteArray := prog_29_method_86_code
def yJ2_inflate_0e8fd : MethodName := ⟨RJ2, "inflate", "([BI[BII)V"⟩
abbrev cJ2_getChars_ba4f3 : ByteArray := prog_29_method_89_code
def yJ2_getChars_ba4f3 : MethodName := ⟨RJ2, "getChars", "(II[B)I"⟩
abbrev cJ2_checkBoundsBeginEnd_d044e : ByteArray := prog_29_method_93_code
def yJ2_checkBoundsBeginEnd_d044e : MethodName := ⟨RJ2, "checkBoundsBeginEnd", "(II[B)V"⟩
abbrev cJ2_checkBoundsOffCount_d044e : ByteArray := prog_29_method_94_code
def yJ2_checkBoundsOffCount_d044e : MethodName := ⟨RJ2, "checkBoundsOffCount", "(II[B)V"⟩
def RJ10 : String := "java/lang/System"
def TJ10 : u_T := fun k => match k with
  | _ => ("", "", "", false)
def tyJ10 : Nat → FieldType := fun k => match k with
  | _ => .int
abbrev wsJ100 : List Cond := u_ws RJ10 TJ10 0
theorem nmJ10 : ∀ a, a < 0 → ∀ b, b < 0 → a ≠ b → (TJ10 a).2.1 ≠ (TJ10 b).2.1 := by decide +kernel
theorem tyJ10_ok : ∀ k, k < 0 → parseFieldDescriptor (TJ10 k).2.2.1 = some (tyJ10 k) := by decide +kernel
def RJxa1e45 : String := "java/util/AbstractCollection"
def TJxa1e45 : u_T := fun k => match k with
  | _ => ("", "", "", false)
def tyJxa1e45 : Nat → FieldType := fun k => match k with
  | _ => .int
abbrev wsJxa1e450 : List Cond := u_ws RJxa1e45 TJxa1e45 0
theorem nmJxa1e45 : ∀ a, a < 0 → ∀ b, b < 0 → a ≠ b → (TJxa1e45 a).2.1 ≠ (TJxa1e45 b).2.1 := by decide +kernel
theorem tyJxa1e45_ok : ∀ k, k < 0 → parseFieldDescriptor (TJxa1e45 k).2.2.1 = some (tyJxa1e45 k) := by decide +kernel
abbrev cJxa1e45_init_da8c8 : ByteArray := prog_32_method_1_code
def yJxa1e45_init_da8c8 : MethodName := ⟨RJxa1e45, "<init>", "()V"⟩
def RJxc12de : String := "java/util/AbstractList"
def TJxc12de : u_T := fun k => match k with
  | _ => ("", "", "", false)
def tyJxc12de : Nat → FieldType := fun k => match k with
  | _ => .int
abbrev wsJxc12de0 : List Cond := u_ws RJxc12de TJxc12de 0
theorem nmJxc12de : ∀ a, a < 0 → ∀ b, b < 0 → a ≠ b → (TJxc12de a).2.1 ≠ (TJxc12de b).2.1 := by decide +kernel
theorem tyJxc12de_ok : ∀ k, k < 0 → parseFieldDescriptor (TJxc12de k).2.2.1 = some (tyJxc12de k) := by decide +kernel
abbrev cJxc12de_init_da8c8 : ByteArray := prog_33_method_1_code
def yJxc12de_init_da8c8 : MethodName := ⟨RJxc12de, "<init>", "()V"⟩
def RJx4a65c : String := "java/util/ArrayList"
def TJx4a65c : u_T := fun k => match k with
  | 0 => ("java/util/AbstractList", "modCount", "I", false)
  | 1 => ("java/util/ArrayList", "elementData", "[Ljava/lang/Object;", false)
  | _ => ("java/util/ArrayList", "size", "I", false)
def tyJx4a65c : Nat → FieldType := fun k => match k with
  | 0 => .int
  | 1 => .array (.object "java/lang/Object")
  | _ => .int
abbrev wsJx4a65c0 : List Cond := u_ws RJx4a65c TJx4a65c 3
theorem nmJx4a65c : ∀ a, a < 3 → ∀ b, b < 3 → a ≠ b → (TJx4a65c a).2.1 ≠ (TJx4a65c b).2.1 := by decide +kernel
theorem tyJx4a65c_ok : ∀ k, k < 3 → parseFieldDescriptor (TJx4a65c k).2.2.1 = some (tyJx4a65c k) := by decide +kernel
abbrev cJx4a65c_init_da8c8 : ByteArray := prog_34_method_2_code
def yJx4a65c_init_da8c8 : MethodName := ⟨RJx4a65c, "<init>", "()V"⟩
abbrev cJx4a65c_grow_92f84 : ByteArray := prog_34_method_6_code
def yJx4a65c_grow_92f84 : MethodName := ⟨RJx4a65c, "grow", "(I)[Ljava/lang/Object;"⟩
abbrev cJx4a65c_grow_d5877 : ByteArray := prog_34_method_7_code
def yJx4a65c_grow_d5877 : MethodName := ⟨RJx4a65c, "grow", "()[Ljava/lang/Object;"⟩
abbrev cJx4a65c_size_8abf5 : ByteArray := prog_34_method_8_code
def yJx4a65c_size_8abf5 : MethodName := ⟨RJx4a65c, "size", "()I"⟩
abbrev cJx4a65c_elementData_915e3 : ByteArray := prog_34_method_18_code
def yJx4a65c_elementData_915e3 : MethodName := ⟨RJx4a65c, "elementData", "(I)Ljava/lang/Object;"⟩
abbrev cJx4a65c_get_915e3 : ByteArray := prog_34_method_20_code
def yJx4a65c_get_915e3 : MethodName := ⟨RJx4a65c, "get", "(I)Ljava/lang/Object;"⟩
abbrev cJx4a65c_add_7a177 : ByteArray := prog_34_method_26_code
def yJx4a65c_add_7a177 : MethodName := ⟨RJx4a65c, "add", "(ILjava/lang/Object;)V"⟩
abbrev cJx4a65c_rangeCheckForAdd_d00df : ByteArray := prog_34_method_45_code
def yJx4a65c_rangeCheckForAdd_d00df : MethodName := ⟨RJx4a65c, "rangeCheckForAdd", "(I)V"⟩
abbrev cJx4a65c_outOfBoundsMsg_b52d3 : ByteArray := prog_34_method_46_code
def yJx4a65c_outOfBoundsMsg_b52d3 : MethodName := ⟨RJx4a65c, "outOfBoundsMsg", "(I)Ljava/lang/String;"⟩
def RJ7 : String := "java/util/Arrays"
def TJ7 : u_T := fun k => match k with
  | _ => ("", "", "", false)
def tyJ7 : Nat → FieldType := fun k => match k with
  | _ => .int
abbrev wsJ70 : List Cond := u_ws RJ7 TJ7 0
theorem nmJ7 : ∀ a, a < 0 → ∀ b, b < 0 → a ≠ b → (TJ7 a).2.1 ≠ (TJ7 b).2.1 := by decide +kernel
theorem tyJ7_ok : ∀ k, k < 0 → parseFieldDescriptor (TJ7 k).2.2.1 = some (tyJ7 k) := by decide +kernel
abbrev cJ7_copyOf_1904c : ByteArray := prog_35_method_119_code
def yJ7_copyOf_1904c : MethodName := ⟨RJ7, "copyOf", "([Ljava/lang/Object;I)[Ljava/lang/Object;"⟩
abbrev cJ7_copyOf_6403c : ByteArray := prog_35_method_120_code
def yJ7_copyOf_6403c : MethodName := ⟨RJ7, "copyOf", "([Ljava/lang/Object;ILjava/lang/Class;)[Ljava/lang/Object;"⟩
abbrev cJ7_copyOf_9075b : ByteArray := prog_35_method_121_code
def yJ7_copyOf_9075b : MethodName := ⟨RJ7, "copyOf", "([BI)[B"⟩
abbrev cJ7_checkLength_df160 : ByteArray := prog_35_method_131_code
def yJ7_checkLength_df160 : MethodName := ⟨RJ7, "checkLength", "(II)V"⟩
abbrev cJ7_copyOfRange_39247 : ByteArray := prog_35_method_132_code
def yJ7_copyOfRange_39247 : MethodName := ⟨RJ7, "copyOfRange", "([BII)[B"⟩
abbrev cJ7_copyOfRangeByte_39247 : ByteArray := prog_35_method_133_code
def yJ7_copyOfRangeByte_39247 : MethodName := ⟨RJ7, "copyOfRangeByte", "([BII)[B"⟩
def RJx5ef63 : String := "java/util/Collection"
def TJx5ef63 : u_T := fun k => match k with
  | _ => ("", "", "", false)
def tyJx5ef63 : Nat → FieldType := fun k => match k with
  | _ => .int
abbrev wsJx5ef630 : List Cond := u_ws RJx5ef63 TJx5ef63 0
theorem nmJx5ef63 : ∀ a, a < 0 → ∀ b, b < 0 → a ≠ b → (TJx5ef63 a).2.1 ≠ (TJx5ef63 b).2.1 := by decide +kernel
theorem tyJx5ef63_ok : ∀ k, k < 0 → parseFieldDescriptor (TJx5ef63 k).2.2.1 = some (tyJx5ef63 k) := by decide +kernel
def RJxbd725 : String := "java/util/List"
def TJxbd725 : u_T := fun k => match k with
  | _ => ("", "", "", false)
def tyJxbd725 : Nat → FieldType := fun k => match k with
  | _ => .int
abbrev wsJxbd7250 : List Cond := u_ws RJxbd725 TJxbd725 0
theorem nmJxbd725 : ∀ a, a < 0 → ∀ b, b < 0 → a ≠ b → (TJxbd725 a).2.1 ≠ (TJxbd725 b).2.1 := by decide +kernel
theorem tyJxbd725_ok : ∀ k, k < 0 → parseFieldDescriptor (TJxbd725 k).2.2.1 = some (tyJxbd725 k) := by decide +kernel
def RJ15 : String := "java/util/Objects"
def TJ15 : u_T := fun k => match k with
  | _ => ("", "", "", false)
def tyJ15 : Nat → FieldType := fun k => match k with
  | _ => .int
abbrev wsJ150 : List Cond := u_ws RJ15 TJ15 0
theorem nmJ15 : ∀ a, a < 0 → ∀ b, b < 0 → a ≠ b → (TJ15 a).2.1 ≠ (TJ15 b).2.1 := by decide +kernel
theorem tyJ15_ok : ∀ k, k < 0 → parseFieldDescriptor (TJ15 k).2.2.1 = some (tyJ15 k) := by decide +kernel
abbrev cJ15_checkIndex_7cf53 : ByteArray := prog_38_method_17_code
def yJ15_checkIndex_7cf53 : MethodName := ⟨RJ15, "checkIndex", "(II)I"⟩
def RJxf0a74 : String := "java/util/RandomAccess"
def TJxf0a74 : u_T := fun k => match k with
  | _ => ("", "", "", false)
def tyJxf0a74 : Nat → FieldType := fun k => match k with
  | _ => .int
abbrev wsJxf0a740 : List Cond := u_ws RJxf0a74 TJxf0a74 0
theorem nmJxf0a74 : ∀ a, a < 0 → ∀ b, b < 0 → a ≠ b → (TJxf0a74 a).2.1 ≠ (TJxf0a74 b).2.1 := by decide +kernel
theorem tyJxf0a74_ok : ∀ k, k < 0 → parseFieldDescriptor (TJxf0a74 k).2.2.1 = some (tyJxf0a74 k) := by decide +kernel
def RJxa66e6 : String := "java/util/SequencedCollection"
def TJxa66e6 : u_T := fun k => match k with
  | _ => ("", "", "", false)
def tyJxa66e6 : Nat → FieldType := fun k => match k with
  | _ => .int
abbrev wsJxa66e60 : List Cond := u_ws RJxa66e6 TJxa66e6 0
theorem nmJxa66e6 : ∀ a, a < 0 → ∀ b, b < 0 → a ≠ b → (TJxa66e6 a).2.1 ≠ (TJxa66e6 b).2.1 := by decide +kernel
theorem tyJxa66e6_ok : ∀ k, k < 0 → parseFieldDescriptor (TJxa66e6 k).2.2.1 = some (tyJxa66e6 k) := by decide +kernel
def RJ8 : String := "jdk/internal/util/ArraysSupport"
def TJ8 : u_T := fun k => match k with
  | _ => ("", "", "", false)
def tyJ8 : Nat → FieldType := fun k => match k with
  | _ => .int
abbrev wsJ80 : List Cond := u_ws RJ8 TJ8 0
theorem nmJ8 : ∀ a, a < 0 → ∀ b, b < 0 → a ≠ b → (TJ8 a).2.1 ≠ (TJ8 b).2.1 := by decide +kernel
theorem tyJ8_ok : ∀ k, k < 0 → parseFieldDescriptor (TJ8 k).2.2.1 = some (tyJ8 k) := by decide +kernel
abbrev cJ8_newLength_cabcc : ByteArray := prog_41_method_27_code
def yJ8_newLength_cabcc : MethodName := ⟨RJ8, "newLength", "(III)I"⟩
abbrev cJ8_hugeLength_7cf53 : ByteArray := prog_41_method_28_code
def yJ8_hugeLength_7cf53 : MethodName := ⟨RJ8, "hugeLength", "(II)I"⟩
def RJ3 : String := "jdk/internal/util/Preconditions"
def TJ3 : u_T := fun k => match k with
  | _ => ("", "", "", false)
def tyJ3 : Nat → FieldType := fun k => match k with
  | _ => .int
abbrev wsJ30 : List Cond := u_ws RJ3 TJ3 0
theorem nmJ3 : ∀ a, a < 0 → ∀ b, b < 0 → a ≠ b → (TJ3 a).2.1 ≠ (TJ3 b).2.1 := by decide +kernel
theorem tyJ3_ok : ∀ k, k < 0 → parseFieldDescriptor (TJ3 k).2.2.1 = some (tyJ3 k) := by decide +kernel
abbrev cJ3_checkIndex_8e157 : ByteArray := prog_42_method_11_code
def yJ3_checkIndex_8e157 : MethodName := ⟨RJ3, "checkIndex", "(IILjava/util/function/BiFunction;)I"⟩
abbrev cJ3_checkFromToIndex_8c36e : ByteArray := prog_42_method_12_code
def yJ3_checkFromToIndex_8c36e : MethodName := ⟨RJ3, "checkFromToIndex", "(IIILjava/util/function/BiFunction;)I"⟩
abbrev cJ3_checkFromIndexSize_8c36e : ByteArray := prog_42_method_13_code
def yJ3_checkFromIndexSize_8c36e : MethodName := ⟨RJ3, "checkFromIndexSize", "(IIILjava/util/function/BiFunction;)I"⟩
def RL : String := "CodeRoomsLaw"
abbrev cL_routine : ByteArray := method_3_code
def yL_routine : MethodName := ⟨RL, "routine", "(LCodeRooms;I[J)I"⟩
abbrev cL_tie : ByteArray := method_4_code
def yL_tie : MethodName := ⟨RL, "tie", "(LCodeRooms;IIII[J)I"⟩
abbrev cL_ties : ByteArray := method_5_code
def yL_ties : MethodName := ⟨RL, "ties", "(LCodeRooms;II[J)I"⟩
abbrev cL_set : ByteArray := method_6_code
def yL_set : MethodName := ⟨RL, "set", "(LCodeRooms;II[J)I"⟩
abbrev cL_must : ByteArray := method_7_code
def yL_must : MethodName := ⟨RL, "must", "(LCodeRooms;III[J)I"⟩
abbrev cL_fix : ByteArray := method_8_code
def yL_fix : MethodName := ⟨RL, "fix", "(LCodeRooms;II[J)I"⟩
abbrev cL_hub : ByteArray := method_9_code
def yL_hub : MethodName := ⟨RL, "hub", "(LCodeRooms;I[J)I"⟩
abbrev cL_room : ByteArray := method_10_code
def yL_room : MethodName := ⟨RL, "room", "(LCodeRooms;I[J)I"⟩
abbrev cL_put : ByteArray := method_11_code
def yL_put : MethodName := ⟨RL, "put", "(LCodeRooms;II[J)I"⟩
abbrev cL_border : ByteArray := method_12_code
def yL_border : MethodName := ⟨RL, "border", "(LCodeRooms;I[J)I"⟩
abbrev cL_name : ByteArray := method_13_code
def yL_name : MethodName := ⟨RL, "name", "(LCodeRooms;I[J)I"⟩
abbrev cL_face : ByteArray := method_14_code
def yL_face : MethodName := ⟨RL, "face", "(LCodeRooms;II[J)I"⟩
abbrev cL_ring : ByteArray := method_15_code
def yL_ring : MethodName := ⟨RL, "ring", "(LCodeRooms;I[J)I"⟩
abbrev cL_change : ByteArray := method_16_code
def yL_change : MethodName := ⟨RL, "change", "(LCodeRooms;II[J)I"⟩
abbrev cL_law : ByteArray := code
def yL_law : MethodName := ⟨RL, "law", "([I)Z"⟩
def wsJxa1e45_init_da8c8 : List Cond := .code yJxa1e45_init_da8c8 cJxa1e45_init_da8c8 1 none :: ([.methodLink RJxa1e45 1 objectInit, .instanceMethod objectInit, .code objectInit ⟨#[0xb1]⟩ 1 none])
def wsJxc12de_init_da8c8 : List Cond := .code yJxc12de_init_da8c8 cJxc12de_init_da8c8 1 none :: ([.fieldLink RJxc12de 7 "java/util/AbstractList" "modCount" "I", .methodLink RJxc12de 1 yJxa1e45_init_da8c8, .instanceMethod yJxa1e45_init_da8c8, .initialized RJxa1e45, .code yJxa1e45_init_da8c8 cJxa1e45_init_da8c8 1 none, .methodLink RJxa1e45 1 objectInit, .instanceMethod objectInit, .code objectInit ⟨#[0xb1]⟩ 1 none] ++ wsJx4a65c0)
def wsJx4a65c_init_da8c8 : List Cond := .code yJx4a65c_init_da8c8 cJx4a65c_init_da8c8 1 none :: ([.fieldLink RJx4a65c 39 "java/util/ArrayList" "DEFAULTCAPACITY_EMPTY_ELEMENTDATA" "[Ljava/lang/Object;", .fieldLink RJx4a65c 9 "java/util/ArrayList" "elementData" "[Ljava/lang/Object;", .methodLink RJx4a65c 1 yJxc12de_init_da8c8, .instanceMethod yJxc12de_init_da8c8, .initialized RJxc12de, .code yJxc12de_init_da8c8 cJxc12de_init_da8c8 1 none, .fieldLink RJxc12de 7 "java/util/AbstractList" "modCount" "I", .methodLink RJxc12de 1 yJxa1e45_init_da8c8, .instanceMethod yJxa1e45_init_da8c8, .initialized RJxa1e45, .code yJxa1e45_init_da8c8 cJxa1e45_init_da8c8 1 none, .methodLink RJxa1e45 1 objectInit, .instanceMethod objectInit, .code objectInit ⟨#[0xb1]⟩ 1 none] ++ wsJx4a65c0)
def wsX0_init : List Cond := .code yX0_init cX0_init 1 none :: ([.methodLink RX0 1 objectInit, .instanceMethod objectInit, .code objectInit ⟨#[0xb1]⟩ 1 none, .classLink RX0 7 RJx4a65c, .instantiable RJx4a65c 3, .initialized RJx4a65c, .fieldLink RX0 10 "CodeRooms$Glossary" "words" "Ljava/util/ArrayList;", .methodLink RX0 9 yJx4a65c_init_da8c8, .instanceMethod yJx4a65c_init_da8c8, .code yJx4a65c_init_da8c8 cJx4a65c_init_da8c8 1 none, .fieldLink RJx4a65c 39 "java/util/ArrayList" "DEFAULTCAPACITY_EMPTY_ELEMENTDATA" "[Ljava/lang/Object;", .fieldLink RJx4a65c 9 "java/util/ArrayList" "elementData" "[Ljava/lang/Object;", .methodLink RJx4a65c 1 yJxc12de_init_da8c8, .instanceMethod yJxc12de_init_da8c8, .initialized RJxc12de, .code yJxc12de_init_da8c8 cJxc12de_init_da8c8 1 none, .fieldLink RJxc12de 7 "java/util/AbstractList" "modCount" "I", .methodLink RJxc12de 1 yJxa1e45_init_da8c8, .instanceMethod yJxa1e45_init_da8c8, .initialized RJxa1e45, .code yJxa1e45_init_da8c8 cJxa1e45_init_da8c8 1 none, .methodLink RJxa1e45 1 objectInit] ++ wsJx4a65c0 ++ wsX00)
def wsX7_at : List Cond := .code yX7_at cX7_at 2 (some .int) :: ([.fieldLink RX7 21 "CodeRooms$Text" "size" "I", .fieldLink RX7 15 "CodeRooms$Text" "bytes" "[B"] ++ wsX70)
def wsX7_init : List Cond := .code yX7_init cX7_init 2 none :: ([.methodLink RX7 3 objectInit, .instanceMethod objectInit, .code objectInit ⟨#[0xb1]⟩ 1 none, .methodLink RX7 9 Lib.Math.max.name, .static Lib.Math.max.name, .initialized "java/lang/Math", .code Lib.Math.max.name Lib.Math.max.code 2 (some .int), .arrayClass .byte, .fieldLink RX7 15 "CodeRooms$Text" "bytes" "[B", .fieldLink RX7 21 "CodeRooms$Text" "size" "I"] ++ wsX70)
def wsX7_add : List Cond := .code yX7_add cX7_add 2 none :: ([.fieldLink RX7 21 "CodeRooms$Text" "size" "I", .fieldLink RX7 15 "CodeRooms$Text" "bytes" "[B"] ++ wsX70)
def wsX7_part : List Cond := .code yX7_part cX7_part 5 (some (.object "CodeRooms$Text")) :: ([.classLink RX7 16 RX7, .instantiable RX7 2, .initialized RX7, .methodLink RX7 29 yX7_init, .instanceMethod yX7_init, .code yX7_init cX7_init 2 none, .methodLink RX7 3 objectInit, .instanceMethod objectInit, .code objectInit ⟨#[0xb1]⟩ 1 none, .methodLink RX7 9 Lib.Math.max.name, .static Lib.Math.max.name, .initialized "java/lang/Math", .code Lib.Math.max.name Lib.Math.max.code 2 (some .int), .arrayClass .byte, .fieldLink RX7 15 "CodeRooms$Text" "bytes" "[B", .fieldLink RX7 21 "CodeRooms$Text" "size" "I", .methodLink RX7 31 yX7_at, .instanceMethod yX7_at, .selects RX7 yX7_at yX7_at, .code yX7_at cX7_at 2 (some .int), .methodLink RX7 25 yX7_add, .instanceMethod yX7_add, .selects RX7 yX7_add yX7_add, .code yX7_add cX7_add 2 none] ++ wsX70)
def wsJx4a65c_size_8abf5 : List Cond := .code yJx4a65c_size_8abf5 cJx4a65c_size_8abf5 1 (some .int) :: ([.fieldLink RJx4a65c 48 "java/util/ArrayList" "size" "I"] ++ wsJx4a65c0)
def wsJ3_checkIndex_8e157 : List Cond := .code yJ3_checkIndex_8e157 cJ3_checkIndex_8e157 3 (some .int) :: ([])
def wsJ15_checkIndex_7cf53 : List Cond := .code yJ15_checkIndex_7cf53 cJ15_checkIndex_7cf53 2 (some .int) :: ([.methodLink RJ15 105 yJ3_checkIndex_8e157, .static yJ3_checkIndex_8e157, .initialized RJ3, .code yJ3_checkIndex_8e157 cJ3_checkIndex_8e157 3 (some .int)])
def wsJx4a65c_elementData_915e3 : List Cond := .code yJx4a65c_elementData_915e3 cJx4a65c_elementData_915e3 2 (some (.object "java/lang/Object")) :: ([.fieldLink RJx4a65c 9 "java/util/ArrayList" "elementData" "[Ljava/lang/Object;"] ++ wsJx4a65c0)
def wsJx4a65c_get_915e3 : List Cond := .code yJx4a65c_get_915e3 cJx4a65c_get_915e3 2 (some (.object "java/lang/Object")) :: ([.fieldLink RJx4a65c 48 "java/util/ArrayList" "size" "I", .methodLink RJx4a65c 118 yJ15_checkIndex_7cf53, .static yJ15_checkIndex_7cf53, .initialized RJ15, .code yJ15_checkIndex_7cf53 cJ15_checkIndex_7cf53 2 (some .int), .methodLink RJ15 105 yJ3_checkIndex_8e157, .static yJ3_checkIndex_8e157, .initialized RJ3, .code yJ3_checkIndex_8e157 cJ3_checkIndex_8e157 3 (some .int), .methodLink RJx4a65c 123 yJx4a65c_elementData_915e3, .instanceMethod yJx4a65c_elementData_915e3, .selects RJx4a65c yJx4a65c_elementData_915e3 yJx4a65c_elementData_915e3, .initialized RJx4a65c, .code yJx4a65c_elementData_915e3 cJx4a65c_elementData_915e3 2 (some (.object "java/lang/Object")), .fieldLink RJx4a65c 9 "java/util/ArrayList" "elementData" "[Ljava/lang/Object;"] ++ wsJx4a65c0)
def wsX7_compareWith : List Cond := .code yX7_compareWith cX7_compareWith 5 (some .int) :: ([.fieldLink RX7 21 "CodeRooms$Text" "size" "I", .methodLink RX7 35 Lib.Math.min.name, .static Lib.Math.min.name, .initialized "java/lang/Math", .code Lib.Math.min.name Lib.Math.min.code 2 (some .int), .methodLink RX7 31 yX7_at, .instanceMethod yX7_at, .selects RX7 yX7_at yX7_at, .initialized RX7, .code yX7_at cX7_at 2 (some .int), .fieldLink RX7 15 "CodeRooms$Text" "bytes" "[B"] ++ wsX70)
def wsX9_init : List Cond := .code yX9_init cX9_init 4 none :: ([.methodLink RX9 1 objectInit, .instanceMethod objectInit, .code objectInit ⟨#[0xb1]⟩ 1 none, .fieldLink RX9 7 "CodeRooms$Word" "letters" "LCodeRooms$Text;", .fieldLink RX9 13 "CodeRooms$Word" "holders" "J"] ++ wsX90)
def wsJx4a65c_rangeCheckForAdd_d00df : List Cond := .code yJx4a65c_rangeCheckForAdd_d00df cJx4a65c_rangeCheckForAdd_d00df 2 none :: ([.fieldLink RJx4a65c 48 "java/util/ArrayList" "size" "I"] ++ wsJx4a65c0)
def wsJ8_hugeLength_7cf53 : List Cond := .code yJ8_hugeLength_7cf53 cJ8_hugeLength_7cf53 3 (some .int) :: ([.constant RJ8 200 (2147483639)])
def wsJ8_newLength_cabcc : List Cond := .code yJ8_newLength_cabcc cJ8_newLength_cabcc 4 (some .int) :: ([.methodLink RJ8 194 Lib.Math.max.name, .static Lib.Math.max.name, .initialized "java/lang/Math", .code Lib.Math.max.name Lib.Math.max.code 2 (some .int), .constant RJ8 200 (2147483639), .methodLink RJ8 201 yJ8_hugeLength_7cf53, .static yJ8_hugeLength_7cf53, .initialized RJ8, .code yJ8_hugeLength_7cf53 cJ8_hugeLength_7cf53 3 (some .int)])
def wsJ7_copyOf_6403c : List Cond := .code yJ7_copyOf_6403c cJ7_copyOf_6403c 4 (some (.array (.object "java/lang/Object"))) :: ([.classLink RJ7 110 "[Ljava/lang/Object;", .classLink RJ7 2 "java/lang/Object", .methodLink RJ7 304 Lib.Math.min.name, .static Lib.Math.min.name, .initialized "java/lang/Math", .code Lib.Math.min.name Lib.Math.min.code 2 (some .int), .methodLink RJ7 150 arraycopyName, .native arraycopyName, .static arraycopyName, .initialized "java/lang/System"])
def wsJ7_copyOf_1904c : List Cond := .code yJ7_copyOf_1904c cJ7_copyOf_1904c 2 (some (.array (.object "java/lang/Object"))) :: ([.methodLink RJ7 86 ⟨"java/lang/Object", "getClass", "()Ljava/lang/Class;"⟩, .selects "[Ljava/lang/Object;" ⟨"java/lang/Object", "getClass", "()Ljava/lang/Class;"⟩ ⟨"java/lang/Object", "getClass", "()Ljava/lang/Class;"⟩, .instanceMethod ⟨"java/lang/Object", "getClass", "()Ljava/lang/Class;"⟩, .native ⟨"java/lang/Object", "getClass", "()Ljava/lang/Class;"⟩, .methodLink RJ7 300 yJ7_copyOf_6403c, .static yJ7_copyOf_6403c, .initialized RJ7, .code yJ7_copyOf_6403c cJ7_copyOf_6403c 4 (some (.array (.object "java/lang/Object"))), .classLink RJ7 110 "[Ljava/lang/Object;", .classLink RJ7 2 "java/lang/Object", .methodLink RJ7 304 Lib.Math.min.name, .static Lib.Math.min.name, .initialized "java/lang/Math", .code Lib.Math.min.name Lib.Math.min.code 2 (some .int), .methodLink RJ7 150 arraycopyName, .native arraycopyName, .static arraycopyName, .initialized "java/lang/System"])
def wsJx4a65c_grow_92f84_r1 : List Cond := [Cond.fieldLink RJx4a65c 9 "java/util/ArrayList" "elementData" "[Ljava/lang/Object;", Cond.fieldLink RJx4a65c 39 "java/util/ArrayList" "DEFAULTCAPACITY_EMPTY_ELEMENTDATA" "[Ljava/lang/Object;", Cond.methodLink RJx4a65c 79 Lib.Math.max.name, Cond.static Lib.Math.max.name, Cond.initialized "java/lang/Math", Cond.code Lib.Math.max.name Lib.Math.max.code 2 (some .int), Cond.classLink RJx4a65c 7 "java/lang/Object", Cond.methodLink RJx4a65c 73 yJ8_newLength_cabcc, Cond.static yJ8_newLength_cabcc, Cond.initialized RJ8, Cond.code yJ8_newLength_cabcc cJ8_newLength_cabcc 4 (some .int), Cond.methodLink RJ8 194 Lib.Math.max.name, Cond.constant RJ8 200 (2147483639), Cond.methodLink RJ8 201 yJ8_hugeLength_7cf53, Cond.static yJ8_hugeLength_7cf53, Cond.code yJ8_hugeLength_7cf53 cJ8_hugeLength_7cf53 3 (some .int), Cond.methodLink RJx4a65c 66 yJ7_copyOf_1904c, Cond.static yJ7_copyOf_1904c, Cond.initialized RJ7, Cond.code yJ7_copyOf_1904c cJ7_copyOf_1904c 2 (some (.array (.object "java/lang/Object"))), Cond.methodLink RJ7 86 ⟨"java/lang/Object", "getClass", "()Ljava/lang/Class;"⟩, Cond.selects "[Ljava/lang/Object;" ⟨"java/lang/Object", "getClass", "()Ljava/lang/Class;"⟩ ⟨"java/lang/Object", "getClass", "()Ljava/lang/Class;"⟩, Cond.instanceMethod ⟨"java/lang/Object", "getClass", "()Ljava/lang/Class;"⟩, Cond.native ⟨"java/lang/Object", "getClass", "()Ljava/lang/Class;"⟩]
def wsJx4a65c_grow_92f84_r2 : List Cond := [Cond.methodLink RJ7 300 yJ7_copyOf_6403c, Cond.static yJ7_copyOf_6403c, Cond.code yJ7_copyOf_6403c cJ7_copyOf_6403c 4 (some (.array (.object "java/lang/Object"))), Cond.classLink RJ7 110 "[Ljava/lang/Object;", Cond.classLink RJ7 2 "java/lang/Object", Cond.methodLink RJ7 304 Lib.Math.min.name, Cond.static Lib.Math.min.name, Cond.code Lib.Math.min.name Lib.Math.min.code 2 (some .int), Cond.methodLink RJ7 150 arraycopyName, Cond.native arraycopyName, Cond.static arraycopyName, Cond.initialized "java/lang/System"]
def wsJx4a65c_grow_92f84 : List Cond := .code yJx4a65c_grow_92f84 cJx4a65c_grow_92f84 4 (some (.array (.object "java/lang/Object"))) :: ((wsJx4a65c_grow_92f84_r1 ++ wsJx4a65c_grow_92f84_r2) ++ wsJx4a65c0)
def wsJx4a65c_grow_d5877_r1 : List Cond := [Cond.fieldLink RJx4a65c 48 "java/util/ArrayList" "size" "I", Cond.methodLink RJx4a65c 69 yJx4a65c_grow_92f84, Cond.instanceMethod yJx4a65c_grow_92f84, Cond.selects RJx4a65c yJx4a65c_grow_92f84 yJx4a65c_grow_92f84, Cond.initialized RJx4a65c, Cond.code yJx4a65c_grow_92f84 cJx4a65c_grow_92f84 4 (some (.array (.object "java/lang/Object"))), Cond.fieldLink RJx4a65c 9 "java/util/ArrayList" "elementData" "[Ljava/lang/Object;", Cond.fieldLink RJx4a65c 39 "java/util/ArrayList" "DEFAULTCAPACITY_EMPTY_ELEMENTDATA" "[Ljava/lang/Object;", Cond.methodLink RJx4a65c 79 Lib.Math.max.name, Cond.static Lib.Math.max.name, Cond.initialized "java/lang/Math", Cond.code Lib.Math.max.name Lib.Math.max.code 2 (some .int), Cond.classLink RJx4a65c 7 "java/lang/Object", Cond.methodLink RJx4a65c 73 yJ8_newLength_cabcc, Cond.static yJ8_newLength_cabcc, Cond.initialized RJ8, Cond.code yJ8_newLength_cabcc cJ8_newLength_cabcc 4 (some .int), Cond.methodLink RJ8 194 Lib.Math.max.name, Cond.constant RJ8 200 (2147483639), Cond.methodLink RJ8 201 yJ8_hugeLength_7cf53, Cond.static yJ8_hugeLength_7cf53, Cond.code yJ8_hugeLength_7cf53 cJ8_hugeLength_7cf53 3 (some .int), Cond.methodLink RJx4a65c 66 yJ7_copyOf_1904c, Cond.static yJ7_copyOf_1904c]
def wsJx4a65c_grow_d5877_r2 : List Cond := [Cond.initialized RJ7, Cond.code yJ7_copyOf_1904c cJ7_copyOf_1904c 2 (some (.array (.object "java/lang/Object"))), Cond.methodLink RJ7 86 ⟨"java/lang/Object", "getClass", "()Ljava/lang/Class;"⟩, Cond.selects "[Ljava/lang/Object;" ⟨"java/lang/Object", "getClass", "()Ljava/lang/Class;"⟩ ⟨"java/lang/Object", "getClass", "()Ljava/lang/Class;"⟩, Cond.instanceMethod ⟨"java/lang/Object", "getClass", "()Ljava/lang/Class;"⟩, Cond.native ⟨"java/lang/Object", "getClass", "()Ljava/lang/Class;"⟩, Cond.methodLink RJ7 300 yJ7_copyOf_6403c, Cond.static yJ7_copyOf_6403c, Cond.code yJ7_copyOf_6403c cJ7_copyOf_6403c 4 (some (.array (.object "java/lang/Object"))), Cond.classLink RJ7 110 "[Ljava/lang/Object;", Cond.classLink RJ7 2 "java/lang/Object", Cond.methodLink RJ7 304 Lib.Math.min.name, Cond.static Lib.Math.min.name, Cond.code Lib.Math.min.name Lib.Math.min.code 2 (some .int), Cond.methodLink RJ7 150 arraycopyName, Cond.native arraycopyName, Cond.static arraycopyName, Cond.initialized "java/lang/System"]
def wsJx4a65c_grow_d5877 : List Cond := .code yJx4a65c_grow_d5877 cJx4a65c_grow_d5877 1 (some (.array (.object "java/lang/Object"))) :: ((wsJx4a65c_grow_d5877_r1 ++ wsJx4a65c_grow_d5877_r2) ++ wsJx4a65c0)
def wsJx4a65c_add_7a177_r1 : List Cond := [Cond.fieldLink RJx4a65c 63 "java/util/ArrayList" "modCount" "I", Cond.sameField "java/util/ArrayList" "java/util/AbstractList" "modCount" "I", Cond.fieldLink RJx4a65c 48 "java/util/ArrayList" "size" "I", Cond.fieldLink RJx4a65c 9 "java/util/ArrayList" "elementData" "[Ljava/lang/Object;", Cond.methodLink RJx4a65c 112 arraycopyName, Cond.native arraycopyName, Cond.static arraycopyName, Cond.initialized "java/lang/System", Cond.methodLink RJx4a65c 135 yJx4a65c_rangeCheckForAdd_d00df, Cond.instanceMethod yJx4a65c_rangeCheckForAdd_d00df, Cond.selects RJx4a65c yJx4a65c_rangeCheckForAdd_d00df yJx4a65c_rangeCheckForAdd_d00df, Cond.initialized RJx4a65c, Cond.code yJx4a65c_rangeCheckForAdd_d00df cJx4a65c_rangeCheckForAdd_d00df 2 none, Cond.methodLink RJx4a65c 129 yJx4a65c_grow_d5877, Cond.instanceMethod yJx4a65c_grow_d5877, Cond.selects RJx4a65c yJx4a65c_grow_d5877 yJx4a65c_grow_d5877, Cond.code yJx4a65c_grow_d5877 cJx4a65c_grow_d5877 1 (some (.array (.object "java/lang/Object"))), Cond.methodLink RJx4a65c 69 yJx4a65c_grow_92f84, Cond.instanceMethod yJx4a65c_grow_92f84, Cond.selects RJx4a65c yJx4a65c_grow_92f84 yJx4a65c_grow_92f84, Cond.code yJx4a65c_grow_92f84 cJx4a65c_grow_92f84 4 (some (.array (.object "java/lang/Object"))), Cond.fieldLink RJx4a65c 39 "java/util/ArrayList" "DEFAULTCAPACITY_EMPTY_ELEMENTDATA" "[Ljava/lang/Object;", Cond.methodLink RJx4a65c 79 Lib.Math.max.name, Cond.static Lib.Math.max.name]
def wsJx4a65c_add_7a177_r2 : List Cond := [Cond.initialized "java/lang/Math", Cond.code Lib.Math.max.name Lib.Math.max.code 2 (some .int), Cond.classLink RJx4a65c 7 "java/lang/Object", Cond.methodLink RJx4a65c 73 yJ8_newLength_cabcc, Cond.static yJ8_newLength_cabcc, Cond.initialized RJ8, Cond.code yJ8_newLength_cabcc cJ8_newLength_cabcc 4 (some .int), Cond.methodLink RJ8 194 Lib.Math.max.name, Cond.constant RJ8 200 (2147483639), Cond.methodLink RJ8 201 yJ8_hugeLength_7cf53, Cond.static yJ8_hugeLength_7cf53, Cond.code yJ8_hugeLength_7cf53 cJ8_hugeLength_7cf53 3 (some .int), Cond.methodLink RJx4a65c 66 yJ7_copyOf_1904c, Cond.static yJ7_copyOf_1904c, Cond.initialized RJ7, Cond.code yJ7_copyOf_1904c cJ7_copyOf_1904c 2 (some (.array (.object "java/lang/Object"))), Cond.methodLink RJ7 86 ⟨"java/lang/Object", "getClass", "()Ljava/lang/Class;"⟩, Cond.selects "[Ljava/lang/Object;" ⟨"java/lang/Object", "getClass", "()Ljava/lang/Class;"⟩ ⟨"java/lang/Object", "getClass", "()Ljava/lang/Class;"⟩, Cond.instanceMethod ⟨"java/lang/Object", "getClass", "()Ljava/lang/Class;"⟩, Cond.native ⟨"java/lang/Object", "getClass", "()Ljava/lang/Class;"⟩, Cond.methodLink RJ7 300 yJ7_copyOf_6403c, Cond.static yJ7_copyOf_6403c, Cond.code yJ7_copyOf_6403c cJ7_copyOf_6403c 4 (some (.array (.object "java/lang/Object"))), Cond.classLink RJ7 110 "[Ljava/lang/Object;"]
def wsJx4a65c_add_7a177_r3 : List Cond := [Cond.classLink RJ7 2 "java/lang/Object", Cond.methodLink RJ7 304 Lib.Math.min.name, Cond.static Lib.Math.min.name, Cond.code Lib.Math.min.name Lib.Math.min.code 2 (some .int), Cond.methodLink RJ7 150 arraycopyName]
def wsJx4a65c_add_7a177 : List Cond := .code yJx4a65c_add_7a177 cJx4a65c_add_7a177 5 none :: ((wsJx4a65c_add_7a177_r1 ++ (wsJx4a65c_add_7a177_r2 ++ wsJx4a65c_add_7a177_r3)) ++ wsJx4a65c0)
def wsX0_enter_r1 : List Cond := [Cond.fieldLink RX0 10 "CodeRooms$Glossary" "words" "Ljava/util/ArrayList;", Cond.classLink RX0 41 "CodeRooms$Word", Cond.classLink RX0 41 RX9, Cond.instantiable RX9 2, Cond.initialized RX9, Cond.methodLink RX0 34 yJx4a65c_size_8abf5, Cond.instanceMethod yJx4a65c_size_8abf5, Cond.selects RJx4a65c yJx4a65c_size_8abf5 yJx4a65c_size_8abf5, Cond.initialized RJx4a65c, Cond.code yJx4a65c_size_8abf5 cJx4a65c_size_8abf5 1 (some .int), Cond.fieldLink RJx4a65c 48 "java/util/ArrayList" "size" "I", Cond.methodLink RX0 37 yJx4a65c_get_915e3, Cond.instanceMethod yJx4a65c_get_915e3, Cond.selects RJx4a65c yJx4a65c_get_915e3 yJx4a65c_get_915e3, Cond.code yJx4a65c_get_915e3 cJx4a65c_get_915e3 2 (some (.object "java/lang/Object")), Cond.methodLink RJx4a65c 118 yJ15_checkIndex_7cf53, Cond.static yJ15_checkIndex_7cf53, Cond.initialized RJ15, Cond.code yJ15_checkIndex_7cf53 cJ15_checkIndex_7cf53 2 (some .int), Cond.methodLink RJ15 105 yJ3_checkIndex_8e157, Cond.static yJ3_checkIndex_8e157, Cond.initialized RJ3, Cond.code yJ3_checkIndex_8e157 cJ3_checkIndex_8e157 3 (some .int), Cond.methodLink RJx4a65c 123 yJx4a65c_elementData_915e3]
def wsX0_enter_r2 : List Cond := [Cond.instanceMethod yJx4a65c_elementData_915e3, Cond.selects RJx4a65c yJx4a65c_elementData_915e3 yJx4a65c_elementData_915e3, Cond.code yJx4a65c_elementData_915e3 cJx4a65c_elementData_915e3 2 (some (.object "java/lang/Object")), Cond.fieldLink RJx4a65c 9 "java/util/ArrayList" "elementData" "[Ljava/lang/Object;", Cond.methodLink RX0 47 yX7_compareWith, Cond.instanceMethod yX7_compareWith, Cond.selects RX7 yX7_compareWith yX7_compareWith, Cond.initialized RX7, Cond.code yX7_compareWith cX7_compareWith 5 (some .int), Cond.fieldLink RX7 21 "CodeRooms$Text" "size" "I", Cond.methodLink RX7 35 Lib.Math.min.name, Cond.static Lib.Math.min.name, Cond.initialized "java/lang/Math", Cond.code Lib.Math.min.name Lib.Math.min.code 2 (some .int), Cond.methodLink RX7 31 yX7_at, Cond.instanceMethod yX7_at, Cond.selects RX7 yX7_at yX7_at, Cond.code yX7_at cX7_at 2 (some .int), Cond.fieldLink RX7 15 "CodeRooms$Text" "bytes" "[B", Cond.methodLink RX0 55 yX9_init, Cond.instanceMethod yX9_init, Cond.code yX9_init cX9_init 4 none, Cond.methodLink RX9 1 objectInit, Cond.instanceMethod objectInit]
def wsX0_enter_r3 : List Cond := [Cond.code objectInit ⟨#[0xb1]⟩ 1 none, Cond.fieldLink RX9 7 "CodeRooms$Word" "letters" "LCodeRooms$Text;", Cond.fieldLink RX9 13 "CodeRooms$Word" "holders" "J", Cond.methodLink RX0 57 yJx4a65c_add_7a177, Cond.instanceMethod yJx4a65c_add_7a177, Cond.selects RJx4a65c yJx4a65c_add_7a177 yJx4a65c_add_7a177, Cond.code yJx4a65c_add_7a177 cJx4a65c_add_7a177 5 none, Cond.fieldLink RJx4a65c 63 "java/util/ArrayList" "modCount" "I", Cond.sameField "java/util/ArrayList" "java/util/AbstractList" "modCount" "I", Cond.methodLink RJx4a65c 112 arraycopyName, Cond.native arraycopyName, Cond.static arraycopyName, Cond.initialized "java/lang/System", Cond.methodLink RJx4a65c 135 yJx4a65c_rangeCheckForAdd_d00df, Cond.instanceMethod yJx4a65c_rangeCheckForAdd_d00df, Cond.selects RJx4a65c yJx4a65c_rangeCheckForAdd_d00df yJx4a65c_rangeCheckForAdd_d00df, Cond.code yJx4a65c_rangeCheckForAdd_d00df cJx4a65c_rangeCheckForAdd_d00df 2 none, Cond.methodLink RJx4a65c 129 yJx4a65c_grow_d5877, Cond.instanceMethod yJx4a65c_grow_d5877, Cond.selects RJx4a65c yJx4a65c_grow_d5877 yJx4a65c_grow_d5877, Cond.code yJx4a65c_grow_d5877 cJx4a65c_grow_d5877 1 (some (.array (.object "java/lang/Object"))), Cond.methodLink RJx4a65c 69 yJx4a65c_grow_92f84, Cond.instanceMethod yJx4a65c_grow_92f84, Cond.selects RJx4a65c yJx4a65c_grow_92f84 yJx4a65c_grow_92f84]
def wsX0_enter_r4 : List Cond := [Cond.code yJx4a65c_grow_92f84 cJx4a65c_grow_92f84 4 (some (.array (.object "java/lang/Object"))), Cond.fieldLink RJx4a65c 39 "java/util/ArrayList" "DEFAULTCAPACITY_EMPTY_ELEMENTDATA" "[Ljava/lang/Object;", Cond.methodLink RJx4a65c 79 Lib.Math.max.name, Cond.static Lib.Math.max.name, Cond.code Lib.Math.max.name Lib.Math.max.code 2 (some .int), Cond.classLink RJx4a65c 7 "java/lang/Object", Cond.methodLink RJx4a65c 73 yJ8_newLength_cabcc, Cond.static yJ8_newLength_cabcc, Cond.initialized RJ8, Cond.code yJ8_newLength_cabcc cJ8_newLength_cabcc 4 (some .int), Cond.methodLink RJ8 194 Lib.Math.max.name, Cond.constant RJ8 200 (2147483639), Cond.methodLink RJ8 201 yJ8_hugeLength_7cf53, Cond.static yJ8_hugeLength_7cf53, Cond.code yJ8_hugeLength_7cf53 cJ8_hugeLength_7cf53 3 (some .int), Cond.methodLink RJx4a65c 66 yJ7_copyOf_1904c, Cond.static yJ7_copyOf_1904c, Cond.initialized RJ7, Cond.code yJ7_copyOf_1904c cJ7_copyOf_1904c 2 (some (.array (.object "java/lang/Object"))), Cond.methodLink RJ7 86 ⟨"java/lang/Object", "getClass", "()Ljava/lang/Class;"⟩, Cond.selects "[Ljava/lang/Object;" ⟨"java/lang/Object", "getClass", "()Ljava/lang/Class;"⟩ ⟨"java/lang/Object", "getClass", "()Ljava/lang/Class;"⟩, Cond.instanceMethod ⟨"java/lang/Object", "getClass", "()Ljava/lang/Class;"⟩, Cond.native ⟨"java/lang/Object", "getClass", "()Ljava/lang/Class;"⟩, Cond.methodLink RJ7 300 yJ7_copyOf_6403c]
def wsX0_enter_r5 : List Cond := [Cond.static yJ7_copyOf_6403c, Cond.code yJ7_copyOf_6403c cJ7_copyOf_6403c 4 (some (.array (.object "java/lang/Object"))), Cond.classLink RJ7 110 "[Ljava/lang/Object;", Cond.classLink RJ7 2 "java/lang/Object", Cond.methodLink RJ7 304 Lib.Math.min.name, Cond.methodLink RJ7 150 arraycopyName]
def wsX0_enter : List Cond := .code yX0_enter cX0_enter 5 none :: ((wsX0_enter_r1 ++ (wsX0_enter_r2 ++ (wsX0_enter_r3 ++ (wsX0_enter_r4 ++ wsX0_enter_r5)))) ++ wsX00 ++ wsX90 ++ wsJx4a65c0 ++ wsX70)
def wsX0_learn_r1 : List Cond := [Cond.methodLink RX0 22 yX7_at, Cond.instanceMethod yX7_at, Cond.selects RX7 yX7_at yX7_at, Cond.initialized RX7, Cond.code yX7_at cX7_at 2 (some .int), Cond.fieldLink RX7 21 "CodeRooms$Text" "size" "I", Cond.fieldLink RX7 15 "CodeRooms$Text" "bytes" "[B", Cond.methodLink RX0 26 yX7_part, Cond.instanceMethod yX7_part, Cond.selects RX7 yX7_part yX7_part, Cond.code yX7_part cX7_part 5 (some (.object "CodeRooms$Text")), Cond.classLink RX7 16 RX7, Cond.instantiable RX7 2, Cond.methodLink RX7 29 yX7_init, Cond.instanceMethod yX7_init, Cond.code yX7_init cX7_init 2 none, Cond.methodLink RX7 3 objectInit, Cond.instanceMethod objectInit, Cond.code objectInit ⟨#[0xb1]⟩ 1 none, Cond.methodLink RX7 9 Lib.Math.max.name, Cond.static Lib.Math.max.name, Cond.initialized "java/lang/Math", Cond.code Lib.Math.max.name Lib.Math.max.code 2 (some .int), Cond.arrayClass .byte]
def wsX0_learn_r2 : List Cond := [Cond.methodLink RX7 31 yX7_at, Cond.methodLink RX7 25 yX7_add, Cond.instanceMethod yX7_add, Cond.selects RX7 yX7_add yX7_add, Cond.code yX7_add cX7_add 2 none, Cond.methodLink RX0 30 yX0_enter, Cond.instanceMethod yX0_enter, Cond.selects RX0 yX0_enter yX0_enter, Cond.initialized RX0, Cond.code yX0_enter cX0_enter 5 none, Cond.fieldLink RX0 10 "CodeRooms$Glossary" "words" "Ljava/util/ArrayList;", Cond.classLink RX0 41 "CodeRooms$Word", Cond.classLink RX0 41 RX9, Cond.instantiable RX9 2, Cond.initialized RX9, Cond.methodLink RX0 34 yJx4a65c_size_8abf5, Cond.instanceMethod yJx4a65c_size_8abf5, Cond.selects RJx4a65c yJx4a65c_size_8abf5 yJx4a65c_size_8abf5, Cond.initialized RJx4a65c, Cond.code yJx4a65c_size_8abf5 cJx4a65c_size_8abf5 1 (some .int), Cond.fieldLink RJx4a65c 48 "java/util/ArrayList" "size" "I", Cond.methodLink RX0 37 yJx4a65c_get_915e3, Cond.instanceMethod yJx4a65c_get_915e3, Cond.selects RJx4a65c yJx4a65c_get_915e3 yJx4a65c_get_915e3]
def wsX0_learn_r3 : List Cond := [Cond.code yJx4a65c_get_915e3 cJx4a65c_get_915e3 2 (some (.object "java/lang/Object")), Cond.methodLink RJx4a65c 118 yJ15_checkIndex_7cf53, Cond.static yJ15_checkIndex_7cf53, Cond.initialized RJ15, Cond.code yJ15_checkIndex_7cf53 cJ15_checkIndex_7cf53 2 (some .int), Cond.methodLink RJ15 105 yJ3_checkIndex_8e157, Cond.static yJ3_checkIndex_8e157, Cond.initialized RJ3, Cond.code yJ3_checkIndex_8e157 cJ3_checkIndex_8e157 3 (some .int), Cond.methodLink RJx4a65c 123 yJx4a65c_elementData_915e3, Cond.instanceMethod yJx4a65c_elementData_915e3, Cond.selects RJx4a65c yJx4a65c_elementData_915e3 yJx4a65c_elementData_915e3, Cond.code yJx4a65c_elementData_915e3 cJx4a65c_elementData_915e3 2 (some (.object "java/lang/Object")), Cond.fieldLink RJx4a65c 9 "java/util/ArrayList" "elementData" "[Ljava/lang/Object;", Cond.methodLink RX0 47 yX7_compareWith, Cond.instanceMethod yX7_compareWith, Cond.selects RX7 yX7_compareWith yX7_compareWith, Cond.code yX7_compareWith cX7_compareWith 5 (some .int), Cond.methodLink RX7 35 Lib.Math.min.name, Cond.static Lib.Math.min.name, Cond.code Lib.Math.min.name Lib.Math.min.code 2 (some .int), Cond.methodLink RX0 55 yX9_init, Cond.instanceMethod yX9_init, Cond.code yX9_init cX9_init 4 none]
def wsX0_learn_r4 : List Cond := [Cond.methodLink RX9 1 objectInit, Cond.fieldLink RX9 7 "CodeRooms$Word" "letters" "LCodeRooms$Text;", Cond.fieldLink RX9 13 "CodeRooms$Word" "holders" "J", Cond.methodLink RX0 57 yJx4a65c_add_7a177, Cond.instanceMethod yJx4a65c_add_7a177, Cond.selects RJx4a65c yJx4a65c_add_7a177 yJx4a65c_add_7a177, Cond.code yJx4a65c_add_7a177 cJx4a65c_add_7a177 5 none, Cond.fieldLink RJx4a65c 63 "java/util/ArrayList" "modCount" "I", Cond.sameField "java/util/ArrayList" "java/util/AbstractList" "modCount" "I", Cond.methodLink RJx4a65c 112 arraycopyName, Cond.native arraycopyName, Cond.static arraycopyName, Cond.initialized "java/lang/System", Cond.methodLink RJx4a65c 135 yJx4a65c_rangeCheckForAdd_d00df, Cond.instanceMethod yJx4a65c_rangeCheckForAdd_d00df, Cond.selects RJx4a65c yJx4a65c_rangeCheckForAdd_d00df yJx4a65c_rangeCheckForAdd_d00df, Cond.code yJx4a65c_rangeCheckForAdd_d00df cJx4a65c_rangeCheckForAdd_d00df 2 none, Cond.methodLink RJx4a65c 129 yJx4a65c_grow_d5877, Cond.instanceMethod yJx4a65c_grow_d5877, Cond.selects RJx4a65c yJx4a65c_grow_d5877 yJx4a65c_grow_d5877, Cond.code yJx4a65c_grow_d5877 cJx4a65c_grow_d5877 1 (some (.array (.object "java/lang/Object"))), Cond.methodLink RJx4a65c 69 yJx4a65c_grow_92f84, Cond.instanceMethod yJx4a65c_grow_92f84, Cond.selects RJx4a65c yJx4a65c_grow_92f84 yJx4a65c_grow_92f84]
def wsX0_learn_r5 : List Cond := [Cond.code yJx4a65c_grow_92f84 cJx4a65c_grow_92f84 4 (some (.array (.object "java/lang/Object"))), Cond.fieldLink RJx4a65c 39 "java/util/ArrayList" "DEFAULTCAPACITY_EMPTY_ELEMENTDATA" "[Ljava/lang/Object;", Cond.methodLink RJx4a65c 79 Lib.Math.max.name, Cond.classLink RJx4a65c 7 "java/lang/Object", Cond.methodLink RJx4a65c 73 yJ8_newLength_cabcc, Cond.static yJ8_newLength_cabcc, Cond.initialized RJ8, Cond.code yJ8_newLength_cabcc cJ8_newLength_cabcc 4 (some .int), Cond.methodLink RJ8 194 Lib.Math.max.name, Cond.constant RJ8 200 (2147483639), Cond.methodLink RJ8 201 yJ8_hugeLength_7cf53, Cond.static yJ8_hugeLength_7cf53, Cond.code yJ8_hugeLength_7cf53 cJ8_hugeLength_7cf53 3 (some .int), Cond.methodLink RJx4a65c 66 yJ7_copyOf_1904c, Cond.static yJ7_copyOf_1904c, Cond.initialized RJ7, Cond.code yJ7_copyOf_1904c cJ7_copyOf_1904c 2 (some (.array (.object "java/lang/Object"))), Cond.methodLink RJ7 86 ⟨"java/lang/Object", "getClass", "()Ljava/lang/Class;"⟩, Cond.selects "[Ljava/lang/Object;" ⟨"java/lang/Object", "getClass", "()Ljava/lang/Class;"⟩ ⟨"java/lang/Object", "getClass", "()Ljava/lang/Class;"⟩, Cond.instanceMethod ⟨"java/lang/Object", "getClass", "()Ljava/lang/Class;"⟩, Cond.native ⟨"java/lang/Object", "getClass", "()Ljava/lang/Class;"⟩, Cond.methodLink RJ7 300 yJ7_copyOf_6403c, Cond.static yJ7_copyOf_6403c, Cond.code yJ7_copyOf_6403c cJ7_copyOf_6403c 4 (some (.array (.object "java/lang/Object")))]
def wsX0_learn_r6 : List Cond := [Cond.classLink RJ7 110 "[Ljava/lang/Object;", Cond.classLink RJ7 2 "java/lang/Object", Cond.methodLink RJ7 304 Lib.Math.min.name, Cond.methodLink RJ7 150 arraycopyName]
def wsX0_learn : List Cond := .code yX0_learn cX0_learn 6 none :: ((wsX0_learn_r1 ++ (wsX0_learn_r2 ++ (wsX0_learn_r3 ++ (wsX0_learn_r4 ++ (wsX0_learn_r5 ++ wsX0_learn_r6))))) ++ wsX70 ++ wsX00 ++ wsX90 ++ wsJx4a65c0)
def wsJ13_bitCount_95d88 : List Cond := .code yJ13_bitCount_95d88 cJ13_bitCount_95d88 2 (some .int) :: ([.constantLong RJ13 314 (6148914691236517205), .constantLong RJ13 316 (3689348814741910323), .constantLong RJ13 318 (1085102592571150095)])
def wsX0_wordFor_r1 : List Cond := [Cond.fieldLink RX0 10 "CodeRooms$Glossary" "words" "Ljava/util/ArrayList;", Cond.classLink RX0 41 "CodeRooms$Word", Cond.methodLink RX0 61 yJ13_bitCount_95d88, Cond.static yJ13_bitCount_95d88, Cond.initialized RJ13, Cond.code yJ13_bitCount_95d88 cJ13_bitCount_95d88 2 (some .int), Cond.constantLong RJ13 314 (6148914691236517205), Cond.constantLong RJ13 316 (3689348814741910323), Cond.constantLong RJ13 318 (1085102592571150095), Cond.methodLink RX0 34 yJx4a65c_size_8abf5, Cond.instanceMethod yJx4a65c_size_8abf5, Cond.selects RJx4a65c yJx4a65c_size_8abf5 yJx4a65c_size_8abf5, Cond.initialized RJx4a65c, Cond.code yJx4a65c_size_8abf5 cJx4a65c_size_8abf5 1 (some .int), Cond.fieldLink RJx4a65c 48 "java/util/ArrayList" "size" "I", Cond.methodLink RX0 37 yJx4a65c_get_915e3, Cond.instanceMethod yJx4a65c_get_915e3, Cond.selects RJx4a65c yJx4a65c_get_915e3 yJx4a65c_get_915e3, Cond.code yJx4a65c_get_915e3 cJx4a65c_get_915e3 2 (some (.object "java/lang/Object")), Cond.methodLink RJx4a65c 118 yJ15_checkIndex_7cf53, Cond.static yJ15_checkIndex_7cf53, Cond.initialized RJ15, Cond.code yJ15_checkIndex_7cf53 cJ15_checkIndex_7cf53 2 (some .int), Cond.methodLink RJ15 105 yJ3_checkIndex_8e157]
def wsX0_wordFor_r2 : List Cond := [Cond.static yJ3_checkIndex_8e157, Cond.initialized RJ3, Cond.code yJ3_checkIndex_8e157 cJ3_checkIndex_8e157 3 (some .int), Cond.methodLink RJx4a65c 123 yJx4a65c_elementData_915e3, Cond.instanceMethod yJx4a65c_elementData_915e3, Cond.selects RJx4a65c yJx4a65c_elementData_915e3 yJx4a65c_elementData_915e3, Cond.code yJx4a65c_elementData_915e3 cJx4a65c_elementData_915e3 2 (some (.object "java/lang/Object")), Cond.fieldLink RJx4a65c 9 "java/util/ArrayList" "elementData" "[Ljava/lang/Object;"]
def wsX0_wordFor : List Cond := .code yX0_wordFor cX0_wordFor 13 (some (.object "CodeRooms$Word")) :: ((wsX0_wordFor_r1 ++ wsX0_wordFor_r2) ++ wsX00 ++ wsX90 ++ wsJx4a65c0)
def wsX1_init : List Cond := .code yX1_init cX1_init 1 none :: ([.methodLink RX1 3 objectInit, .instanceMethod objectInit, .code objectInit ⟨#[0xb1]⟩ 1 none, .arrayClass .int, .fieldLink RX1 9 "CodeRooms$Kept" "places" "[I", .classLink RX1 15 "[[I", .fieldLink RX1 17 "CodeRooms$Kept" "alike" "[[I"] ++ wsX10)
def wsX1_hold : List Cond := .code yX1_hold cX1_hold 3 (some .int) :: ([.fieldLink RX1 9 "CodeRooms$Kept" "places" "[I", .fieldLink RX1 38 "CodeRooms$Kept" "isHeld" "Z"] ++ wsX10 ++ wsX40 ++ wsX50)
def wsX1_countPairs : List Cond := .code yX1_countPairs cX1_countPairs 5 (some .int) :: ([.fieldLink RX1 17 "CodeRooms$Kept" "alike" "[[I", .fieldLink RX1 9 "CodeRooms$Kept" "places" "[I"] ++ wsX10 ++ wsX40 ++ wsX50)
def wsX1_mostAlike : List Cond := .code yX1_mostAlike cX1_mostAlike 5 (some .int) :: ([.methodLink RX1 50 Lib.Math.max.name, .static Lib.Math.max.name, .initialized "java/lang/Math", .code Lib.Math.max.name Lib.Math.max.code 2 (some .int), .methodLink RX1 46 yX1_mostAlike, .static yX1_mostAlike, .initialized RX1])
def wsX1_distance : List Cond := .code yX1_distance cX1_distance 2 (some .int) :: ([.fieldLink RX1 38 "CodeRooms$Kept" "isHeld" "Z", .fieldLink RX1 17 "CodeRooms$Kept" "alike" "[[I", .methodLink RX1 42 yX1_countPairs, .instanceMethod yX1_countPairs, .selects RX1 yX1_countPairs yX1_countPairs, .initialized RX1, .code yX1_countPairs cX1_countPairs 5 (some .int), .fieldLink RX1 9 "CodeRooms$Kept" "places" "[I", .methodLink RX1 46 yX1_mostAlike, .static yX1_mostAlike, .code yX1_mostAlike cX1_mostAlike 5 (some .int), .methodLink RX1 50 Lib.Math.max.name, .static Lib.Math.max.name, .initialized "java/lang/Math", .code Lib.Math.max.name Lib.Math.max.code 2 (some .int)] ++ wsX10 ++ wsX40 ++ wsX50)
def wsX2_init : List Cond := .code yX2_init cX2_init 2 none :: ([.methodLink RX2 3 objectInit, .instanceMethod objectInit, .code objectInit ⟨#[0xb1]⟩ 1 none, .arrayClass .int, .fieldLink RX2 9 "CodeRooms$Mender" "sizes" "[I", .fieldLink RX2 15 "CodeRooms$Mender" "plan" "LCodeRooms$Plan;"] ++ wsX20)
def wsX2_countSizes : List Cond := .code yX2_countSizes cX2_countSizes 2 none :: ([.fieldLink RX2 9 "CodeRooms$Mender" "sizes" "[I", .fieldLink RX2 15 "CodeRooms$Mender" "plan" "LCodeRooms$Plan;"] ++ wsX20 ++ wsX40 ++ wsX50)
def wsX5_pullOf : List Cond := .code yX5_pullOf cX5_pullOf 3 (some .int) :: ([.fieldLink RX5 16 "CodeRooms$Routine" "tieWith" "[I", .fieldLink RX5 31 "CodeRooms$Routine" "number" "I", .fieldLink RX5 20 "CodeRooms$Routine" "mustWith" "[I", .constant RX5 50 (1000000)] ++ wsX50)
def wsX2_weighPulls : List Cond := .code yX2_weighPulls cX2_weighPulls 4 none :: ([.constantLong RX2 71 (1000000), .fieldLink RX2 15 "CodeRooms$Mender" "plan" "LCodeRooms$Plan;", .methodLink RX2 73 yX5_pullOf, .instanceMethod yX5_pullOf, .selects RX5 yX5_pullOf yX5_pullOf, .initialized RX5, .code yX5_pullOf cX5_pullOf 3 (some .int), .fieldLink RX5 16 "CodeRooms$Routine" "tieWith" "[I", .fieldLink RX5 31 "CodeRooms$Routine" "number" "I", .fieldLink RX5 20 "CodeRooms$Routine" "mustWith" "[I", .constant RX5 50 (1000000)] ++ wsX50 ++ wsX20 ++ wsX40)
def wsX4_roomCount : List Cond := .code yX4_roomCount cX4_roomCount 1 (some .int) :: ([.fieldLink RX4 20 "CodeRooms$Plan" "settings" "[I"] ++ wsX40)
def wsX4_even : List Cond := .code yX4_even cX4_even 1 (some .int) :: ([.fieldLink RX4 20 "CodeRooms$Plan" "settings" "[I"] ++ wsX40)
def wsX2_shiftOf : List Cond := .code yX2_shiftOf cX2_shiftOf 4 (some .long) :: ([.fieldLink RX2 9 "CodeRooms$Mender" "sizes" "[I", .fieldLink RX2 15 "CodeRooms$Mender" "plan" "LCodeRooms$Plan;", .methodLink RX2 101 yX4_even, .instanceMethod yX4_even, .selects RX4 yX4_even yX4_even, .initialized RX4, .code yX4_even cX4_even 1 (some .int), .fieldLink RX4 20 "CodeRooms$Plan" "settings" "[I"] ++ wsX20 ++ wsX50 ++ wsX40)
def wsX2_findMove : List Cond := .code yX2_findMove cX2_findMove 6 none :: ([.fieldLink RX2 15 "CodeRooms$Mender" "plan" "LCodeRooms$Plan;", .fieldLink RX2 77 "CodeRooms$Mender" "least" "J", .fieldLink RX2 81 "CodeRooms$Mender" "mover" "LCodeRooms$Routine;", .fieldLink RX2 94 "CodeRooms$Mender" "target" "I", .methodLink RX2 45 yX4_roomCount, .instanceMethod yX4_roomCount, .selects RX4 yX4_roomCount yX4_roomCount, .initialized RX4, .code yX4_roomCount cX4_roomCount 1 (some .int), .fieldLink RX4 20 "CodeRooms$Plan" "settings" "[I", .methodLink RX2 54 yX2_shiftOf, .instanceMethod yX2_shiftOf, .selects RX2 yX2_shiftOf yX2_shiftOf, .initialized RX2, .code yX2_shiftOf cX2_shiftOf 4 (some .long), .fieldLink RX2 9 "CodeRooms$Mender" "sizes" "[I", .methodLink RX2 101 yX4_even, .instanceMethod yX4_even, .selects RX4 yX4_even yX4_even, .code yX4_even cX4_even 1 (some .int)] ++ wsX20 ++ wsX40 ++ wsX50)
def wsX2_tradeOf : List Cond := .code yX2_tradeOf cX2_tradeOf 3 (some .long) :: ([.constantLong RX2 104 (2), .methodLink RX2 73 yX5_pullOf, .instanceMethod yX5_pullOf, .selects RX5 yX5_pullOf yX5_pullOf, .initialized RX5, .code yX5_pullOf cX5_pullOf 3 (some .int), .fieldLink RX5 16 "CodeRooms$Routine" "tieWith" "[I", .fieldLink RX5 31 "CodeRooms$Routine" "number" "I", .fieldLink RX5 20 "CodeRooms$Routine" "mustWith" "[I", .constant RX5 50 (1000000)] ++ wsX50)
def wsX2_findSwap : List Cond := .code yX2_findSwap cX2_findSwap 7 none :: ([.fieldLink RX2 15 "CodeRooms$Mender" "plan" "LCodeRooms$Plan;", .fieldLink RX2 77 "CodeRooms$Mender" "least" "J", .fieldLink RX2 81 "CodeRooms$Mender" "mover" "LCodeRooms$Routine;", .fieldLink RX2 85 "CodeRooms$Mender" "partner" "LCodeRooms$Routine;", .methodLink RX2 97 yX2_tradeOf, .instanceMethod yX2_tradeOf, .selects RX2 yX2_tradeOf yX2_tradeOf, .initialized RX2, .code yX2_tradeOf cX2_tradeOf 3 (some .long), .constantLong RX2 104 (2), .methodLink RX2 73 yX5_pullOf, .instanceMethod yX5_pullOf, .selects RX5 yX5_pullOf yX5_pullOf, .initialized RX5, .code yX5_pullOf cX5_pullOf 3 (some .int), .fieldLink RX5 16 "CodeRooms$Routine" "tieWith" "[I", .fieldLink RX5 31 "CodeRooms$Routine" "number" "I", .fieldLink RX5 20 "CodeRooms$Routine" "mustWith" "[I", .constant RX5 50 (1000000)] ++ wsX20 ++ wsX40 ++ wsX50)
def wsX2_findStep_r1 : List Cond := [Cond.fieldLink RX2 77 "CodeRooms$Mender" "least" "J", Cond.fieldLink RX2 81 "CodeRooms$Mender" "mover" "LCodeRooms$Routine;", Cond.fieldLink RX2 85 "CodeRooms$Mender" "partner" "LCodeRooms$Routine;", Cond.methodLink RX2 88 yX2_findMove, Cond.instanceMethod yX2_findMove, Cond.selects RX2 yX2_findMove yX2_findMove, Cond.initialized RX2, Cond.code yX2_findMove cX2_findMove 6 none, Cond.fieldLink RX2 15 "CodeRooms$Mender" "plan" "LCodeRooms$Plan;", Cond.fieldLink RX2 94 "CodeRooms$Mender" "target" "I", Cond.methodLink RX2 45 yX4_roomCount, Cond.instanceMethod yX4_roomCount, Cond.selects RX4 yX4_roomCount yX4_roomCount, Cond.initialized RX4, Cond.code yX4_roomCount cX4_roomCount 1 (some .int), Cond.fieldLink RX4 20 "CodeRooms$Plan" "settings" "[I", Cond.methodLink RX2 54 yX2_shiftOf, Cond.instanceMethod yX2_shiftOf, Cond.selects RX2 yX2_shiftOf yX2_shiftOf, Cond.code yX2_shiftOf cX2_shiftOf 4 (some .long), Cond.fieldLink RX2 9 "CodeRooms$Mender" "sizes" "[I", Cond.methodLink RX2 101 yX4_even, Cond.instanceMethod yX4_even, Cond.selects RX4 yX4_even yX4_even]
def wsX2_findStep_r2 : List Cond := [Cond.code yX4_even cX4_even 1 (some .int), Cond.methodLink RX2 91 yX2_findSwap, Cond.instanceMethod yX2_findSwap, Cond.selects RX2 yX2_findSwap yX2_findSwap, Cond.code yX2_findSwap cX2_findSwap 7 none, Cond.methodLink RX2 97 yX2_tradeOf, Cond.instanceMethod yX2_tradeOf, Cond.selects RX2 yX2_tradeOf yX2_tradeOf, Cond.code yX2_tradeOf cX2_tradeOf 3 (some .long), Cond.constantLong RX2 104 (2), Cond.methodLink RX2 73 yX5_pullOf, Cond.instanceMethod yX5_pullOf, Cond.selects RX5 yX5_pullOf yX5_pullOf, Cond.initialized RX5, Cond.code yX5_pullOf cX5_pullOf 3 (some .int), Cond.fieldLink RX5 16 "CodeRooms$Routine" "tieWith" "[I", Cond.fieldLink RX5 31 "CodeRooms$Routine" "number" "I", Cond.fieldLink RX5 20 "CodeRooms$Routine" "mustWith" "[I", Cond.constant RX5 50 (1000000)]
def wsX2_findStep : List Cond := .code yX2_findStep cX2_findStep 1 (some .boolean) :: ((wsX2_findStep_r1 ++ wsX2_findStep_r2) ++ wsX20 ++ wsX40 ++ wsX50)
def wsX2_carry : List Cond := .code yX2_carry cX2_carry 6 none :: ([.fieldLink RX2 15 "CodeRooms$Mender" "plan" "LCodeRooms$Plan;", .fieldLink RX2 9 "CodeRooms$Mender" "sizes" "[I", .methodLink RX2 73 yX5_pullOf, .instanceMethod yX5_pullOf, .selects RX5 yX5_pullOf yX5_pullOf, .initialized RX5, .code yX5_pullOf cX5_pullOf 3 (some .int), .fieldLink RX5 16 "CodeRooms$Routine" "tieWith" "[I", .fieldLink RX5 31 "CodeRooms$Routine" "number" "I", .fieldLink RX5 20 "CodeRooms$Routine" "mustWith" "[I", .constant RX5 50 (1000000)] ++ wsX20 ++ wsX40 ++ wsX50)
def wsX2_takeStep : List Cond := .code yX2_takeStep cX2_takeStep 2 none :: ([.fieldLink RX2 81 "CodeRooms$Mender" "mover" "LCodeRooms$Routine;", .fieldLink RX2 85 "CodeRooms$Mender" "partner" "LCodeRooms$Routine;", .fieldLink RX2 94 "CodeRooms$Mender" "target" "I", .methodLink RX2 106 yX2_carry, .instanceMethod yX2_carry, .selects RX2 yX2_carry yX2_carry, .initialized RX2, .code yX2_carry cX2_carry 6 none, .fieldLink RX2 15 "CodeRooms$Mender" "plan" "LCodeRooms$Plan;", .fieldLink RX2 9 "CodeRooms$Mender" "sizes" "[I", .methodLink RX2 73 yX5_pullOf, .instanceMethod yX5_pullOf, .selects RX5 yX5_pullOf yX5_pullOf, .initialized RX5, .code yX5_pullOf cX5_pullOf 3 (some .int), .fieldLink RX5 16 "CodeRooms$Routine" "tieWith" "[I", .fieldLink RX5 31 "CodeRooms$Routine" "number" "I", .fieldLink RX5 20 "CodeRooms$Routine" "mustWith" "[I", .constant RX5 50 (1000000)] ++ wsX20 ++ wsX50 ++ wsX40)
def wsX2_mend_r1 : List Cond := [Cond.fieldLink RX2 15 "CodeRooms$Mender" "plan" "LCodeRooms$Plan;", Cond.methodLink RX2 19 yX2_countSizes, Cond.instanceMethod yX2_countSizes, Cond.selects RX2 yX2_countSizes yX2_countSizes, Cond.initialized RX2, Cond.code yX2_countSizes cX2_countSizes 2 none, Cond.fieldLink RX2 9 "CodeRooms$Mender" "sizes" "[I", Cond.methodLink RX2 32 yX2_weighPulls, Cond.instanceMethod yX2_weighPulls, Cond.selects RX2 yX2_weighPulls yX2_weighPulls, Cond.code yX2_weighPulls cX2_weighPulls 4 none, Cond.constantLong RX2 71 (1000000), Cond.methodLink RX2 73 yX5_pullOf, Cond.instanceMethod yX5_pullOf, Cond.selects RX5 yX5_pullOf yX5_pullOf, Cond.initialized RX5, Cond.code yX5_pullOf cX5_pullOf 3 (some .int), Cond.fieldLink RX5 16 "CodeRooms$Routine" "tieWith" "[I", Cond.fieldLink RX5 31 "CodeRooms$Routine" "number" "I", Cond.fieldLink RX5 20 "CodeRooms$Routine" "mustWith" "[I", Cond.constant RX5 50 (1000000), Cond.methodLink RX2 36 yX2_findStep, Cond.instanceMethod yX2_findStep, Cond.selects RX2 yX2_findStep yX2_findStep]
def wsX2_mend_r2 : List Cond := [Cond.code yX2_findStep cX2_findStep 1 (some .boolean), Cond.fieldLink RX2 77 "CodeRooms$Mender" "least" "J", Cond.fieldLink RX2 81 "CodeRooms$Mender" "mover" "LCodeRooms$Routine;", Cond.fieldLink RX2 85 "CodeRooms$Mender" "partner" "LCodeRooms$Routine;", Cond.methodLink RX2 88 yX2_findMove, Cond.instanceMethod yX2_findMove, Cond.selects RX2 yX2_findMove yX2_findMove, Cond.code yX2_findMove cX2_findMove 6 none, Cond.fieldLink RX2 94 "CodeRooms$Mender" "target" "I", Cond.methodLink RX2 45 yX4_roomCount, Cond.instanceMethod yX4_roomCount, Cond.selects RX4 yX4_roomCount yX4_roomCount, Cond.initialized RX4, Cond.code yX4_roomCount cX4_roomCount 1 (some .int), Cond.fieldLink RX4 20 "CodeRooms$Plan" "settings" "[I", Cond.methodLink RX2 54 yX2_shiftOf, Cond.instanceMethod yX2_shiftOf, Cond.selects RX2 yX2_shiftOf yX2_shiftOf, Cond.code yX2_shiftOf cX2_shiftOf 4 (some .long), Cond.methodLink RX2 101 yX4_even, Cond.instanceMethod yX4_even, Cond.selects RX4 yX4_even yX4_even, Cond.code yX4_even cX4_even 1 (some .int), Cond.methodLink RX2 91 yX2_findSwap]
def wsX2_mend_r3 : List Cond := [Cond.instanceMethod yX2_findSwap, Cond.selects RX2 yX2_findSwap yX2_findSwap, Cond.code yX2_findSwap cX2_findSwap 7 none, Cond.methodLink RX2 97 yX2_tradeOf, Cond.instanceMethod yX2_tradeOf, Cond.selects RX2 yX2_tradeOf yX2_tradeOf, Cond.code yX2_tradeOf cX2_tradeOf 3 (some .long), Cond.constantLong RX2 104 (2), Cond.methodLink RX2 40 yX2_takeStep, Cond.instanceMethod yX2_takeStep, Cond.selects RX2 yX2_takeStep yX2_takeStep, Cond.code yX2_takeStep cX2_takeStep 2 none, Cond.methodLink RX2 106 yX2_carry, Cond.instanceMethod yX2_carry, Cond.selects RX2 yX2_carry yX2_carry, Cond.code yX2_carry cX2_carry 6 none]
def wsX2_mend : List Cond := .code yX2_mend cX2_mend 2 (some .int) :: ((wsX2_mend_r1 ++ (wsX2_mend_r2 ++ wsX2_mend_r3)) ++ wsX20 ++ wsX40 ++ wsX50)
def wsX2_leastShift_r1 : List Cond := [Cond.constantLong RX2 43 (1000000000), Cond.fieldLink RX2 15 "CodeRooms$Mender" "plan" "LCodeRooms$Plan;", Cond.methodLink RX2 58 Lib.MathLoose.min_long.x, Cond.static Lib.MathLoose.min_long.x, Cond.initialized "java/lang/Math", Cond.code Lib.MathLoose.min_long.x Lib.MathLoose.min_long.code 4 (some .long), Cond.methodLink RX2 19 yX2_countSizes, Cond.instanceMethod yX2_countSizes, Cond.selects RX2 yX2_countSizes yX2_countSizes, Cond.initialized RX2, Cond.code yX2_countSizes cX2_countSizes 2 none, Cond.fieldLink RX2 9 "CodeRooms$Mender" "sizes" "[I", Cond.methodLink RX2 32 yX2_weighPulls, Cond.instanceMethod yX2_weighPulls, Cond.selects RX2 yX2_weighPulls yX2_weighPulls, Cond.code yX2_weighPulls cX2_weighPulls 4 none, Cond.constantLong RX2 71 (1000000), Cond.methodLink RX2 73 yX5_pullOf, Cond.instanceMethod yX5_pullOf, Cond.selects RX5 yX5_pullOf yX5_pullOf, Cond.initialized RX5, Cond.code yX5_pullOf cX5_pullOf 3 (some .int), Cond.fieldLink RX5 16 "CodeRooms$Routine" "tieWith" "[I", Cond.fieldLink RX5 31 "CodeRooms$Routine" "number" "I"]
def wsX2_leastShift_r2 : List Cond := [Cond.fieldLink RX5 20 "CodeRooms$Routine" "mustWith" "[I", Cond.constant RX5 50 (1000000), Cond.methodLink RX2 45 yX4_roomCount, Cond.instanceMethod yX4_roomCount, Cond.selects RX4 yX4_roomCount yX4_roomCount, Cond.initialized RX4, Cond.code yX4_roomCount cX4_roomCount 1 (some .int), Cond.fieldLink RX4 20 "CodeRooms$Plan" "settings" "[I", Cond.methodLink RX2 54 yX2_shiftOf, Cond.instanceMethod yX2_shiftOf, Cond.selects RX2 yX2_shiftOf yX2_shiftOf, Cond.code yX2_shiftOf cX2_shiftOf 4 (some .long), Cond.methodLink RX2 101 yX4_even, Cond.instanceMethod yX4_even, Cond.selects RX4 yX4_even yX4_even, Cond.code yX4_even cX4_even 1 (some .int)]
def wsX2_leastShift : List Cond := .code yX2_leastShift cX2_leastShift 8 (some .long) :: ((wsX2_leastShift_r1 ++ wsX2_leastShift_r2) ++ wsX20 ++ wsX50 ++ wsX40)
def wsX3_init : List Cond := .code yX3_init cX3_init 1 none :: ([.methodLink RX3 3 objectInit, .instanceMethod objectInit, .code objectInit ⟨#[0xb1]⟩ 1 none, .arrayClass .long, .fieldLink RX3 9 "CodeRooms$Past" "changes" "[J"] ++ wsX30)
def wsX3_add : List Cond := .code yX3_add cX3_add 3 (some .int) :: ([.fieldLink RX3 15 "CodeRooms$Past" "size" "I", .fieldLink RX3 9 "CodeRooms$Past" "changes" "[J"] ++ wsX30)
def wsX4_housedBits : List Cond := .code yX4_housedBits cX4_housedBits 4 (some .long) :: ([.fieldLink RX4 83 "CodeRooms$Plan" "housedCount" "I", .fieldLink RX4 17 "CodeRooms$Plan" "housed" "[LCodeRooms$Routine;"] ++ wsX40 ++ wsX50)
def wsX3_isInOneRoom : List Cond := .code yX3_isInOneRoom cX3_isInOneRoom 4 (some .boolean) :: ([.constantLong RX3 32 (-1)] ++ wsX40)
def wsX3_countAlone : List Cond := .code yX3_countAlone cX3_countAlone 6 (some .int) :: ([.fieldLink RX3 15 "CodeRooms$Past" "size" "I", .fieldLink RX3 9 "CodeRooms$Past" "changes" "[J", .methodLink RX3 19 yX4_housedBits, .instanceMethod yX4_housedBits, .selects RX4 yX4_housedBits yX4_housedBits, .initialized RX4, .code yX4_housedBits cX4_housedBits 4 (some .long), .fieldLink RX4 83 "CodeRooms$Plan" "housedCount" "I", .fieldLink RX4 17 "CodeRooms$Plan" "housed" "[LCodeRooms$Routine;", .methodLink RX3 25 yX3_isInOneRoom, .static yX3_isInOneRoom, .initialized RX3, .code yX3_isInOneRoom cX3_isInOneRoom 4 (some .boolean), .constantLong RX3 32 (-1)] ++ wsX30 ++ wsX40 ++ wsX50)
def wsX4_init : List Cond := .code yX4_init cX4_init 1 none :: ([.methodLink RX4 3 objectInit, .instanceMethod objectInit, .code objectInit ⟨#[0xb1]⟩ 1 none, .classLink RX4 9 RX5, .fieldLink RX4 11 "CodeRooms$Plan" "routines" "[LCodeRooms$Routine;", .fieldLink RX4 17 "CodeRooms$Plan" "housed" "[LCodeRooms$Routine;", .arrayClass .int, .fieldLink RX4 20 "CodeRooms$Plan" "settings" "[I", .arrayClass .long, .fieldLink RX4 24 "CodeRooms$Plan" "members" "[J"] ++ wsX40)
def wsX4_hasName : List Cond := .code yX4_hasName cX4_hasName 3 (some .boolean) :: ([.fieldLink RX4 28 "CodeRooms$Plan" "size" "I", .fieldLink RX4 11 "CodeRooms$Plan" "routines" "[LCodeRooms$Routine;", .methodLink RX4 36 yX7_compareWith, .instanceMethod yX7_compareWith, .selects RX7 yX7_compareWith yX7_compareWith, .initialized RX7, .code yX7_compareWith cX7_compareWith 5 (some .int), .fieldLink RX7 21 "CodeRooms$Text" "size" "I", .methodLink RX7 35 Lib.Math.min.name, .static Lib.Math.min.name, .initialized "java/lang/Math", .code Lib.Math.min.name Lib.Math.min.code 2 (some .int), .methodLink RX7 31 yX7_at, .instanceMethod yX7_at, .selects RX7 yX7_at yX7_at, .code yX7_at cX7_at 2 (some .int), .fieldLink RX7 15 "CodeRooms$Text" "bytes" "[B"] ++ wsX40 ++ wsX50 ++ wsX70)
def wsX5_init : List Cond := .code yX5_init cX5_init 3 none :: ([.methodLink RX5 3 objectInit, .instanceMethod objectInit, .code objectInit ⟨#[0xb1]⟩ 1 none, .classLink RX5 9 "[[I", .arrayClass .int, .fieldLink RX5 11 "CodeRooms$Routine" "told" "[[I", .fieldLink RX5 16 "CodeRooms$Routine" "tieWith" "[I", .fieldLink RX5 20 "CodeRooms$Routine" "mustWith" "[I", .arrayClass .long, .fieldLink RX5 23 "CodeRooms$Routine" "pulls" "[J", .fieldLink RX5 27 "CodeRooms$Routine" "fixedTo" "I", .fieldLink RX5 31 "CodeRooms$Routine" "number" "I", .fieldLink RX5 34 "CodeRooms$Routine" "label" "LCodeRooms$Text;", .fieldLink RX5 38 "CodeRooms$Routine" "bit" "J"] ++ wsX50)
def wsX4_settle : List Cond := .code yX4_settle cX4_settle 3 none :: ([.fieldLink RX4 83 "CodeRooms$Plan" "housedCount" "I", .fieldLink RX4 28 "CodeRooms$Plan" "size" "I", .fieldLink RX4 11 "CodeRooms$Plan" "routines" "[LCodeRooms$Routine;", .fieldLink RX4 20 "CodeRooms$Plan" "settings" "[I", .fieldLink RX4 17 "CodeRooms$Plan" "housed" "[LCodeRooms$Routine;", .methodLink RX4 89 yJ13_bitCount_95d88, .static yJ13_bitCount_95d88, .initialized RJ13, .code yJ13_bitCount_95d88 cJ13_bitCount_95d88 2 (some .int), .constantLong RJ13 314 (6148914691236517205), .constantLong RJ13 316 (3689348814741910323), .constantLong RJ13 318 (1085102592571150095), .methodLink RX4 102 yX4_roomCount, .instanceMethod yX4_roomCount, .selects RX4 yX4_roomCount yX4_roomCount, .initialized RX4, .code yX4_roomCount cX4_roomCount 1 (some .int)] ++ wsX40 ++ wsX50)
def wsX4_add_r1 : List Cond := [Cond.classLink RX4 9 RX5, Cond.instantiable RX5 13, Cond.initialized RX5, Cond.fieldLink RX4 28 "CodeRooms$Plan" "size" "I", Cond.fieldLink RX4 11 "CodeRooms$Plan" "routines" "[LCodeRooms$Routine;", Cond.methodLink RX4 42 yX5_init, Cond.instanceMethod yX5_init, Cond.code yX5_init cX5_init 3 none, Cond.methodLink RX5 3 objectInit, Cond.instanceMethod objectInit, Cond.code objectInit ⟨#[0xb1]⟩ 1 none, Cond.classLink RX5 9 "[[I", Cond.arrayClass .int, Cond.fieldLink RX5 11 "CodeRooms$Routine" "told" "[[I", Cond.fieldLink RX5 16 "CodeRooms$Routine" "tieWith" "[I", Cond.fieldLink RX5 20 "CodeRooms$Routine" "mustWith" "[I", Cond.arrayClass .long, Cond.fieldLink RX5 23 "CodeRooms$Routine" "pulls" "[J", Cond.fieldLink RX5 27 "CodeRooms$Routine" "fixedTo" "I", Cond.fieldLink RX5 31 "CodeRooms$Routine" "number" "I", Cond.fieldLink RX5 34 "CodeRooms$Routine" "label" "LCodeRooms$Text;", Cond.fieldLink RX5 38 "CodeRooms$Routine" "bit" "J", Cond.methodLink RX4 45 yX4_settle, Cond.instanceMethod yX4_settle]
def wsX4_add_r2 : List Cond := [Cond.selects RX4 yX4_settle yX4_settle, Cond.initialized RX4, Cond.code yX4_settle cX4_settle 3 none, Cond.fieldLink RX4 83 "CodeRooms$Plan" "housedCount" "I", Cond.fieldLink RX4 20 "CodeRooms$Plan" "settings" "[I", Cond.fieldLink RX4 17 "CodeRooms$Plan" "housed" "[LCodeRooms$Routine;", Cond.methodLink RX4 89 yJ13_bitCount_95d88, Cond.static yJ13_bitCount_95d88, Cond.initialized RJ13, Cond.code yJ13_bitCount_95d88 cJ13_bitCount_95d88 2 (some .int), Cond.constantLong RJ13 314 (6148914691236517205), Cond.constantLong RJ13 316 (3689348814741910323), Cond.constantLong RJ13 318 (1085102592571150095), Cond.methodLink RX4 102 yX4_roomCount, Cond.instanceMethod yX4_roomCount, Cond.selects RX4 yX4_roomCount yX4_roomCount, Cond.code yX4_roomCount cX4_roomCount 1 (some .int)]
def wsX4_add : List Cond := .code yX4_add cX4_add 3 (some (.object "CodeRooms$Routine")) :: ((wsX4_add_r1 ++ wsX4_add_r2) ++ wsX50 ++ wsX40)
def wsX5_setTie : List Cond := .code yX5_setTie cX5_setTie 3 none :: ([.fieldLink RX5 16 "CodeRooms$Routine" "tieWith" "[I", .fieldLink RX5 31 "CodeRooms$Routine" "number" "I", .fieldLink RX5 42 "CodeRooms$Routine" "tiedTo" "J", .fieldLink RX5 38 "CodeRooms$Routine" "bit" "J", .constantLong RX5 45 (-1)] ++ wsX50)
def wsX4_weighTie : List Cond := .code yX4_weighTie cX4_weighTie 5 none :: ([.fieldLink RX4 20 "CodeRooms$Plan" "settings" "[I", .methodLink RX4 79 yX5_setTie, .instanceMethod yX5_setTie, .selects RX5 yX5_setTie yX5_setTie, .initialized RX5, .code yX5_setTie cX5_setTie 3 none, .fieldLink RX5 16 "CodeRooms$Routine" "tieWith" "[I", .fieldLink RX5 31 "CodeRooms$Routine" "number" "I", .fieldLink RX5 42 "CodeRooms$Routine" "tiedTo" "J", .fieldLink RX5 38 "CodeRooms$Routine" "bit" "J", .constantLong RX5 45 (-1)] ++ wsX50 ++ wsX40)
def wsX4_tell_r1 : List Cond := [Cond.constant RX4 48 (999999), Cond.methodLink RX4 56 Lib.Math.min.name, Cond.static Lib.Math.min.name, Cond.initialized "java/lang/Math", Cond.code Lib.Math.min.name Lib.Math.min.code 2 (some .int), Cond.methodLink RX4 72 yX4_weighTie, Cond.instanceMethod yX4_weighTie, Cond.selects RX4 yX4_weighTie yX4_weighTie, Cond.initialized RX4, Cond.code yX4_weighTie cX4_weighTie 5 none, Cond.fieldLink RX4 20 "CodeRooms$Plan" "settings" "[I", Cond.methodLink RX4 79 yX5_setTie, Cond.instanceMethod yX5_setTie, Cond.selects RX5 yX5_setTie yX5_setTie, Cond.initialized RX5, Cond.code yX5_setTie cX5_setTie 3 none, Cond.fieldLink RX5 16 "CodeRooms$Routine" "tieWith" "[I", Cond.fieldLink RX5 31 "CodeRooms$Routine" "number" "I", Cond.fieldLink RX5 42 "CodeRooms$Routine" "tiedTo" "J", Cond.fieldLink RX5 38 "CodeRooms$Routine" "bit" "J", Cond.constantLong RX5 45 (-1), Cond.methodLink RX4 45 yX4_settle, Cond.instanceMethod yX4_settle, Cond.selects RX4 yX4_settle yX4_settle]
def wsX4_tell_r2 : List Cond := [Cond.code yX4_settle cX4_settle 3 none, Cond.fieldLink RX4 83 "CodeRooms$Plan" "housedCount" "I", Cond.fieldLink RX4 28 "CodeRooms$Plan" "size" "I", Cond.fieldLink RX4 11 "CodeRooms$Plan" "routines" "[LCodeRooms$Routine;", Cond.fieldLink RX4 17 "CodeRooms$Plan" "housed" "[LCodeRooms$Routine;", Cond.methodLink RX4 89 yJ13_bitCount_95d88, Cond.static yJ13_bitCount_95d88, Cond.initialized RJ13, Cond.code yJ13_bitCount_95d88 cJ13_bitCount_95d88 2 (some .int), Cond.constantLong RJ13 314 (6148914691236517205), Cond.constantLong RJ13 316 (3689348814741910323), Cond.constantLong RJ13 318 (1085102592571150095), Cond.methodLink RX4 102 yX4_roomCount, Cond.instanceMethod yX4_roomCount, Cond.selects RX4 yX4_roomCount yX4_roomCount, Cond.code yX4_roomCount cX4_roomCount 1 (some .int)]
def wsX4_tell : List Cond := .code yX4_tell cX4_tell 6 (some .int) :: ((wsX4_tell_r1 ++ wsX4_tell_r2) ++ wsX50 ++ wsX40)
def wsX4_weighTies : List Cond := .code yX4_weighTies cX4_weighTies 3 none :: ([.fieldLink RX4 28 "CodeRooms$Plan" "size" "I", .fieldLink RX4 11 "CodeRooms$Plan" "routines" "[LCodeRooms$Routine;", .methodLink RX4 72 yX4_weighTie, .instanceMethod yX4_weighTie, .selects RX4 yX4_weighTie yX4_weighTie, .initialized RX4, .code yX4_weighTie cX4_weighTie 5 none, .fieldLink RX4 20 "CodeRooms$Plan" "settings" "[I", .methodLink RX4 79 yX5_setTie, .instanceMethod yX5_setTie, .selects RX5 yX5_setTie yX5_setTie, .initialized RX5, .code yX5_setTie cX5_setTie 3 none, .fieldLink RX5 16 "CodeRooms$Routine" "tieWith" "[I", .fieldLink RX5 31 "CodeRooms$Routine" "number" "I", .fieldLink RX5 42 "CodeRooms$Routine" "tiedTo" "J", .fieldLink RX5 38 "CodeRooms$Routine" "bit" "J", .constantLong RX5 45 (-1)] ++ wsX40 ++ wsX50)
def wsX4_alter_r1 : List Cond := [Cond.fieldLink RX4 20 "CodeRooms$Plan" "settings" "[I", Cond.methodLink RX4 76 yX4_weighTies, Cond.instanceMethod yX4_weighTies, Cond.selects RX4 yX4_weighTies yX4_weighTies, Cond.initialized RX4, Cond.code yX4_weighTies cX4_weighTies 3 none, Cond.fieldLink RX4 28 "CodeRooms$Plan" "size" "I", Cond.fieldLink RX4 11 "CodeRooms$Plan" "routines" "[LCodeRooms$Routine;", Cond.methodLink RX4 72 yX4_weighTie, Cond.instanceMethod yX4_weighTie, Cond.selects RX4 yX4_weighTie yX4_weighTie, Cond.code yX4_weighTie cX4_weighTie 5 none, Cond.methodLink RX4 79 yX5_setTie, Cond.instanceMethod yX5_setTie, Cond.selects RX5 yX5_setTie yX5_setTie, Cond.initialized RX5, Cond.code yX5_setTie cX5_setTie 3 none, Cond.fieldLink RX5 16 "CodeRooms$Routine" "tieWith" "[I", Cond.fieldLink RX5 31 "CodeRooms$Routine" "number" "I", Cond.fieldLink RX5 42 "CodeRooms$Routine" "tiedTo" "J", Cond.fieldLink RX5 38 "CodeRooms$Routine" "bit" "J", Cond.constantLong RX5 45 (-1), Cond.methodLink RX4 45 yX4_settle, Cond.instanceMethod yX4_settle]
def wsX4_alter_r2 : List Cond := [Cond.selects RX4 yX4_settle yX4_settle, Cond.code yX4_settle cX4_settle 3 none, Cond.fieldLink RX4 83 "CodeRooms$Plan" "housedCount" "I", Cond.fieldLink RX4 17 "CodeRooms$Plan" "housed" "[LCodeRooms$Routine;", Cond.methodLink RX4 89 yJ13_bitCount_95d88, Cond.static yJ13_bitCount_95d88, Cond.initialized RJ13, Cond.code yJ13_bitCount_95d88 cJ13_bitCount_95d88 2 (some .int), Cond.constantLong RJ13 314 (6148914691236517205), Cond.constantLong RJ13 316 (3689348814741910323), Cond.constantLong RJ13 318 (1085102592571150095), Cond.methodLink RX4 102 yX4_roomCount, Cond.instanceMethod yX4_roomCount, Cond.selects RX4 yX4_roomCount yX4_roomCount, Cond.code yX4_roomCount cX4_roomCount 1 (some .int)]
def wsX4_alter : List Cond := .code yX4_alter cX4_alter 4 (some .int) :: ((wsX4_alter_r1 ++ wsX4_alter_r2) ++ wsX40 ++ wsX50)
def wsX4_gather : List Cond := .code yX4_gather cX4_gather 2 none :: ([.fieldLink RX4 24 "CodeRooms$Plan" "members" "[J", .fieldLink RX4 83 "CodeRooms$Plan" "housedCount" "I", .fieldLink RX4 17 "CodeRooms$Plan" "housed" "[LCodeRooms$Routine;"] ++ wsX40 ++ wsX50)
def wsX5_isMisplaced : List Cond := .code yX5_isMisplaced cX5_isMisplaced 1 (some .boolean) :: ([.fieldLink RX5 27 "CodeRooms$Routine" "fixedTo" "I", .fieldLink RX5 47 "CodeRooms$Routine" "place" "I"] ++ wsX50)
def wsX5_clashesWith : List Cond := .code yX5_clashesWith cX5_clashesWith 3 (some .boolean) :: ([.fieldLink RX5 20 "CodeRooms$Routine" "mustWith" "[I", .fieldLink RX5 31 "CodeRooms$Routine" "number" "I", .fieldLink RX5 47 "CodeRooms$Routine" "place" "I"] ++ wsX50)
def wsX4_brokenMusts : List Cond := .code yX4_brokenMusts cX4_brokenMusts 4 (some .int) :: ([.fieldLink RX4 83 "CodeRooms$Plan" "housedCount" "I", .fieldLink RX4 17 "CodeRooms$Plan" "housed" "[LCodeRooms$Routine;", .methodLink RX4 121 yX5_isMisplaced, .instanceMethod yX5_isMisplaced, .selects RX5 yX5_isMisplaced yX5_isMisplaced, .initialized RX5, .code yX5_isMisplaced cX5_isMisplaced 1 (some .boolean), .fieldLink RX5 27 "CodeRooms$Routine" "fixedTo" "I", .fieldLink RX5 47 "CodeRooms$Routine" "place" "I", .methodLink RX4 125 yX5_clashesWith, .instanceMethod yX5_clashesWith, .selects RX5 yX5_clashesWith yX5_clashesWith, .code yX5_clashesWith cX5_clashesWith 3 (some .boolean), .fieldLink RX5 20 "CodeRooms$Routine" "mustWith" "[I", .fieldLink RX5 31 "CodeRooms$Routine" "number" "I"] ++ wsX40 ++ wsX50)
def wsX4_squares : List Cond := .code yX4_squares cX4_squares 4 (some .int) :: ([.fieldLink RX4 24 "CodeRooms$Plan" "members" "[J", .methodLink RX4 129 yX4_gather, .instanceMethod yX4_gather, .selects RX4 yX4_gather yX4_gather, .initialized RX4, .code yX4_gather cX4_gather 2 none, .fieldLink RX4 83 "CodeRooms$Plan" "housedCount" "I", .fieldLink RX4 17 "CodeRooms$Plan" "housed" "[LCodeRooms$Routine;", .methodLink RX4 89 yJ13_bitCount_95d88, .static yJ13_bitCount_95d88, .initialized RJ13, .code yJ13_bitCount_95d88 cJ13_bitCount_95d88 2 (some .int), .constantLong RJ13 314 (6148914691236517205), .constantLong RJ13 316 (3689348814741910323), .constantLong RJ13 318 (1085102592571150095)] ++ wsX40 ++ wsX50)
def wsX4_tiesBetweenRooms : List Cond := .code yX4_tiesBetweenRooms cX4_tiesBetweenRooms 5 (some .long) :: ([.fieldLink RX4 83 "CodeRooms$Plan" "housedCount" "I", .fieldLink RX4 17 "CodeRooms$Plan" "housed" "[LCodeRooms$Routine;"] ++ wsX40 ++ wsX50)
def wsX4_price_r1 : List Cond := [Cond.constantLong RX4 106 (1000000), Cond.methodLink RX4 108 yX4_brokenMusts, Cond.instanceMethod yX4_brokenMusts, Cond.selects RX4 yX4_brokenMusts yX4_brokenMusts, Cond.initialized RX4, Cond.code yX4_brokenMusts cX4_brokenMusts 4 (some .int), Cond.fieldLink RX4 83 "CodeRooms$Plan" "housedCount" "I", Cond.fieldLink RX4 17 "CodeRooms$Plan" "housed" "[LCodeRooms$Routine;", Cond.methodLink RX4 121 yX5_isMisplaced, Cond.instanceMethod yX5_isMisplaced, Cond.selects RX5 yX5_isMisplaced yX5_isMisplaced, Cond.initialized RX5, Cond.code yX5_isMisplaced cX5_isMisplaced 1 (some .boolean), Cond.fieldLink RX5 27 "CodeRooms$Routine" "fixedTo" "I", Cond.fieldLink RX5 47 "CodeRooms$Routine" "place" "I", Cond.methodLink RX4 125 yX5_clashesWith, Cond.instanceMethod yX5_clashesWith, Cond.selects RX5 yX5_clashesWith yX5_clashesWith, Cond.code yX5_clashesWith cX5_clashesWith 3 (some .boolean), Cond.fieldLink RX5 20 "CodeRooms$Routine" "mustWith" "[I", Cond.fieldLink RX5 31 "CodeRooms$Routine" "number" "I", Cond.methodLink RX4 111 yX4_even, Cond.instanceMethod yX4_even, Cond.selects RX4 yX4_even yX4_even]
def wsX4_price_r2 : List Cond := [Cond.code yX4_even cX4_even 1 (some .int), Cond.fieldLink RX4 20 "CodeRooms$Plan" "settings" "[I", Cond.methodLink RX4 114 yX4_squares, Cond.instanceMethod yX4_squares, Cond.selects RX4 yX4_squares yX4_squares, Cond.code yX4_squares cX4_squares 4 (some .int), Cond.fieldLink RX4 24 "CodeRooms$Plan" "members" "[J", Cond.methodLink RX4 129 yX4_gather, Cond.instanceMethod yX4_gather, Cond.selects RX4 yX4_gather yX4_gather, Cond.code yX4_gather cX4_gather 2 none, Cond.methodLink RX4 89 yJ13_bitCount_95d88, Cond.static yJ13_bitCount_95d88, Cond.initialized RJ13, Cond.code yJ13_bitCount_95d88 cJ13_bitCount_95d88 2 (some .int), Cond.constantLong RJ13 314 (6148914691236517205), Cond.constantLong RJ13 316 (3689348814741910323), Cond.constantLong RJ13 318 (1085102592571150095), Cond.methodLink RX4 117 yX4_tiesBetweenRooms, Cond.instanceMethod yX4_tiesBetweenRooms, Cond.selects RX4 yX4_tiesBetweenRooms yX4_tiesBetweenRooms, Cond.code yX4_tiesBetweenRooms cX4_tiesBetweenRooms 5 (some .long)]
def wsX4_price : List Cond := .code yX4_price cX4_price 1 (some .long) :: ((wsX4_price_r1 ++ wsX4_price_r2) ++ wsX40 ++ wsX50)
def wsX6_init : List Cond := .code yX6_init cX6_init 2 none :: ([.methodLink RX6 3 objectInit, .instanceMethod objectInit, .code objectInit ⟨#[0xb1]⟩ 1 none, .arrayClass .int, .fieldLink RX6 9 "CodeRooms$Search" "trial" "[I", .fieldLink RX6 15 "CodeRooms$Search" "found" "[I", .fieldLink RX6 18 "CodeRooms$Search" "plan" "LCodeRooms$Plan;"] ++ wsX60)
def wsX6_fixedRooms : List Cond := .code yX6_fixedRooms cX6_fixedRooms 3 (some .int) :: ([.fieldLink RX6 18 "CodeRooms$Search" "plan" "LCodeRooms$Plan;"] ++ wsX60 ++ wsX40 ++ wsX50)
def wsX6_priceOfAdding : List Cond := .code yX6_priceOfAdding cX6_priceOfAdding 10 (some .long) :: ([.fieldLink RX6 18 "CodeRooms$Search" "plan" "LCodeRooms$Plan;", .constantLong RX6 72 (1000000), .fieldLink RX6 9 "CodeRooms$Search" "trial" "[I", .constant RX6 83 (1000000), .methodLink RX6 84 yX4_even, .instanceMethod yX4_even, .selects RX4 yX4_even yX4_even, .initialized RX4, .code yX4_even cX4_even 1 (some .int), .fieldLink RX4 20 "CodeRooms$Plan" "settings" "[I"] ++ wsX60 ++ wsX40 ++ wsX50)
def wsX6_tryFrom_r1 : List Cond := [Cond.fieldLink RX6 36 "CodeRooms$Search" "least" "J", Cond.fieldLink RX6 18 "CodeRooms$Search" "plan" "LCodeRooms$Plan;", Cond.fieldLink RX6 9 "CodeRooms$Search" "trial" "[I", Cond.fieldLink RX6 15 "CodeRooms$Search" "found" "[I", Cond.methodLink RX6 59 arraycopyName, Cond.native arraycopyName, Cond.static arraycopyName, Cond.initialized "java/lang/System", Cond.methodLink RX6 65 yX6_tryRooms, Cond.instanceMethod yX6_tryRooms, Cond.selects RX6 yX6_tryRooms yX6_tryRooms, Cond.initialized RX6, Cond.code yX6_tryRooms cX6_tryRooms 8 none, Cond.methodLink RX6 28 yX4_roomCount, Cond.instanceMethod yX4_roomCount, Cond.selects RX4 yX4_roomCount yX4_roomCount, Cond.initialized RX4, Cond.code yX4_roomCount cX4_roomCount 1 (some .int), Cond.fieldLink RX4 20 "CodeRooms$Plan" "settings" "[I", Cond.methodLink RX6 68 yX6_priceOfAdding, Cond.instanceMethod yX6_priceOfAdding, Cond.selects RX6 yX6_priceOfAdding yX6_priceOfAdding, Cond.code yX6_priceOfAdding cX6_priceOfAdding 10 (some .long), Cond.constantLong RX6 72 (1000000)]
def wsX6_tryFrom_r2 : List Cond := [Cond.constant RX6 83 (1000000), Cond.methodLink RX6 84 yX4_even, Cond.instanceMethod yX4_even, Cond.selects RX4 yX4_even yX4_even, Cond.code yX4_even cX4_even 1 (some .int), Cond.methodLink RX6 43 yX6_tryFrom, Cond.instanceMethod yX6_tryFrom, Cond.selects RX6 yX6_tryFrom yX6_tryFrom]
def wsX6_tryFrom : List Cond := .code yX6_tryFrom cX6_tryFrom 5 none :: ((wsX6_tryFrom_r1 ++ wsX6_tryFrom_r2) ++ wsX60 ++ wsX40 ++ wsX50)
def wsX6_tryRooms_r1 : List Cond := [Cond.fieldLink RX6 18 "CodeRooms$Search" "plan" "LCodeRooms$Plan;", Cond.fieldLink RX6 9 "CodeRooms$Search" "trial" "[I", Cond.methodLink RX6 28 yX4_roomCount, Cond.instanceMethod yX4_roomCount, Cond.selects RX4 yX4_roomCount yX4_roomCount, Cond.initialized RX4, Cond.code yX4_roomCount cX4_roomCount 1 (some .int), Cond.fieldLink RX4 20 "CodeRooms$Plan" "settings" "[I", Cond.methodLink RX6 68 yX6_priceOfAdding, Cond.instanceMethod yX6_priceOfAdding, Cond.selects RX6 yX6_priceOfAdding yX6_priceOfAdding, Cond.initialized RX6, Cond.code yX6_priceOfAdding cX6_priceOfAdding 10 (some .long), Cond.constantLong RX6 72 (1000000), Cond.constant RX6 83 (1000000), Cond.methodLink RX6 84 yX4_even, Cond.instanceMethod yX4_even, Cond.selects RX4 yX4_even yX4_even, Cond.code yX4_even cX4_even 1 (some .int), Cond.methodLink RX6 43 yX6_tryFrom, Cond.instanceMethod yX6_tryFrom, Cond.selects RX6 yX6_tryFrom yX6_tryFrom, Cond.code yX6_tryFrom cX6_tryFrom 5 none, Cond.fieldLink RX6 36 "CodeRooms$Search" "least" "J"]
def wsX6_tryRooms_r2 : List Cond := [Cond.fieldLink RX6 15 "CodeRooms$Search" "found" "[I", Cond.methodLink RX6 59 arraycopyName, Cond.native arraycopyName, Cond.static arraycopyName, Cond.initialized "java/lang/System", Cond.methodLink RX6 65 yX6_tryRooms, Cond.instanceMethod yX6_tryRooms, Cond.selects RX6 yX6_tryRooms yX6_tryRooms]
def wsX6_tryRooms : List Cond := .code yX6_tryRooms cX6_tryRooms 8 none :: ((wsX6_tryRooms_r1 ++ wsX6_tryRooms_r2) ++ wsX60 ++ wsX40 ++ wsX50)
def wsX6_settleBest_r1 : List Cond := [Cond.fieldLink RX6 18 "CodeRooms$Search" "plan" "LCodeRooms$Plan;", Cond.constantLong RX6 32 (-1), Cond.constantLong RX6 34 (1000000000000000), Cond.fieldLink RX6 36 "CodeRooms$Search" "least" "J", Cond.fieldLink RX6 15 "CodeRooms$Search" "found" "[I", Cond.methodLink RX6 28 yX4_roomCount, Cond.instanceMethod yX4_roomCount, Cond.selects RX4 yX4_roomCount yX4_roomCount, Cond.initialized RX4, Cond.code yX4_roomCount cX4_roomCount 1 (some .int), Cond.fieldLink RX4 20 "CodeRooms$Plan" "settings" "[I", Cond.methodLink RX6 40 yX6_fixedRooms, Cond.instanceMethod yX6_fixedRooms, Cond.selects RX6 yX6_fixedRooms yX6_fixedRooms, Cond.initialized RX6, Cond.code yX6_fixedRooms cX6_fixedRooms 3 (some .int), Cond.methodLink RX6 43 yX6_tryFrom, Cond.instanceMethod yX6_tryFrom, Cond.selects RX6 yX6_tryFrom yX6_tryFrom, Cond.code yX6_tryFrom cX6_tryFrom 5 none, Cond.fieldLink RX6 9 "CodeRooms$Search" "trial" "[I", Cond.methodLink RX6 59 arraycopyName, Cond.native arraycopyName, Cond.static arraycopyName]
def wsX6_settleBest_r2 : List Cond := [Cond.initialized "java/lang/System", Cond.methodLink RX6 65 yX6_tryRooms, Cond.instanceMethod yX6_tryRooms, Cond.selects RX6 yX6_tryRooms yX6_tryRooms, Cond.code yX6_tryRooms cX6_tryRooms 8 none, Cond.methodLink RX6 68 yX6_priceOfAdding, Cond.instanceMethod yX6_priceOfAdding, Cond.selects RX6 yX6_priceOfAdding yX6_priceOfAdding, Cond.code yX6_priceOfAdding cX6_priceOfAdding 10 (some .long), Cond.constantLong RX6 72 (1000000), Cond.constant RX6 83 (1000000), Cond.methodLink RX6 84 yX4_even, Cond.instanceMethod yX4_even, Cond.selects RX4 yX4_even yX4_even, Cond.code yX4_even cX4_even 1 (some .int)]
def wsX6_settleBest : List Cond := .code yX6_settleBest cX6_settleBest 2 (some .long) :: ((wsX6_settleBest_r1 ++ wsX6_settleBest_r2) ++ wsX60 ++ wsX40 ++ wsX50)
def wsX7_addNumber : List Cond := .code yX7_addNumber cX7_addNumber 2 none :: ([.methodLink RX7 25 yX7_add, .instanceMethod yX7_add, .selects RX7 yX7_add yX7_add, .initialized RX7, .code yX7_add cX7_add 2 none, .fieldLink RX7 21 "CodeRooms$Text" "size" "I", .fieldLink RX7 15 "CodeRooms$Text" "bytes" "[B"] ++ wsX70)
def wsX7_addAll : List Cond := .code yX7_addAll cX7_addAll 3 none :: ([.fieldLink RX7 21 "CodeRooms$Text" "size" "I", .fieldLink RX7 15 "CodeRooms$Text" "bytes" "[B", .methodLink RX7 25 yX7_add, .instanceMethod yX7_add, .selects RX7 yX7_add yX7_add, .initialized RX7, .code yX7_add cX7_add 2 none] ++ wsX70)
def wsX7_clear : List Cond := .code yX7_clear cX7_clear 1 none :: ([.fieldLink RX7 21 "CodeRooms$Text" "size" "I"] ++ wsX70)
def wsX7_isName : List Cond := .code yX7_isName cX7_isName 3 (some .boolean) :: ([.fieldLink RX7 21 "CodeRooms$Text" "size" "I", .methodLink RX7 31 yX7_at, .instanceMethod yX7_at, .selects RX7 yX7_at yX7_at, .initialized RX7, .code yX7_at cX7_at 2 (some .int), .fieldLink RX7 15 "CodeRooms$Text" "bytes" "[B"] ++ wsX70)
def wsX8_init : List Cond := .code yX8_init cX8_init 2 none :: ([.methodLink RX8 3 objectInit, .instanceMethod objectInit, .code objectInit ⟨#[0xb1]⟩ 1 none, .arrayClass .int, .fieldLink RX8 9 "CodeRooms$Traffic" "reached" "[I", .fieldLink RX8 15 "CodeRooms$Traffic" "plan" "LCodeRooms$Plan;"] ++ wsX80)
def wsX8_calledFromOutside : List Cond := .code yX8_calledFromOutside cX8_calledFromOutside 6 (some .int) :: ([.fieldLink RX8 15 "CodeRooms$Traffic" "plan" "LCodeRooms$Plan;", .constantLong RX8 45 (-1), .methodLink RX8 19 yX4_gather, .instanceMethod yX4_gather, .selects RX4 yX4_gather yX4_gather, .initialized RX4, .code yX4_gather cX4_gather 2 none, .fieldLink RX4 24 "CodeRooms$Plan" "members" "[J", .fieldLink RX4 83 "CodeRooms$Plan" "housedCount" "I", .fieldLink RX4 17 "CodeRooms$Plan" "housed" "[LCodeRooms$Routine;"] ++ wsX80 ++ wsX40 ++ wsX50)
def wsX8_findCalled : List Cond := .code yX8_findCalled cX8_findCalled 4 none :: ([.fieldLink RX8 15 "CodeRooms$Traffic" "plan" "LCodeRooms$Plan;", .fieldLink RX8 9 "CodeRooms$Traffic" "reached" "[I", .methodLink RX8 19 yX4_gather, .instanceMethod yX4_gather, .selects RX4 yX4_gather yX4_gather, .initialized RX4, .code yX4_gather cX4_gather 2 none, .fieldLink RX4 24 "CodeRooms$Plan" "members" "[J", .fieldLink RX4 83 "CodeRooms$Plan" "housedCount" "I", .fieldLink RX4 17 "CodeRooms$Plan" "housed" "[LCodeRooms$Routine;"] ++ wsX80 ++ wsX40 ++ wsX50)
def wsX8_leads : List Cond := .code yX8_leads cX8_leads 3 (some .boolean) :: ([.fieldLink RX8 9 "CodeRooms$Traffic" "reached" "[I"] ++ wsX80)
def wsX8_leadOn : List Cond := .code yX8_leadOn cX8_leadOn 3 none :: ([.fieldLink RX8 9 "CodeRooms$Traffic" "reached" "[I", .methodLink RX8 56 yX8_leads, .instanceMethod yX8_leads, .selects RX8 yX8_leads yX8_leads, .initialized RX8, .code yX8_leads cX8_leads 3 (some .boolean)] ++ wsX80)
def wsX8_roomsAround : List Cond := .code yX8_roomsAround cX8_roomsAround 4 (some .int) :: ([.methodLink RX8 50 yX8_findCalled, .instanceMethod yX8_findCalled, .selects RX8 yX8_findCalled yX8_findCalled, .initialized RX8, .code yX8_findCalled cX8_findCalled 4 none, .fieldLink RX8 15 "CodeRooms$Traffic" "plan" "LCodeRooms$Plan;", .fieldLink RX8 9 "CodeRooms$Traffic" "reached" "[I", .methodLink RX8 19 yX4_gather, .instanceMethod yX4_gather, .selects RX4 yX4_gather yX4_gather, .initialized RX4, .code yX4_gather cX4_gather 2 none, .fieldLink RX4 24 "CodeRooms$Plan" "members" "[J", .fieldLink RX4 83 "CodeRooms$Plan" "housedCount" "I", .fieldLink RX4 17 "CodeRooms$Plan" "housed" "[LCodeRooms$Routine;", .methodLink RX8 53 yX8_leadOn, .instanceMethod yX8_leadOn, .selects RX8 yX8_leadOn yX8_leadOn, .code yX8_leadOn cX8_leadOn 3 none, .methodLink RX8 56 yX8_leads, .instanceMethod yX8_leads, .selects RX8 yX8_leads yX8_leads, .code yX8_leads cX8_leads 3 (some .boolean)] ++ wsX80 ++ wsX40 ++ wsX50)
def wsX10_init_r1 : List Cond := [Cond.methodLink RX10 3 objectInit, Cond.instanceMethod objectInit, Cond.code objectInit ⟨#[0xb1]⟩ 1 none, Cond.classLink RX10 9 RX7, Cond.instantiable RX7 2, Cond.initialized RX7, Cond.fieldLink RX10 14 "CodeRooms" "tape" "LCodeRooms$Text;", Cond.fieldLink RX10 18 "CodeRooms" "page" "LCodeRooms$Text;", Cond.classLink RX10 21 RX4, Cond.instantiable RX4 6, Cond.initialized RX4, Cond.fieldLink RX10 24 "CodeRooms" "plan" "LCodeRooms$Plan;", Cond.classLink RX10 28 RX0, Cond.instantiable RX0 1, Cond.initialized RX0, Cond.fieldLink RX10 31 "CodeRooms" "glossary" "LCodeRooms$Glossary;", Cond.classLink RX10 35 RX2, Cond.instantiable RX2 6, Cond.initialized RX2, Cond.fieldLink RX10 40 "CodeRooms" "mender" "LCodeRooms$Mender;", Cond.classLink RX10 44 RX6, Cond.instantiable RX6 4, Cond.initialized RX6, Cond.fieldLink RX10 47 "CodeRooms" "search" "LCodeRooms$Search;"]
def wsX10_init_r2 : List Cond := [Cond.classLink RX10 51 RX8, Cond.instantiable RX8 2, Cond.initialized RX8, Cond.fieldLink RX10 54 "CodeRooms" "traffic" "LCodeRooms$Traffic;", Cond.classLink RX10 58 RX3, Cond.instantiable RX3 2, Cond.initialized RX3, Cond.fieldLink RX10 61 "CodeRooms" "past" "LCodeRooms$Past;", Cond.classLink RX10 65 RX1, Cond.instantiable RX1 3, Cond.initialized RX1, Cond.fieldLink RX10 68 "CodeRooms" "kept" "LCodeRooms$Kept;", Cond.methodLink RX10 11 yX7_init, Cond.instanceMethod yX7_init, Cond.code yX7_init cX7_init 2 none, Cond.methodLink RX7 3 objectInit, Cond.methodLink RX7 9 Lib.Math.max.name, Cond.static Lib.Math.max.name, Cond.initialized "java/lang/Math", Cond.code Lib.Math.max.name Lib.Math.max.code 2 (some .int), Cond.arrayClass .byte, Cond.fieldLink RX7 15 "CodeRooms$Text" "bytes" "[B", Cond.fieldLink RX7 21 "CodeRooms$Text" "size" "I", Cond.instanceMethod yX4_init]
def wsX10_init_r3 : List Cond := [Cond.code yX4_init cX4_init 1 none, Cond.methodLink RX4 3 objectInit, Cond.classLink RX4 9 RX5, Cond.fieldLink RX4 11 "CodeRooms$Plan" "routines" "[LCodeRooms$Routine;", Cond.fieldLink RX4 17 "CodeRooms$Plan" "housed" "[LCodeRooms$Routine;", Cond.arrayClass .int, Cond.fieldLink RX4 20 "CodeRooms$Plan" "settings" "[I", Cond.arrayClass .long, Cond.fieldLink RX4 24 "CodeRooms$Plan" "members" "[J", Cond.instanceMethod yX0_init, Cond.code yX0_init cX0_init 1 none, Cond.methodLink RX0 1 objectInit, Cond.classLink RX0 7 RJx4a65c, Cond.instantiable RJx4a65c 3, Cond.initialized RJx4a65c, Cond.fieldLink RX0 10 "CodeRooms$Glossary" "words" "Ljava/util/ArrayList;", Cond.methodLink RX0 9 yJx4a65c_init_da8c8, Cond.instanceMethod yJx4a65c_init_da8c8, Cond.code yJx4a65c_init_da8c8 cJx4a65c_init_da8c8 1 none, Cond.fieldLink RJx4a65c 39 "java/util/ArrayList" "DEFAULTCAPACITY_EMPTY_ELEMENTDATA" "[Ljava/lang/Object;", Cond.fieldLink RJx4a65c 9 "java/util/ArrayList" "elementData" "[Ljava/lang/Object;", Cond.methodLink RJx4a65c 1 yJxc12de_init_da8c8, Cond.instanceMethod yJxc12de_init_da8c8, Cond.initialized RJxc12de]
def wsX10_init_r4 : List Cond := [Cond.code yJxc12de_init_da8c8 cJxc12de_init_da8c8 1 none, Cond.fieldLink RJxc12de 7 "java/util/AbstractList" "modCount" "I", Cond.methodLink RJxc12de 1 yJxa1e45_init_da8c8, Cond.instanceMethod yJxa1e45_init_da8c8, Cond.initialized RJxa1e45, Cond.code yJxa1e45_init_da8c8 cJxa1e45_init_da8c8 1 none, Cond.methodLink RJxa1e45 1 objectInit, Cond.methodLink RX10 37 yX2_init, Cond.instanceMethod yX2_init, Cond.code yX2_init cX2_init 2 none, Cond.methodLink RX2 3 objectInit, Cond.fieldLink RX2 9 "CodeRooms$Mender" "sizes" "[I", Cond.fieldLink RX2 15 "CodeRooms$Mender" "plan" "LCodeRooms$Plan;", Cond.methodLink RX10 46 yX6_init, Cond.instanceMethod yX6_init, Cond.code yX6_init cX6_init 2 none, Cond.methodLink RX6 3 objectInit, Cond.fieldLink RX6 9 "CodeRooms$Search" "trial" "[I", Cond.fieldLink RX6 15 "CodeRooms$Search" "found" "[I", Cond.fieldLink RX6 18 "CodeRooms$Search" "plan" "LCodeRooms$Plan;", Cond.methodLink RX10 53 yX8_init, Cond.instanceMethod yX8_init, Cond.code yX8_init cX8_init 2 none, Cond.methodLink RX8 3 objectInit]
def wsX10_init_r5 : List Cond := [Cond.fieldLink RX8 9 "CodeRooms$Traffic" "reached" "[I", Cond.fieldLink RX8 15 "CodeRooms$Traffic" "plan" "LCodeRooms$Plan;", Cond.instanceMethod yX3_init, Cond.code yX3_init cX3_init 1 none, Cond.methodLink RX3 3 objectInit, Cond.fieldLink RX3 9 "CodeRooms$Past" "changes" "[J", Cond.instanceMethod yX1_init, Cond.code yX1_init cX1_init 1 none, Cond.methodLink RX1 3 objectInit, Cond.fieldLink RX1 9 "CodeRooms$Kept" "places" "[I", Cond.classLink RX1 15 "[[I", Cond.fieldLink RX1 17 "CodeRooms$Kept" "alike" "[[I"]
def wsX10_init : List Cond := .code yX10_init cX10_init 1 none :: ((wsX10_init_r1 ++ (wsX10_init_r2 ++ (wsX10_init_r3 ++ (wsX10_init_r4 ++ wsX10_init_r5)))) ++ wsX70 ++ wsX100 ++ wsX40 ++ wsX00 ++ wsX20 ++ wsX60 ++ wsX80 ++ wsX30 ++ wsX10 ++ wsJx4a65c0)
def wsX10_feed : List Cond := .code yX10_feed cX10_feed 6 (some .int) :: ([.fieldLink RX10 14 "CodeRooms" "tape" "LCodeRooms$Text;", .methodLink RX10 76 yX7_addNumber, .instanceMethod yX7_addNumber, .selects RX7 yX7_addNumber yX7_addNumber, .initialized RX7, .code yX7_addNumber cX7_addNumber 2 none, .methodLink RX7 25 yX7_add, .instanceMethod yX7_add, .selects RX7 yX7_add yX7_add, .code yX7_add cX7_add 2 none, .fieldLink RX7 21 "CodeRooms$Text" "size" "I", .fieldLink RX7 15 "CodeRooms$Text" "bytes" "[B"] ++ wsX100 ++ wsX70)
def wsX10_routine_r1 : List Cond := [Cond.classLink RX10 79 "java/lang/IllegalArgumentException", Cond.initialized "java/lang/IllegalArgumentException", Cond.classLink RX10 87 "java/lang/IllegalStateException", Cond.initialized "java/lang/IllegalStateException", Cond.fieldLink RX10 14 "CodeRooms" "tape" "LCodeRooms$Text;", Cond.fieldLink RX10 24 "CodeRooms" "plan" "LCodeRooms$Plan;", Cond.fieldLink RX10 31 "CodeRooms" "glossary" "LCodeRooms$Glossary;", Cond.methodLink RX10 92 yX7_part, Cond.instanceMethod yX7_part, Cond.selects RX7 yX7_part yX7_part, Cond.initialized RX7, Cond.code yX7_part cX7_part 5 (some (.object "CodeRooms$Text")), Cond.classLink RX7 16 RX7, Cond.instantiable RX7 2, Cond.methodLink RX7 29 yX7_init, Cond.instanceMethod yX7_init, Cond.code yX7_init cX7_init 2 none, Cond.methodLink RX7 3 objectInit, Cond.instanceMethod objectInit, Cond.code objectInit ⟨#[0xb1]⟩ 1 none, Cond.methodLink RX7 9 Lib.Math.max.name, Cond.static Lib.Math.max.name, Cond.initialized "java/lang/Math", Cond.code Lib.Math.max.name Lib.Math.max.code 2 (some .int)]
def wsX10_routine_r2 : List Cond := [Cond.arrayClass .byte, Cond.fieldLink RX7 15 "CodeRooms$Text" "bytes" "[B", Cond.fieldLink RX7 21 "CodeRooms$Text" "size" "I", Cond.methodLink RX7 31 yX7_at, Cond.instanceMethod yX7_at, Cond.selects RX7 yX7_at yX7_at, Cond.code yX7_at cX7_at 2 (some .int), Cond.methodLink RX7 25 yX7_add, Cond.instanceMethod yX7_add, Cond.selects RX7 yX7_add yX7_add, Cond.code yX7_add cX7_add 2 none, Cond.methodLink RX10 96 yX7_clear, Cond.instanceMethod yX7_clear, Cond.selects RX7 yX7_clear yX7_clear, Cond.code yX7_clear cX7_clear 1 none, Cond.methodLink RX10 99 yX7_isName, Cond.instanceMethod yX7_isName, Cond.selects RX7 yX7_isName yX7_isName, Cond.code yX7_isName cX7_isName 3 (some .boolean), Cond.methodLink RX10 103 yX4_hasName, Cond.instanceMethod yX4_hasName, Cond.selects RX4 yX4_hasName yX4_hasName, Cond.initialized RX4, Cond.code yX4_hasName cX4_hasName 3 (some .boolean)]
def wsX10_routine_r3 : List Cond := [Cond.fieldLink RX4 28 "CodeRooms$Plan" "size" "I", Cond.fieldLink RX4 11 "CodeRooms$Plan" "routines" "[LCodeRooms$Routine;", Cond.methodLink RX4 36 yX7_compareWith, Cond.instanceMethod yX7_compareWith, Cond.selects RX7 yX7_compareWith yX7_compareWith, Cond.code yX7_compareWith cX7_compareWith 5 (some .int), Cond.methodLink RX7 35 Lib.Math.min.name, Cond.static Lib.Math.min.name, Cond.code Lib.Math.min.name Lib.Math.min.code 2 (some .int), Cond.methodLink RX10 107 yX4_add, Cond.instanceMethod yX4_add, Cond.selects RX4 yX4_add yX4_add, Cond.code yX4_add cX4_add 3 (some (.object "CodeRooms$Routine")), Cond.classLink RX4 9 RX5, Cond.instantiable RX5 13, Cond.initialized RX5, Cond.methodLink RX4 42 yX5_init, Cond.instanceMethod yX5_init, Cond.code yX5_init cX5_init 3 none, Cond.methodLink RX5 3 objectInit, Cond.classLink RX5 9 "[[I", Cond.arrayClass .int, Cond.fieldLink RX5 11 "CodeRooms$Routine" "told" "[[I", Cond.fieldLink RX5 16 "CodeRooms$Routine" "tieWith" "[I"]
def wsX10_routine_r4 : List Cond := [Cond.fieldLink RX5 20 "CodeRooms$Routine" "mustWith" "[I", Cond.arrayClass .long, Cond.fieldLink RX5 23 "CodeRooms$Routine" "pulls" "[J", Cond.fieldLink RX5 27 "CodeRooms$Routine" "fixedTo" "I", Cond.fieldLink RX5 31 "CodeRooms$Routine" "number" "I", Cond.fieldLink RX5 34 "CodeRooms$Routine" "label" "LCodeRooms$Text;", Cond.fieldLink RX5 38 "CodeRooms$Routine" "bit" "J", Cond.methodLink RX4 45 yX4_settle, Cond.instanceMethod yX4_settle, Cond.selects RX4 yX4_settle yX4_settle, Cond.code yX4_settle cX4_settle 3 none, Cond.fieldLink RX4 83 "CodeRooms$Plan" "housedCount" "I", Cond.fieldLink RX4 20 "CodeRooms$Plan" "settings" "[I", Cond.fieldLink RX4 17 "CodeRooms$Plan" "housed" "[LCodeRooms$Routine;", Cond.methodLink RX4 89 yJ13_bitCount_95d88, Cond.static yJ13_bitCount_95d88, Cond.initialized RJ13, Cond.code yJ13_bitCount_95d88 cJ13_bitCount_95d88 2 (some .int), Cond.constantLong RJ13 314 (6148914691236517205), Cond.constantLong RJ13 316 (3689348814741910323), Cond.constantLong RJ13 318 (1085102592571150095), Cond.methodLink RX4 102 yX4_roomCount, Cond.instanceMethod yX4_roomCount, Cond.selects RX4 yX4_roomCount yX4_roomCount]
def wsX10_routine_r5 : List Cond := [Cond.code yX4_roomCount cX4_roomCount 1 (some .int), Cond.methodLink RX10 117 yX0_learn, Cond.instanceMethod yX0_learn, Cond.selects RX0 yX0_learn yX0_learn, Cond.initialized RX0, Cond.code yX0_learn cX0_learn 6 none, Cond.methodLink RX0 22 yX7_at, Cond.methodLink RX0 26 yX7_part, Cond.methodLink RX0 30 yX0_enter, Cond.instanceMethod yX0_enter, Cond.selects RX0 yX0_enter yX0_enter, Cond.code yX0_enter cX0_enter 5 none, Cond.fieldLink RX0 10 "CodeRooms$Glossary" "words" "Ljava/util/ArrayList;", Cond.classLink RX0 41 "CodeRooms$Word", Cond.classLink RX0 41 RX9, Cond.instantiable RX9 2, Cond.initialized RX9, Cond.methodLink RX0 34 yJx4a65c_size_8abf5, Cond.instanceMethod yJx4a65c_size_8abf5, Cond.selects RJx4a65c yJx4a65c_size_8abf5 yJx4a65c_size_8abf5, Cond.initialized RJx4a65c, Cond.code yJx4a65c_size_8abf5 cJx4a65c_size_8abf5 1 (some .int), Cond.fieldLink RJx4a65c 48 "java/util/ArrayList" "size" "I", Cond.methodLink RX0 37 yJx4a65c_get_915e3]
def wsX10_routine_r6 : List Cond := [Cond.instanceMethod yJx4a65c_get_915e3, Cond.selects RJx4a65c yJx4a65c_get_915e3 yJx4a65c_get_915e3, Cond.code yJx4a65c_get_915e3 cJx4a65c_get_915e3 2 (some (.object "java/lang/Object")), Cond.methodLink RJx4a65c 118 yJ15_checkIndex_7cf53, Cond.static yJ15_checkIndex_7cf53, Cond.initialized RJ15, Cond.code yJ15_checkIndex_7cf53 cJ15_checkIndex_7cf53 2 (some .int), Cond.methodLink RJ15 105 yJ3_checkIndex_8e157, Cond.static yJ3_checkIndex_8e157, Cond.initialized RJ3, Cond.code yJ3_checkIndex_8e157 cJ3_checkIndex_8e157 3 (some .int), Cond.methodLink RJx4a65c 123 yJx4a65c_elementData_915e3, Cond.instanceMethod yJx4a65c_elementData_915e3, Cond.selects RJx4a65c yJx4a65c_elementData_915e3 yJx4a65c_elementData_915e3, Cond.code yJx4a65c_elementData_915e3 cJx4a65c_elementData_915e3 2 (some (.object "java/lang/Object")), Cond.fieldLink RJx4a65c 9 "java/util/ArrayList" "elementData" "[Ljava/lang/Object;", Cond.methodLink RX0 47 yX7_compareWith, Cond.methodLink RX0 55 yX9_init, Cond.instanceMethod yX9_init, Cond.code yX9_init cX9_init 4 none, Cond.methodLink RX9 1 objectInit, Cond.fieldLink RX9 7 "CodeRooms$Word" "letters" "LCodeRooms$Text;", Cond.fieldLink RX9 13 "CodeRooms$Word" "holders" "J", Cond.methodLink RX0 57 yJx4a65c_add_7a177]
def wsX10_routine_r7 : List Cond := [Cond.instanceMethod yJx4a65c_add_7a177, Cond.selects RJx4a65c yJx4a65c_add_7a177 yJx4a65c_add_7a177, Cond.code yJx4a65c_add_7a177 cJx4a65c_add_7a177 5 none, Cond.fieldLink RJx4a65c 63 "java/util/ArrayList" "modCount" "I", Cond.sameField "java/util/ArrayList" "java/util/AbstractList" "modCount" "I", Cond.methodLink RJx4a65c 112 arraycopyName, Cond.native arraycopyName, Cond.static arraycopyName, Cond.initialized "java/lang/System", Cond.methodLink RJx4a65c 135 yJx4a65c_rangeCheckForAdd_d00df, Cond.instanceMethod yJx4a65c_rangeCheckForAdd_d00df, Cond.selects RJx4a65c yJx4a65c_rangeCheckForAdd_d00df yJx4a65c_rangeCheckForAdd_d00df, Cond.code yJx4a65c_rangeCheckForAdd_d00df cJx4a65c_rangeCheckForAdd_d00df 2 none, Cond.methodLink RJx4a65c 129 yJx4a65c_grow_d5877, Cond.instanceMethod yJx4a65c_grow_d5877, Cond.selects RJx4a65c yJx4a65c_grow_d5877 yJx4a65c_grow_d5877, Cond.code yJx4a65c_grow_d5877 cJx4a65c_grow_d5877 1 (some (.array (.object "java/lang/Object"))), Cond.methodLink RJx4a65c 69 yJx4a65c_grow_92f84, Cond.instanceMethod yJx4a65c_grow_92f84, Cond.selects RJx4a65c yJx4a65c_grow_92f84 yJx4a65c_grow_92f84, Cond.code yJx4a65c_grow_92f84 cJx4a65c_grow_92f84 4 (some (.array (.object "java/lang/Object"))), Cond.fieldLink RJx4a65c 39 "java/util/ArrayList" "DEFAULTCAPACITY_EMPTY_ELEMENTDATA" "[Ljava/lang/Object;", Cond.methodLink RJx4a65c 79 Lib.Math.max.name, Cond.classLink RJx4a65c 7 "java/lang/Object"]
def wsX10_routine_r8 : List Cond := [Cond.methodLink RJx4a65c 73 yJ8_newLength_cabcc, Cond.static yJ8_newLength_cabcc, Cond.initialized RJ8, Cond.code yJ8_newLength_cabcc cJ8_newLength_cabcc 4 (some .int), Cond.methodLink RJ8 194 Lib.Math.max.name, Cond.constant RJ8 200 (2147483639), Cond.methodLink RJ8 201 yJ8_hugeLength_7cf53, Cond.static yJ8_hugeLength_7cf53, Cond.code yJ8_hugeLength_7cf53 cJ8_hugeLength_7cf53 3 (some .int), Cond.methodLink RJx4a65c 66 yJ7_copyOf_1904c, Cond.static yJ7_copyOf_1904c, Cond.initialized RJ7, Cond.code yJ7_copyOf_1904c cJ7_copyOf_1904c 2 (some (.array (.object "java/lang/Object"))), Cond.methodLink RJ7 86 ⟨"java/lang/Object", "getClass", "()Ljava/lang/Class;"⟩, Cond.selects "[Ljava/lang/Object;" ⟨"java/lang/Object", "getClass", "()Ljava/lang/Class;"⟩ ⟨"java/lang/Object", "getClass", "()Ljava/lang/Class;"⟩, Cond.instanceMethod ⟨"java/lang/Object", "getClass", "()Ljava/lang/Class;"⟩, Cond.native ⟨"java/lang/Object", "getClass", "()Ljava/lang/Class;"⟩, Cond.methodLink RJ7 300 yJ7_copyOf_6403c, Cond.static yJ7_copyOf_6403c, Cond.code yJ7_copyOf_6403c cJ7_copyOf_6403c 4 (some (.array (.object "java/lang/Object"))), Cond.classLink RJ7 110 "[Ljava/lang/Object;", Cond.classLink RJ7 2 "java/lang/Object", Cond.methodLink RJ7 304 Lib.Math.min.name, Cond.methodLink RJ7 150 arraycopyName]
def wsX10_routine : List Cond := .code yX10_routine cX10_routine 4 (some .int) :: ((wsX10_routine_r1 ++ (wsX10_routine_r2 ++ (wsX10_routine_r3 ++ (wsX10_routine_r4 ++ (wsX10_routine_r5 ++ (wsX10_routine_r6 ++ (wsX10_routine_r7 ++ wsX10_routine_r8))))))) ++ wsX100 ++ wsX70 ++ wsX40 ++ wsX50 ++ wsX00 ++ wsX90 ++ wsJx4a65c0 ++ (vx_atS RX10 83 "java/lang/IllegalArgumentException" ["java/lang/RuntimeException", "java/lang/Exception"]).filter goodWord ++ (vx_atS RX10 91 "java/lang/IllegalStateException" ["java/lang/RuntimeException", "java/lang/Exception"]).filter goodWord)
def wsX10_known : List Cond := .code yX10_known cX10_known 2 (some (.object "CodeRooms$Routine")) :: ([.classLink RX10 247 "java/lang/IndexOutOfBoundsException", .initialized "java/lang/IndexOutOfBoundsException", .fieldLink RX10 24 "CodeRooms" "plan" "LCodeRooms$Plan;"] ++ wsX100 ++ wsX40 ++ (vx_atS RX10 251 "java/lang/IndexOutOfBoundsException" ["java/lang/RuntimeException", "java/lang/Exception"]).filter goodWord)
def wsX10_tie_r1 : List Cond := [Cond.classLink RX10 79 "java/lang/IllegalArgumentException", Cond.initialized "java/lang/IllegalArgumentException", Cond.fieldLink RX10 24 "CodeRooms" "plan" "LCodeRooms$Plan;", Cond.methodLink RX10 124 yX10_known, Cond.instanceMethod yX10_known, Cond.selects RX10 yX10_known yX10_known, Cond.initialized RX10, Cond.code yX10_known cX10_known 2 (some (.object "CodeRooms$Routine")), Cond.classLink RX10 247 "java/lang/IndexOutOfBoundsException", Cond.initialized "java/lang/IndexOutOfBoundsException", Cond.methodLink RX10 130 yX4_tell, Cond.instanceMethod yX4_tell, Cond.selects RX4 yX4_tell yX4_tell, Cond.initialized RX4, Cond.code yX4_tell cX4_tell 6 (some .int), Cond.constant RX4 48 (999999), Cond.methodLink RX4 56 Lib.Math.min.name, Cond.static Lib.Math.min.name, Cond.initialized "java/lang/Math", Cond.code Lib.Math.min.name Lib.Math.min.code 2 (some .int), Cond.methodLink RX4 72 yX4_weighTie, Cond.instanceMethod yX4_weighTie, Cond.selects RX4 yX4_weighTie yX4_weighTie, Cond.code yX4_weighTie cX4_weighTie 5 none]
def wsX10_tie_r2 : List Cond := [Cond.fieldLink RX4 20 "CodeRooms$Plan" "settings" "[I", Cond.methodLink RX4 79 yX5_setTie, Cond.instanceMethod yX5_setTie, Cond.selects RX5 yX5_setTie yX5_setTie, Cond.initialized RX5, Cond.code yX5_setTie cX5_setTie 3 none, Cond.fieldLink RX5 16 "CodeRooms$Routine" "tieWith" "[I", Cond.fieldLink RX5 31 "CodeRooms$Routine" "number" "I", Cond.fieldLink RX5 42 "CodeRooms$Routine" "tiedTo" "J", Cond.fieldLink RX5 38 "CodeRooms$Routine" "bit" "J", Cond.constantLong RX5 45 (-1), Cond.methodLink RX4 45 yX4_settle, Cond.instanceMethod yX4_settle, Cond.selects RX4 yX4_settle yX4_settle, Cond.code yX4_settle cX4_settle 3 none, Cond.fieldLink RX4 83 "CodeRooms$Plan" "housedCount" "I", Cond.fieldLink RX4 28 "CodeRooms$Plan" "size" "I", Cond.fieldLink RX4 11 "CodeRooms$Plan" "routines" "[LCodeRooms$Routine;", Cond.fieldLink RX4 17 "CodeRooms$Plan" "housed" "[LCodeRooms$Routine;", Cond.methodLink RX4 89 yJ13_bitCount_95d88, Cond.static yJ13_bitCount_95d88, Cond.initialized RJ13, Cond.code yJ13_bitCount_95d88 cJ13_bitCount_95d88 2 (some .int), Cond.constantLong RJ13 314 (6148914691236517205)]
def wsX10_tie_r3 : List Cond := [Cond.constantLong RJ13 316 (3689348814741910323), Cond.constantLong RJ13 318 (1085102592571150095), Cond.methodLink RX4 102 yX4_roomCount, Cond.instanceMethod yX4_roomCount, Cond.selects RX4 yX4_roomCount yX4_roomCount, Cond.code yX4_roomCount cX4_roomCount 1 (some .int)]
def wsX10_tie : List Cond := .code yX10_tie cX10_tie 7 (some .int) :: ((wsX10_tie_r1 ++ (wsX10_tie_r2 ++ wsX10_tie_r3)) ++ wsX100 ++ wsX40 ++ wsX50 ++ (vx_atS RX10 83 "java/lang/IllegalArgumentException" ["java/lang/RuntimeException", "java/lang/Exception"]).filter goodWord ++ (vx_atS RX10 251 "java/lang/IndexOutOfBoundsException" ["java/lang/RuntimeException", "java/lang/Exception"]).filter goodWord)
