def RX0 : String := "HookUps$Break"
def TX0 : u_T := fun k => match k with
  | 0 => ("HookUps$Break", "station", "I", true)
  | 1 => ("HookUps$Break", "fromPlace", "I", true)
  | 2 => ("HookUps$Break", "toPlace", "I", true)
  | 3 => ("HookUps$Break", "rank", "I", true)
  | _ => ("HookUps$Break", "toldOn", "I", true)
def tyX0 : Nat → FieldType := fun k => match k with
  | 0 => .int
  | 1 => .int
  | 2 => .int
  | 3 => .int
  | _ => .int
abbrev wsX00 : List Cond := u_ws RX0 TX0 5
theorem nmX0 : ∀ a, a < 5 → ∀ b, b < 5 → a ≠ b → (TX0 a).2.1 ≠ (TX0 b).2.1 := by decide +kernel
theorem tyX0_ok : ∀ k, k < 5 → parseFieldDescriptor (TX0 k).2.2.1 = some (tyX0 k) := by decide +kernel
abbrev cX0_init : ByteArray := prog_2_method_1_code
def yX0_init : MethodName := ⟨RX0, "<init>", "(IIIII)V"⟩
abbrev cX0_covers : ByteArray := prog_2_method_2_code
def yX0_covers : MethodName := ⟨RX0, "covers", "(II)Z"⟩
def RX1 : String := "HookUps$Contract"
def TX1 : u_T := fun k => match k with
  | 0 => ("HookUps$Contract", "lines", "I", false)
  | 1 => ("HookUps$Contract", "deeds", "[I", true)
  | 2 => ("HookUps$Contract", "testCounts", "[I", true)
  | _ => ("HookUps$Contract", "tests", "[I", true)
def tyX1 : Nat → FieldType := fun k => match k with
  | 0 => .int
  | 1 => .array .int
  | 2 => .array .int
  | _ => .array .int
abbrev wsX10 : List Cond := u_ws RX1 TX1 4
theorem nmX1 : ∀ a, a < 4 → ∀ b, b < 4 → a ≠ b → (TX1 a).2.1 ≠ (TX1 b).2.1 := by decide +kernel
theorem tyX1_ok : ∀ k, k < 4 → parseFieldDescriptor (TX1 k).2.2.1 = some (tyX1 k) := by decide +kernel
abbrev cX1_init : ByteArray := prog_3_method_1_code
def yX1_init : MethodName := ⟨RX1, "<init>", "()V"⟩
abbrev cX1_addTest : ByteArray := prog_3_method_2_code
def yX1_addTest : MethodName := ⟨RX1, "addTest", "(ZIII)Z"⟩
abbrev cX1_addLine : ByteArray := prog_3_method_3_code
def yX1_addLine : MethodName := ⟨RX1, "addLine", "(I)V"⟩
abbrev cX1_firstLine : ByteArray := prog_3_method_4_code
def yX1_firstLine : MethodName := ⟨RX1, "firstLine", "([IZ)I"⟩
abbrev cX1_clearsBy : ByteArray := prog_3_method_5_code
def yX1_clearsBy : MethodName := ⟨RX1, "clearsBy", "(I)Z"⟩
abbrev cX1_payBy : ByteArray := prog_3_method_6_code
def yX1_payBy : MethodName := ⟨RX1, "payBy", "(I)I"⟩
abbrev cX1_holds : ByteArray := prog_3_method_7_code
def yX1_holds : MethodName := ⟨RX1, "holds", "(I[I)Z"⟩
abbrev cX1_rowOf : ByteArray := prog_3_method_8_code
def yX1_rowOf : MethodName := ⟨RX1, "rowOf", "(II)I"⟩
def RX2 : String := "HookUps$Evening"
def TX2 : u_T := fun k => match k with
  | 0 => ("HookUps$Evening", "pieces", "I", false)
  | 1 => ("HookUps$Evening", "sorts", "[I", true)
  | 2 => ("HookUps$Evening", "worths", "[I", true)
  | 3 => ("HookUps$Evening", "best", "I", false)
  | 4 => ("HookUps$Evening", "bestRow", "[I", true)
  | 5 => ("HookUps$Evening", "row", "[I", true)
  | _ => ("HookUps$Evening", "most", "[I", true)
def tyX2 : Nat → FieldType := fun k => match k with
  | 0 => .int
  | 1 => .array .int
  | 2 => .array .int
  | 3 => .int
  | 4 => .array .int
  | 5 => .array .int
  | _ => .array .int
abbrev wsX20 : List Cond := u_ws RX2 TX2 7
theorem nmX2 : ∀ a, a < 7 → ∀ b, b < 7 → a ≠ b → (TX2 a).2.1 ≠ (TX2 b).2.1 := by decide +kernel
theorem tyX2_ok : ∀ k, k < 7 → parseFieldDescriptor (TX2 k).2.2.1 = some (tyX2 k) := by decide +kernel
abbrev cX2_init : ByteArray := prog_4_method_1_code
def yX2_init : MethodName := ⟨RX2, "<init>", "()V"⟩
abbrev cX2_takeAll : ByteArray := prog_4_method_2_code
def yX2_takeAll : MethodName := ⟨RX2, "takeAll", "(LHookUps$Evening;)V"⟩
abbrev cX2_addPiece : ByteArray := prog_4_method_3_code
def yX2_addPiece : MethodName := ⟨RX2, "addPiece", "(I)I"⟩
abbrev cX2_findBest : ByteArray := prog_4_method_4_code
def yX2_findBest : MethodName := ⟨RX2, "findBest", "()V"⟩
abbrev cX2_giveTurns : ByteArray := prog_4_method_5_code
def yX2_giveTurns : MethodName := ⟨RX2, "giveTurns", "(II)V"⟩
abbrev cX2_fits : ByteArray := prog_4_method_6_code
def yX2_fits : MethodName := ⟨RX2, "fits", "(II)Z"⟩
def RX3 : String := "HookUps$Hour"
def TX3 : u_T := fun k => match k with
  | 0 => ("HookUps$Hour", "network", "I", true)
  | 1 => ("HookUps$Hour", "place", "I", true)
  | 2 => ("HookUps$Hour", "slots", "I", true)
  | 3 => ("HookUps$Hour", "town", "I", true)
  | 4 => ("HookUps$Hour", "sort", "I", true)
  | 5 => ("HookUps$Hour", "stations", "I", true)
  | _ => ("HookUps$Hour", "toldOn", "I", true)
def tyX3 : Nat → FieldType := fun k => match k with
  | 0 => .int
  | 1 => .int
  | 2 => .int
  | 3 => .int
  | 4 => .int
  | 5 => .int
  | _ => .int
abbrev wsX30 : List Cond := u_ws RX3 TX3 7
theorem nmX3 : ∀ a, a < 7 → ∀ b, b < 7 → a ≠ b → (TX3 a).2.1 ≠ (TX3 b).2.1 := by decide +kernel
theorem tyX3_ok : ∀ k, k < 7 → parseFieldDescriptor (TX3 k).2.2.1 = some (tyX3 k) := by decide +kernel
abbrev cX3_init : ByteArray := prog_5_method_1_code
def yX3_init : MethodName := ⟨RX3, "<init>", "(IIIIIII)V"⟩
abbrev cX3_isOnAt : ByteArray := prog_5_method_2_code
def yX3_isOnAt : MethodName := ⟨RX3, "isOnAt", "(I)Z"⟩
def RX4 : String := "HookUps$Membership"
def TX4 : u_T := fun k => match k with
  | 0 => ("HookUps$Membership", "station", "I", true)
  | 1 => ("HookUps$Membership", "network", "I", true)
  | 2 => ("HookUps$Membership", "from", "I", true)
  | _ => ("HookUps$Membership", "toldOn", "I", true)
def tyX4 : Nat → FieldType := fun k => match k with
  | 0 => .int
  | 1 => .int
  | 2 => .int
  | _ => .int
abbrev wsX40 : List Cond := u_ws RX4 TX4 4
theorem nmX4 : ∀ a, a < 4 → ∀ b, b < 4 → a ≠ b → (TX4 a).2.1 ≠ (TX4 b).2.1 := by decide +kernel
theorem tyX4_ok : ∀ k, k < 4 → parseFieldDescriptor (TX4 k).2.2.1 = some (tyX4 k) := by decide +kernel
abbrev cX4_init : ByteArray := prog_6_method_1_code
def yX4_init : MethodName := ⟨RX4, "<init>", "(IIII)V"⟩
def RX5 : String := "HookUps$Reader"
def TX5 : u_T := fun k => match k with
  | 0 => ("HookUps$Reader", "tokens", "[I", true)
  | 1 => ("HookUps$Reader", "places", "[I", true)
  | 2 => ("HookUps$Reader", "last", "I", false)
  | 3 => ("HookUps$Reader", "at", "I", false)
  | 4 => ("HookUps$Reader", "firstTooMany", "I", false)
  | 5 => ("HookUps$Reader", "read", "LHookUps$Contract;", false)
  | 6 => ("HookUps$Reader", "fault", "I", false)
  | _ => ("HookUps$Reader", "faultPlace", "I", false)
def tyX5 : Nat → FieldType := fun k => match k with
  | 0 => .array .int
  | 1 => .array .int
  | 2 => .int
  | 3 => .int
  | 4 => .int
  | 5 => .object "HookUps$Contract"
  | 6 => .int
  | _ => .int
abbrev wsX50 : List Cond := u_ws RX5 TX5 8
theorem nmX5 : ∀ a, a < 8 → ∀ b, b < 8 → a ≠ b → (TX5 a).2.1 ≠ (TX5 b).2.1 := by decide +kernel
theorem tyX5_ok : ∀ k, k < 8 → parseFieldDescriptor (TX5 k).2.2.1 = some (tyX5 k) := by decide +kernel
abbrev cX5_init : ByteArray := prog_7_method_1_code
def yX5_init : MethodName := ⟨RX5, "<init>", "()V"⟩
abbrev cX5_split : ByteArray := prog_7_method_2_code
def yX5_split : MethodName := ⟨RX5, "split", "([BI)V"⟩
abbrev cX5_skipBlanks : ByteArray := prog_7_method_3_code
def yX5_skipBlanks : MethodName := ⟨RX5, "skipBlanks", "([BII)I"⟩
abbrev cX5_tokenEnd : ByteArray := prog_7_method_4_code
def yX5_tokenEnd : MethodName := ⟨RX5, "tokenEnd", "([BII)I"⟩
abbrev cX5_tokenOf : ByteArray := prog_7_method_5_code
def yX5_tokenOf : MethodName := ⟨RX5, "tokenOf", "([BII)I"⟩
abbrev cX5_wordToken : ByteArray := prog_7_method_6_code
def yX5_wordToken : MethodName := ⟨RX5, "wordToken", "([BII)I"⟩
abbrev cX5_numberToken : ByteArray := prog_7_method_7_code
def yX5_numberToken : MethodName := ⟨RX5, "numberToken", "([BII)I"⟩
abbrev cX5_isLetter : ByteArray := prog_7_method_8_code
def yX5_isLetter : MethodName := ⟨RX5, "isLetter", "(I)Z"⟩
abbrev cX5_isDigit : ByteArray := prog_7_method_9_code
def yX5_isDigit : MethodName := ⟨RX5, "isDigit", "(I)Z"⟩
abbrev cX5_readText : ByteArray := prog_7_method_10_code
def yX5_readText : MethodName := ⟨RX5, "readText", "()V"⟩
abbrev cX5_readLine : ByteArray := prog_7_method_11_code
def yX5_readLine : MethodName := ⟨RX5, "readLine", "()V"⟩
abbrev cX5_readTests : ByteArray := prog_7_method_12_code
def yX5_readTests : MethodName := ⟨RX5, "readTests", "()V"⟩
abbrev cX5_readTest : ByteArray := prog_7_method_13_code
def yX5_readTest : MethodName := ⟨RX5, "readTest", "()V"⟩
abbrev cX5_readDeed : ByteArray := prog_7_method_14_code
def yX5_readDeed : MethodName := ⟨RX5, "readDeed", "()I"⟩
abbrev cX5_take : ByteArray := prog_7_method_15_code
def yX5_take : MethodName := ⟨RX5, "take", "(II)I"⟩
abbrev cX5_oneTooMany : ByteArray := prog_7_method_16_code
def yX5_oneTooMany : MethodName := ⟨RX5, "oneTooMany", "(I)V"⟩
def RX6 : String := "HookUps$Shift"
def TX6 : u_T := fun k => match k with
  | 0 => ("HookUps$Shift", "pulled", "I", false)
  | 1 => ("HookUps$Shift", "put", "I", false)
  | 2 => ("HookUps$Shift", "pulls", "[I", true)
  | 3 => ("HookUps$Shift", "puts", "[I", true)
  | 4 => ("HookUps$Shift", "pullsBegun", "[I", true)
  | 5 => ("HookUps$Shift", "putsBegun", "[I", true)
  | 6 => ("HookUps$Shift", "spare", "[I", true)
  | 7 => ("HookUps$Shift", "outs", "[I", true)
  | 8 => ("HookUps$Shift", "free", "[I", true)
  | 9 => ("HookUps$Shift", "hands", "I", false)
  | 10 => ("HookUps$Shift", "best", "I", false)
  | _ => ("HookUps$Shift", "bound", "I", false)
def tyX6 : Nat → FieldType := fun k => match k with
  | 0 => .int
  | 1 => .int
  | 2 => .array .int
  | 3 => .array .int
  | 4 => .array .int
  | 5 => .array .int
  | 6 => .array .int
  | 7 => .array .int
  | 8 => .array .int
  | 9 => .int
  | 10 => .int
  | _ => .int
abbrev wsX60 : List Cond := u_ws RX6 TX6 12
theorem nmX6 : ∀ a, a < 12 → ∀ b, b < 12 → a ≠ b → (TX6 a).2.1 ≠ (TX6 b).2.1 := by decide +kernel
theorem tyX6_ok : ∀ k, k < 12 → parseFieldDescriptor (TX6 k).2.2.1 = some (tyX6 k) := by decide +kernel
abbrev cX6_init : ByteArray := prog_8_method_1_code
def yX6_init : MethodName := ⟨RX6, "<init>", "()V"⟩
abbrev cX6_compare : ByteArray := prog_8_method_2_code
def yX6_compare : MethodName := ⟨RX6, "compare", "(LHookUps$Told;LHookUps$Wiring;LHookUps$Wiring;)V"⟩
abbrev cX6_compareWire : ByteArray := prog_8_method_3_code
def yX6_compareWire : MethodName := ⟨RX6, "compareWire", "(IILHookUps$Wiring;LHookUps$Wiring;)V"⟩
abbrev cX6_leastSeconds : ByteArray := prog_8_method_4_code
def yX6_leastSeconds : MethodName := ⟨RX6, "leastSeconds", "(I)I"⟩
abbrev cX6_widen : ByteArray := prog_8_method_5_code
def yX6_widen : MethodName := ⟨RX6, "widen", "()V"⟩
abbrev cX6_begin : ByteArray := prog_8_method_6_code
def yX6_begin : MethodName := ⟨RX6, "begin", "(III)V"⟩
abbrev cX6_beginPull : ByteArray := prog_8_method_7_code
def yX6_beginPull : MethodName := ⟨RX6, "beginPull", "(IIII)V"⟩
abbrev cX6_beginPut : ByteArray := prog_8_method_8_code
def yX6_beginPut : MethodName := ⟨RX6, "beginPut", "(IIII)V"⟩
abbrev cX6_circuitFree : ByteArray := prog_8_method_9_code
def yX6_circuitFree : MethodName := ⟨RX6, "circuitFree", "(I)I"⟩
abbrev cX6_soonestHand : ByteArray := prog_8_method_10_code
def yX6_soonestHand : MethodName := ⟨RX6, "soonestHand", "()I"⟩
def RX7 : String := "HookUps$Station"
def TX7 : u_T := fun k => match k with
  | 0 => ("HookUps$Station", "town", "I", true)
  | 1 => ("HookUps$Station", "zone", "I", true)
  | _ => ("HookUps$Station", "power", "I", true)
def tyX7 : Nat → FieldType := fun k => match k with
  | 0 => .int
  | 1 => .int
  | _ => .int
abbrev wsX70 : List Cond := u_ws RX7 TX7 3
theorem nmX7 : ∀ a, a < 3 → ∀ b, b < 3 → a ≠ b → (TX7 a).2.1 ≠ (TX7 b).2.1 := by decide +kernel
theorem tyX7_ok : ∀ k, k < 3 → parseFieldDescriptor (TX7 k).2.2.1 = some (tyX7 k) := by decide +kernel
abbrev cX7_init : ByteArray := prog_9_method_1_code
def yX7_init : MethodName := ⟨RX7, "<init>", "(III)V"⟩
def RX8 : String := "HookUps$Told"
def TX8 : u_T := fun k => match k with
  | 0 => ("HookUps$Told", "towns", "I", false)
  | 1 => ("HookUps$Told", "wires", "Ljava/util/ArrayList;", true)
  | 2 => ("HookUps$Told", "stations", "Ljava/util/ArrayList;", true)
  | 3 => ("HookUps$Told", "own", "[I", true)
  | 4 => ("HookUps$Told", "summers", "[I", true)
  | 5 => ("HookUps$Told", "memberships", "Ljava/util/ArrayList;", true)
  | 6 => ("HookUps$Told", "hours", "Ljava/util/ArrayList;", true)
  | 7 => ("HookUps$Told", "breaks", "Ljava/util/ArrayList;", true)
  | 8 => ("HookUps$Told", "now", "I", false)
  | 9 => ("HookUps$Told", "view", "I", false)
  | 10 => ("HookUps$Told", "hands", "I", false)
  | 11 => ("HookUps$Told", "tape", "[B", true)
  | 12 => ("HookUps$Told", "tapeLength", "I", false)
  | 13 => ("HookUps$Told", "fault", "I", false)
  | 14 => ("HookUps$Told", "faultPlace", "I", false)
  | 15 => ("HookUps$Told", "contracts", "[LHookUps$Contract;", true)
  | 16 => ("HookUps$Told", "calls", "I", false)
  | 17 => ("HookUps$Told", "callsRows", "[I", true)
  | 18 => ("HookUps$Told", "evening", "LHookUps$Evening;", true)
  | _ => ("HookUps$Told", "facts", "[I", true)
def tyX8 : Nat → FieldType := fun k => match k with
  | 0 => .int
  | 1 => .object "java/util/ArrayList"
  | 2 => .object "java/util/ArrayList"
  | 3 => .array .int
  | 4 => .array .int
  | 5 => .object "java/util/ArrayList"
  | 6 => .object "java/util/ArrayList"
  | 7 => .object "java/util/ArrayList"
  | 8 => .int
  | 9 => .int
  | 10 => .int
  | 11 => .array .byte
  | 12 => .int
  | 13 => .int
  | 14 => .int
  | 15 => .array (.object "HookUps$Contract")
  | 16 => .int
  | 17 => .array .int
  | 18 => .object "HookUps$Evening"
  | _ => .array .int
abbrev wsX80 : List Cond := u_ws RX8 TX8 20
theorem nmX8 : ∀ a, a < 20 → ∀ b, b < 20 → a ≠ b → (TX8 a).2.1 ≠ (TX8 b).2.1 := by decide +kernel
theorem tyX8_ok : ∀ k, k < 20 → parseFieldDescriptor (TX8 k).2.2.1 = some (tyX8 k) := by decide +kernel
abbrev cX8_init : ByteArray := prog_10_method_1_code
def yX8_init : MethodName := ⟨RX8, "<init>", "()V"⟩
abbrev cX8_takeAll : ByteArray := prog_10_method_2_code
def yX8_takeAll : MethodName := ⟨RX8, "takeAll", "(LHookUps$Told;)V"⟩
abbrev cX8_takeLists : ByteArray := prog_10_method_3_code
def yX8_takeLists : MethodName := ⟨RX8, "takeLists", "(LHookUps$Told;)V"⟩
abbrev cX8_takeRows : ByteArray := prog_10_method_4_code
def yX8_takeRows : MethodName := ⟨RX8, "takeRows", "(LHookUps$Told;)V"⟩
abbrev cX8_putOnTape : ByteArray := prog_10_method_5_code
def yX8_putOnTape : MethodName := ⟨RX8, "putOnTape", "(I)V"⟩
abbrev cX8_isSeen : ByteArray := prog_10_method_6_code
def yX8_isSeen : MethodName := ⟨RX8, "isSeen", "(I)Z"⟩
abbrev cX8_isSummer : ByteArray := prog_10_method_7_code
def yX8_isSummer : MethodName := ⟨RX8, "isSummer", "(II)Z"⟩
abbrev cX8_localPlace : ByteArray := prog_10_method_8_code
def yX8_localPlace : MethodName := ⟨RX8, "localPlace", "(II)I"⟩
abbrev cX8_networkOn : ByteArray := prog_10_method_9_code
def yX8_networkOn : MethodName := ⟨RX8, "networkOn", "(II)I"⟩
abbrev cX8_isSoldTo : ByteArray := prog_10_method_10_code
def yX8_isSoldTo : MethodName := ⟨RX8, "isSoldTo", "(LHookUps$Hour;I)Z"⟩
abbrev cX8_lineFor : ByteArray := prog_10_method_11_code
def yX8_lineFor : MethodName := ⟨RX8, "lineFor", "(ILHookUps$Hour;IZ)I"⟩
abbrev cX8_sentAt : ByteArray := prog_10_method_12_code
def yX8_sentAt : MethodName := ⟨RX8, "sentAt", "(II)I"⟩
abbrev cX8_breakAt : ByteArray := prog_10_method_13_code
def yX8_breakAt : MethodName := ⟨RX8, "breakAt", "(II)I"⟩
abbrev cX8_hourAt : ByteArray := prog_10_method_14_code
def yX8_hourAt : MethodName := ⟨RX8, "hourAt", "(II)I"⟩
abbrev cX8_slotsSent : ByteArray := prog_10_method_15_code
def yX8_slotsSent : MethodName := ⟨RX8, "slotsSent", "(II)I"⟩
abbrev cX8_payFor : ByteArray := prog_10_method_16_code
def yX8_payFor : MethodName := ⟨RX8, "payFor", "(II)I"⟩
def RX9 : String := "HookUps$Wire"
def TX9 : u_T := fun k => match k with
  | 0 => ("HookUps$Wire", "a", "I", true)
  | 1 => ("HookUps$Wire", "b", "I", true)
  | 2 => ("HookUps$Wire", "miles", "I", true)
  | _ => ("HookUps$Wire", "circuits", "I", true)
def tyX9 : Nat → FieldType := fun k => match k with
  | 0 => .int
  | 1 => .int
  | 2 => .int
  | _ => .int
abbrev wsX90 : List Cond := u_ws RX9 TX9 4
theorem nmX9 : ∀ a, a < 4 → ∀ b, b < 4 → a ≠ b → (TX9 a).2.1 ≠ (TX9 b).2.1 := by decide +kernel
theorem tyX9_ok : ∀ k, k < 4 → parseFieldDescriptor (TX9 k).2.2.1 = some (tyX9 k) := by decide +kernel
abbrev cX9_init : ByteArray := prog_11_method_1_code
def yX9_init : MethodName := ⟨RX9, "<init>", "(IIII)V"⟩
def RX10 : String := "HookUps$Wiring"
def TX10 : u_T := fun k => match k with
  | 0 => ("HookUps$Wiring", "strings", "[I", true)
  | 1 => ("HookUps$Wiring", "sending", "[I", true)
  | 2 => ("HookUps$Wiring", "taken", "[I", true)
  | 3 => ("HookUps$Wiring", "order", "[I", true)
  | _ => ("HookUps$Wiring", "parts", "[I", true)
def tyX10 : Nat → FieldType := fun k => match k with
  | 0 => .array .int
  | 1 => .array .int
  | 2 => .array .int
  | 3 => .array .int
  | _ => .array .int
abbrev wsX100 : List Cond := u_ws RX10 TX10 5
theorem nmX10 : ∀ a, a < 5 → ∀ b, b < 5 → a ≠ b → (TX10 a).2.1 ≠ (TX10 b).2.1 := by decide +kernel
theorem tyX10_ok : ∀ k, k < 5 → parseFieldDescriptor (TX10 k).2.2.1 = some (tyX10 k) := by decide +kernel
abbrev cX10_init : ByteArray := prog_12_method_1_code
def yX10_init : MethodName := ⟨RX10, "<init>", "()V"⟩
abbrev cX10_lay : ByteArray := prog_12_method_2_code
def yX10_lay : MethodName := ⟨RX10, "lay", "(LHookUps$Told;I)V"⟩
abbrev cX10_plugs : ByteArray := prog_12_method_3_code
def yX10_plugs : MethodName := ⟨RX10, "plugs", "(I)I"⟩
abbrev cX10_milesOf : ByteArray := prog_12_method_4_code
def yX10_milesOf : MethodName := ⟨RX10, "milesOf", "(LHookUps$Told;I)I"⟩
abbrev cX10_orderWires : ByteArray := prog_12_method_5_code
def yX10_orderWires : MethodName := ⟨RX10, "orderWires", "(LHookUps$Told;)V"⟩
abbrev cX10_townsOf : ByteArray := prog_12_method_6_code
def yX10_townsOf : MethodName := ⟨RX10, "townsOf", "(LHookUps$Told;I)I"⟩
abbrev cX10_takeCircuits : ByteArray := prog_12_method_7_code
def yX10_takeCircuits : MethodName := ⟨RX10, "takeCircuits", "(I)V"⟩
abbrev cX10_leastString : ByteArray := prog_12_method_8_code
def yX10_leastString : MethodName := ⟨RX10, "leastString", "(LHookUps$Told;I)I"⟩
abbrev cX10_lightestTree : ByteArray := prog_12_method_9_code
def yX10_lightestTree : MethodName := ⟨RX10, "lightestTree", "(LHookUps$Told;II)I"⟩
abbrev cX10_joinParts : ByteArray := prog_12_method_10_code
def yX10_joinParts : MethodName := ⟨RX10, "joinParts", "(I)I"⟩
def RX11 : String := "HookUps"
def TX11 : u_T := fun k => match k with
  | 0 => ("HookUps", "told", "LHookUps$Told;", true)
  | 1 => ("HookUps", "images", "[LHookUps$Told;", true)
  | 2 => ("HookUps", "wiring", "LHookUps$Wiring;", true)
  | 3 => ("HookUps", "wiringAhead", "LHookUps$Wiring;", true)
  | 4 => ("HookUps", "shift", "LHookUps$Shift;", true)
  | _ => ("HookUps", "reader", "LHookUps$Reader;", true)
def tyX11 : Nat → FieldType := fun k => match k with
  | 0 => .object "HookUps$Told"
  | 1 => .array (.object "HookUps$Told")
  | 2 => .object "HookUps$Wiring"
  | 3 => .object "HookUps$Wiring"
  | 4 => .object "HookUps$Shift"
  | _ => .object "HookUps$Reader"
abbrev wsX110 : List Cond := u_ws RX11 TX11 6
theorem nmX11 : ∀ a, a < 6 → ∀ b, b < 6 → a ≠ b → (TX11 a).2.1 ≠ (TX11 b).2.1 := by decide +kernel
theorem tyX11_ok : ∀ k, k < 6 → parseFieldDescriptor (TX11 k).2.2.1 = some (tyX11 k) := by decide +kernel
abbrev cX11_init : ByteArray := prog_1_method_1_code
def yX11_init : MethodName := ⟨RX11, "<init>", "()V"⟩
abbrev cX11_town : ByteArray := prog_1_method_2_code
def yX11_town : MethodName := ⟨RX11, "town", "()I"⟩
abbrev cX11_wire : ByteArray := prog_1_method_3_code
def yX11_wire : MethodName := ⟨RX11, "wire", "(IIII)I"⟩
abbrev cX11_station : ByteArray := prog_1_method_4_code
def yX11_station : MethodName := ⟨RX11, "station", "(III)I"⟩
abbrev cX11_summer : ByteArray := prog_1_method_5_code
def yX11_summer : MethodName := ⟨RX11, "summer", "(III)Z"⟩
abbrev cX11_local : ByteArray := prog_1_method_6_code
def yX11_local : MethodName := ⟨RX11, "local", "(III)I"⟩
abbrev cX11_twice : ByteArray := prog_1_method_7_code
def yX11_twice : MethodName := ⟨RX11, "twice", "(III)I"⟩
abbrev cX11_day : ByteArray := prog_1_method_8_code
def yX11_day : MethodName := ⟨RX11, "day", "(I)Z"⟩
abbrev cX11_view : ByteArray := prog_1_method_9_code
def yX11_view : MethodName := ⟨RX11, "view", "(I)Z"⟩
abbrev cX11_join : ByteArray := prog_1_method_10_code
def yX11_join : MethodName := ⟨RX11, "join", "(III)Z"⟩
abbrev cX11_member : ByteArray := prog_1_method_11_code
def yX11_member : MethodName := ⟨RX11, "member", "(II)I"⟩
abbrev cX11_hour : ByteArray := prog_1_method_12_code
def yX11_hour : MethodName := ⟨RX11, "hour", "(IIIIIII)I"⟩
abbrev cX11_cut : ByteArray := prog_1_method_13_code
def yX11_cut : MethodName := ⟨RX11, "cut", "(IIIII)I"⟩
abbrev cX11_own : ByteArray := prog_1_method_14_code
def yX11_own : MethodName := ⟨RX11, "own", "(II)Z"⟩
abbrev cX11_about : ByteArray := prog_1_method_15_code
def yX11_about : MethodName := ⟨RX11, "about", "(II)I"⟩
abbrev cX11_feed : ByteArray := prog_1_method_16_code
def yX11_feed : MethodName := ⟨RX11, "feed", "(IIIII)I"⟩
abbrev cX11_end : ByteArray := prog_1_method_17_code
def yX11_end : MethodName := ⟨RX11, "end", "(I)I"⟩
abbrev cX11_contract : ByteArray := prog_1_method_18_code
def yX11_contract : MethodName := ⟨RX11, "contract", "(I)I"⟩
abbrev cX11_fault : ByteArray := prog_1_method_19_code
def yX11_fault : MethodName := ⟨RX11, "fault", "(I)I"⟩
abbrev cX11_clears : ByteArray := prog_1_method_20_code
def yX11_clears : MethodName := ⟨RX11, "clears", "(III)Z"⟩
abbrev cX11_why : ByteArray := prog_1_method_21_code
def yX11_why : MethodName := ⟨RX11, "why", "(IIIZ)I"⟩
abbrev cX11_sends : ByteArray := prog_1_method_22_code
def yX11_sends : MethodName := ⟨RX11, "sends", "(III)I"⟩
abbrev cX11_sent : ByteArray := prog_1_method_23_code
def yX11_sent : MethodName := ⟨RX11, "sent", "(II)I"⟩
abbrev cX11_miles : ByteArray := prog_1_method_24_code
def yX11_miles : MethodName := ⟨RX11, "miles", "(II)I"⟩
abbrev cX11_string : ByteArray := prog_1_method_25_code
def yX11_string : MethodName := ⟨RX11, "string", "(II)I"⟩
abbrev cX11_hands : ByteArray := prog_1_method_26_code
def yX11_hands : MethodName := ⟨RX11, "hands", "(I)Z"⟩
abbrev cX11_change : ByteArray := prog_1_method_27_code
def yX11_change : MethodName := ⟨RX11, "change", "(III)I"⟩
abbrev cX11_paid : ByteArray := prog_1_method_28_code
def yX11_paid : MethodName := ⟨RX11, "paid", "(III)I"⟩
abbrev cX11_owed : ByteArray := prog_1_method_29_code
def yX11_owed : MethodName := ⟨RX11, "owed", "(III)I"⟩
abbrev cX11_lost : ByteArray := prog_1_method_30_code
def yX11_lost : MethodName := ⟨RX11, "lost", "(II)I"⟩
abbrev cX11_calls : ByteArray := prog_1_method_31_code
def yX11_calls : MethodName := ⟨RX11, "calls", "(III)I"⟩
abbrev cX11_call : ByteArray := prog_1_method_32_code
def yX11_call : MethodName := ⟨RX11, "call", "(II)I"⟩
abbrev cX11_apart : ByteArray := prog_1_method_33_code
def yX11_apart : MethodName := ⟨RX11, "apart", "(II)Z"⟩
abbrev cX11_piece : ByteArray := prog_1_method_34_code
def yX11_piece : MethodName := ⟨RX11, "piece", "(I)I"⟩
abbrev cX11_worth : ByteArray := prog_1_method_35_code
def yX11_worth : MethodName := ⟨RX11, "worth", "(III)Z"⟩
abbrev cX11_plan : ByteArray := prog_1_method_36_code
def yX11_plan : MethodName := ⟨RX11, "plan", "(I)I"⟩
abbrev cX11_count : ByteArray := prog_1_method_37_code
def yX11_count : MethodName := ⟨RX11, "count", "(I)I"⟩
abbrev cX11_image : ByteArray := prog_1_method_38_code
def yX11_image : MethodName := ⟨RX11, "image", "(I)Z"⟩
abbrev cX11_again : ByteArray := prog_1_method_39_code
def yX11_again : MethodName := ⟨RX11, "again", "(I)Z"⟩
abbrev cX11_within : ByteArray := prog_1_method_40_code
def yX11_within : MethodName := ⟨RX11, "within", "(III)Z"⟩
abbrev cX11_isDay : ByteArray := prog_1_method_41_code
def yX11_isDay : MethodName := ⟨RX11, "isDay", "(I)Z"⟩
abbrev cX11_isSlot : ByteArray := prog_1_method_42_code
def yX11_isSlot : MethodName := ⟨RX11, "isSlot", "(I)Z"⟩
abbrev cX11_isPlace : ByteArray := prog_1_method_43_code
def yX11_isPlace : MethodName := ⟨RX11, "isPlace", "(I)Z"⟩
abbrev cX11_isZone : ByteArray := prog_1_method_44_code
def yX11_isZone : MethodName := ⟨RX11, "isZone", "(I)Z"⟩
abbrev cX11_isNetwork : ByteArray := prog_1_method_45_code
def yX11_isNetwork : MethodName := ⟨RX11, "isNetwork", "(I)Z"⟩
abbrev cX11_isSort : ByteArray := prog_1_method_46_code
def yX11_isSort : MethodName := ⟨RX11, "isSort", "(I)Z"⟩
abbrev cX11_isTown : ByteArray := prog_1_method_47_code
def yX11_isTown : MethodName := ⟨RX11, "isTown", "(I)Z"⟩
abbrev cX11_isStation : ByteArray := prog_1_method_48_code
def yX11_isStation : MethodName := ⟨RX11, "isStation", "(I)Z"⟩
abbrev cX11_isCalls : ByteArray := prog_1_method_49_code
def yX11_isCalls : MethodName := ⟨RX11, "isCalls", "(I)Z"⟩
abbrev cX11_shareOf : ByteArray := prog_1_method_50_code
def yX11_shareOf : MethodName := ⟨RX11, "shareOf", "(I)I"⟩
abbrev cX11_isSeenSlot : ByteArray := prog_1_method_51_code
def yX11_isSeenSlot : MethodName := ⟨RX11, "isSeenSlot", "(II)Z"⟩
def RX12 : String := "HookUpsModel"
def TX12 : u_T := fun k => match k with
  | 0 => ("HookUpsModel", "all", "[I", true)
  | 1 => ("HookUpsModel", "has", "[Z", true)
  | 2 => ("HookUpsModel", "size", "I", false)
  | 3 => ("HookUpsModel", "next", "I", false)
  | 4 => ("HookUpsModel", "where", "I", false)
  | 5 => ("HookUpsModel", "token", "I", false)
  | 6 => ("HookUpsModel", "number", "I", false)
  | 7 => ("HookUpsModel", "sign", "I", false)
  | 8 => ("HookUpsModel", "word", "I", false)
  | 9 => ("HookUpsModel", "wrong", "Z", false)
  | 10 => ("HookUpsModel", "lines", "I", false)
  | 11 => ("HookUpsModel", "read", "[I", true)
  | 12 => ("HookUpsModel", "test", "[I", true)
  | 13 => ("HookUpsModel", "strings", "[I", true)
  | 14 => ("HookUpsModel", "taken", "[I", true)
  | 15 => ("HookUpsModel", "lengths", "[I", true)
  | 16 => ("HookUpsModel", "ahead", "[I", true)
  | 17 => ("HookUpsModel", "pulled", "I", false)
  | 18 => ("HookUpsModel", "fresh", "I", false)
  | 19 => ("HookUpsModel", "wireAt", "[I", true)
  | 20 => ("HookUpsModel", "isPut", "[Z", true)
  | 21 => ("HookUpsModel", "order", "[I", true)
  | 22 => ("HookUpsModel", "began", "[I", true)
  | 23 => ("HookUpsModel", "free", "[I", true)
  | 24 => ("HookUpsModel", "stay", "[I", true)
  | 25 => ("HookUpsModel", "turn", "[I", true)
  | 26 => ("HookUpsModel", "good", "[I", true)
  | _ => ("HookUpsModel", "total", "I", false)
def tyX12 : Nat → FieldType := fun k => match k with
  | 0 => .array .int
  | 1 => .array .boolean
  | 2 => .int
  | 3 => .int
  | 4 => .int
  | 5 => .int
  | 6 => .int
  | 7 => .int
  | 8 => .int
  | 9 => .boolean
  | 10 => .int
  | 11 => .array .int
  | 12 => .array .int
  | 13 => .array .int
  | 14 => .array .int
  | 15 => .array .int
  | 16 => .array .int
  | 17 => .int
  | 18 => .int
  | 19 => .array .int
  | 20 => .array .boolean
  | 21 => .array .int
  | 22 => .array .int
  | 23 => .array .int
  | 24 => .array .int
  | 25 => .array .int
  | 26 => .array .int
  | _ => .int
abbrev wsX120 : List Cond := u_ws RX12 TX12 28
theorem nmX12 : ∀ a, a < 28 → ∀ b, b < 28 → a ≠ b → (TX12 a).2.1 ≠ (TX12 b).2.1 := by decide +kernel
theorem tyX12_ok : ∀ k, k < 28 → parseFieldDescriptor (TX12 k).2.2.1 = some (tyX12 k) := by decide +kernel
abbrev cX12_init : ByteArray := prog_14_method_1_code
def yX12_init : MethodName := ⟨RX12, "<init>", "()V"⟩
abbrev cX12_isIn : ByteArray := prog_14_method_2_code
def yX12_isIn : MethodName := ⟨RX12, "isIn", "(III)Z"⟩
abbrev cX12_isOf : ByteArray := prog_14_method_3_code
def yX12_isOf : MethodName := ⟨RX12, "isOf", "(II)Z"⟩
abbrev cX12_isDay : ByteArray := prog_14_method_4_code
def yX12_isDay : MethodName := ⟨RX12, "isDay", "(I)Z"⟩
abbrev cX12_isSlot : ByteArray := prog_14_method_5_code
def yX12_isSlot : MethodName := ⟨RX12, "isSlot", "(I)Z"⟩
abbrev cX12_isSeen : ByteArray := prog_14_method_6_code
def yX12_isSeen : MethodName := ⟨RX12, "isSeen", "(I)Z"⟩
abbrev cX12_wireOf : ByteArray := prog_14_method_7_code
def yX12_wireOf : MethodName := ⟨RX12, "wireOf", "(II)I"⟩
abbrev cX12_stationOf : ByteArray := prog_14_method_8_code
def yX12_stationOf : MethodName := ⟨RX12, "stationOf", "(II)I"⟩
abbrev cX12_hourOf : ByteArray := prog_14_method_9_code
def yX12_hourOf : MethodName := ⟨RX12, "hourOf", "(II)I"⟩
abbrev cX12_isHour : ByteArray := prog_14_method_10_code
def yX12_isHour : MethodName := ⟨RX12, "isHour", "(I)Z"⟩
abbrev cX12_town : ByteArray := prog_14_method_11_code
def yX12_town : MethodName := ⟨RX12, "town", "()I"⟩
abbrev cX12_wire : ByteArray := prog_14_method_12_code
def yX12_wire : MethodName := ⟨RX12, "wire", "(IIII)I"⟩
abbrev cX12_station : ByteArray := prog_14_method_13_code
def yX12_station : MethodName := ⟨RX12, "station", "(III)I"⟩
abbrev cX12_summer : ByteArray := prog_14_method_14_code
def yX12_summer : MethodName := ⟨RX12, "summer", "(III)Z"⟩
abbrev cX12_isSummer : ByteArray := prog_14_method_15_code
def yX12_isSummer : MethodName := ⟨RX12, "isSummer", "(II)Z"⟩
abbrev cX12_localOf : ByteArray := prog_14_method_16_code
def yX12_localOf : MethodName := ⟨RX12, "localOf", "(III)I"⟩
abbrev cX12_slotOf : ByteArray := prog_14_method_17_code
def yX12_slotOf : MethodName := ⟨RX12, "slotOf", "(I)I"⟩
abbrev cX12_dayOf : ByteArray := prog_14_method_18_code
def yX12_dayOf : MethodName := ⟨RX12, "dayOf", "(I)I"⟩
abbrev cX12_local : ByteArray := prog_14_method_19_code
def yX12_local : MethodName := ⟨RX12, "local", "(III)I"⟩
abbrev cX12_twice : ByteArray := prog_14_method_20_code
def yX12_twice : MethodName := ⟨RX12, "twice", "(III)I"⟩
abbrev cX12_day : ByteArray := prog_14_method_21_code
def yX12_day : MethodName := ⟨RX12, "day", "(I)Z"⟩
abbrev cX12_view : ByteArray := prog_14_method_22_code
def yX12_view : MethodName := ⟨RX12, "view", "(I)Z"⟩
abbrev cX12_join : ByteArray := prog_14_method_23_code
def yX12_join : MethodName := ⟨RX12, "join", "(III)Z"⟩
abbrev cX12_memberOf : ByteArray := prog_14_method_24_code
def yX12_memberOf : MethodName := ⟨RX12, "memberOf", "(II)I"⟩
abbrev cX12_member : ByteArray := prog_14_method_25_code
def yX12_member : MethodName := ⟨RX12, "member", "(II)I"⟩
abbrev cX12_hour : ByteArray := prog_14_method_26_code
def yX12_hour : MethodName := ⟨RX12, "hour", "(IIIIIII)I"⟩
abbrev cX12_cut : ByteArray := prog_14_method_27_code
def yX12_cut : MethodName := ⟨RX12, "cut", "(IIIII)I"⟩
abbrev cX12_own : ByteArray := prog_14_method_28_code
def yX12_own : MethodName := ⟨RX12, "own", "(II)Z"⟩
abbrev cX12_about : ByteArray := prog_14_method_29_code
def yX12_about : MethodName := ⟨RX12, "about", "(II)I"⟩
abbrev cX12_feed : ByteArray := prog_14_method_30_code
def yX12_feed : MethodName := ⟨RX12, "feed", "(IIIII)I"⟩
abbrev cX12_end : ByteArray := prog_14_method_31_code
def yX12_end : MethodName := ⟨RX12, "end", "(I)I"⟩
abbrev cX12_byteAt : ByteArray := prog_14_method_32_code
def yX12_byteAt : MethodName := ⟨RX12, "byteAt", "(I)I"⟩
abbrev cX12_isLetter : ByteArray := prog_14_method_33_code
def yX12_isLetter : MethodName := ⟨RX12, "isLetter", "(I)Z"⟩
abbrev cX12_isDigit : ByteArray := prog_14_method_34_code
def yX12_isDigit : MethodName := ⟨RX12, "isDigit", "(I)Z"⟩
abbrev cX12_three : ByteArray := prog_14_method_35_code
def yX12_three : MethodName := ⟨RX12, "three", "(III)J"⟩
abbrev cX12_four : ByteArray := prog_14_method_36_code
def yX12_four : MethodName := ⟨RX12, "four", "(IIII)J"⟩
abbrev cX12_six : ByteArray := prog_14_method_37_code
def yX12_six : MethodName := ⟨RX12, "six", "(JJ)J"⟩
abbrev cX12_wordOf : ByteArray := prog_14_method_38_code
def yX12_wordOf : MethodName := ⟨RX12, "wordOf", "(J)I"⟩
abbrev cX12_isSignByte : ByteArray := prog_14_method_39_code
def yX12_isSignByte : MethodName := ⟨RX12, "isSignByte", "(I)Z"⟩
abbrev cX12_advance : ByteArray := prog_14_method_40_code
def yX12_advance : MethodName := ⟨RX12, "advance", "()V"⟩
abbrev cX12_stops : ByteArray := prog_14_method_41_code
def yX12_stops : MethodName := ⟨RX12, "stops", "()V"⟩
abbrev cX12_also : ByteArray := prog_14_method_42_code
def yX12_also : MethodName := ⟨RX12, "also", "()V"⟩
abbrev cX12_takes : ByteArray := prog_14_method_43_code
def yX12_takes : MethodName := ⟨RX12, "takes", "(I)Z"⟩
abbrev cX12_must : ByteArray := prog_14_method_44_code
def yX12_must : MethodName := ⟨RX12, "must", "(I)V"⟩
abbrev cX12_numbered : ByteArray := prog_14_method_45_code
def yX12_numbered : MethodName := ⟨RX12, "numbered", "()I"⟩
abbrev cX12_aTest : ByteArray := prog_14_method_46_code
def yX12_aTest : MethodName := ⟨RX12, "aTest", "()V"⟩
abbrev cX12_puts : ByteArray := prog_14_method_47_code
def yX12_puts : MethodName := ⟨RX12, "puts", "(II)V"⟩
abbrev cX12_aLine : ByteArray := prog_14_method_48_code
def yX12_aLine : MethodName := ⟨RX12, "aLine", "()V"⟩
abbrev cX12_contract : ByteArray := prog_14_method_49_code
def yX12_contract : MethodName := ⟨RX12, "contract", "(I)I"⟩
abbrev cX12_fault : ByteArray := prog_14_method_50_code
def yX12_fault : MethodName := ⟨RX12, "fault", "(I)I"⟩
abbrev cX12_asked : ByteArray := prog_14_method_51_code
def yX12_asked : MethodName := ⟨RX12, "asked", "(IIII)I"⟩
abbrev cX12_holds : ByteArray := prog_14_method_52_code
def yX12_holds : MethodName := ⟨RX12, "holds", "(IIII)Z"⟩
abbrev cX12_lineOf : ByteArray := prog_14_method_53_code
def yX12_lineOf : MethodName := ⟨RX12, "lineOf", "(IIIZ)I"⟩
abbrev cX12_lineAt : ByteArray := prog_14_method_54_code
def yX12_lineAt : MethodName := ⟨RX12, "lineAt", "(III)I"⟩
abbrev cX12_isCleared : ByteArray := prog_14_method_55_code
def yX12_isCleared : MethodName := ⟨RX12, "isCleared", "(III)Z"⟩
abbrev cX12_isAsked : ByteArray := prog_14_method_56_code
def yX12_isAsked : MethodName := ⟨RX12, "isAsked", "(III)Z"⟩
abbrev cX12_clears : ByteArray := prog_14_method_57_code
def yX12_clears : MethodName := ⟨RX12, "clears", "(III)Z"⟩
abbrev cX12_why : ByteArray := prog_14_method_58_code
def yX12_why : MethodName := ⟨RX12, "why", "(IIIZ)I"⟩
abbrev cX12_breakOf : ByteArray := prog_14_method_59_code
def yX12_breakOf : MethodName := ⟨RX12, "breakOf", "(III)I"⟩
abbrev cX12_isThen : ByteArray := prog_14_method_60_code
def yX12_isThen : MethodName := ⟨RX12, "isThen", "(III)Z"⟩
abbrev cX12_sendsOf : ByteArray := prog_14_method_61_code
def yX12_sendsOf : MethodName := ⟨RX12, "sendsOf", "(III)I"⟩
abbrev cX12_sends : ByteArray := prog_14_method_62_code
def yX12_sends : MethodName := ⟨RX12, "sends", "(III)I"⟩
abbrev cX12_senders : ByteArray := prog_14_method_63_code
def yX12_senders : MethodName := ⟨RX12, "senders", "(III)I"⟩
abbrev cX12_isPart : ByteArray := prog_14_method_64_code
def yX12_isPart : MethodName := ⟨RX12, "isPart", "(II)Z"⟩
abbrev cX12_sent : ByteArray := prog_14_method_65_code
def yX12_sent : MethodName := ⟨RX12, "sent", "(II)I"⟩
abbrev cX12_milesOf : ByteArray := prog_14_method_66_code
def yX12_milesOf : MethodName := ⟨RX12, "milesOf", "(I)I"⟩
abbrev cX12_measures : ByteArray := prog_14_method_67_code
def yX12_measures : MethodName := ⟨RX12, "measures", "()V"⟩
abbrev cX12_joins : ByteArray := prog_14_method_68_code
def yX12_joins : MethodName := ⟨RX12, "joins", "(II)Z"⟩
abbrev cX12_bestOf : ByteArray := prog_14_method_69_code
def yX12_bestOf : MethodName := ⟨RX12, "bestOf", "(I)I"⟩
abbrev cX12_strung : ByteArray := prog_14_method_70_code
def yX12_strung : MethodName := ⟨RX12, "strung", "(III)V"⟩
abbrev cX12_string : ByteArray := prog_14_method_71_code
def yX12_string : MethodName := ⟨RX12, "string", "(II)I"⟩
abbrev cX12_miles : ByteArray := prog_14_method_72_code
def yX12_miles : MethodName := ⟨RX12, "miles", "(II)I"⟩
abbrev cX12_hands : ByteArray := prog_14_method_73_code
def yX12_hands : MethodName := ⟨RX12, "hands", "(I)Z"⟩
abbrev cX12_plugs : ByteArray := prog_14_method_74_code
def yX12_plugs : MethodName := ⟨RX12, "plugs", "(II)V"⟩
abbrev cX12_begins : ByteArray := prog_14_method_75_code
def yX12_begins : MethodName := ⟨RX12, "begins", "(II)I"⟩
abbrev cX12_seconds : ByteArray := prog_14_method_76_code
def yX12_seconds : MethodName := ⟨RX12, "seconds", "()I"⟩
abbrev cX12_reorders : ByteArray := prog_14_method_77_code
def yX12_reorders : MethodName := ⟨RX12, "reorders", "(I)Z"⟩
abbrev cX12_swap : ByteArray := prog_14_method_78_code
def yX12_swap : MethodName := ⟨RX12, "swap", "(II)V"⟩
abbrev cX12_leastSeconds : ByteArray := prog_14_method_79_code
def yX12_leastSeconds : MethodName := ⟨RX12, "leastSeconds", "()I"⟩
abbrev cX12_change : ByteArray := prog_14_method_80_code
def yX12_change : MethodName := ⟨RX12, "change", "(III)I"⟩
abbrev cX12_areDays : ByteArray := prog_14_method_81_code
def yX12_areDays : MethodName := ⟨RX12, "areDays", "(II)Z"⟩
abbrev cX12_paid : ByteArray := prog_14_method_82_code
def yX12_paid : MethodName := ⟨RX12, "paid", "(III)I"⟩
abbrev cX12_owed : ByteArray := prog_14_method_83_code
def yX12_owed : MethodName := ⟨RX12, "owed", "(III)I"⟩
abbrev cX12_lost : ByteArray := prog_14_method_84_code
def yX12_lost : MethodName := ⟨RX12, "lost", "(II)I"⟩
abbrev cX12_calls : ByteArray := prog_14_method_85_code
def yX12_calls : MethodName := ⟨RX12, "calls", "(III)I"⟩
abbrev cX12_call : ByteArray := prog_14_method_86_code
def yX12_call : MethodName := ⟨RX12, "call", "(II)I"⟩
abbrev cX12_apart : ByteArray := prog_14_method_87_code
def yX12_apart : MethodName := ⟨RX12, "apart", "(II)Z"⟩
abbrev cX12_piece : ByteArray := prog_14_method_88_code
def yX12_piece : MethodName := ⟨RX12, "piece", "(I)I"⟩
abbrev cX12_worth : ByteArray := prog_14_method_89_code
def yX12_worth : MethodName := ⟨RX12, "worth", "(III)Z"⟩
abbrev cX12_goes : ByteArray := prog_14_method_90_code
def yX12_goes : MethodName := ⟨RX12, "goes", "(I)Z"⟩
abbrev cX12_keeps : ByteArray := prog_14_method_91_code
def yX12_keeps : MethodName := ⟨RX12, "keeps", "()V"⟩
abbrev cX12_plans : ByteArray := prog_14_method_92_code
def yX12_plans : MethodName := ⟨RX12, "plans", "()V"⟩
abbrev cX12_plan : ByteArray := prog_14_method_93_code
def yX12_plan : MethodName := ⟨RX12, "plan", "(I)I"⟩
abbrev cX12_count : ByteArray := prog_14_method_94_code
def yX12_count : MethodName := ⟨RX12, "count", "(I)I"⟩
abbrev cX12_image : ByteArray := prog_14_method_95_code
def yX12_image : MethodName := ⟨RX12, "image", "(I)Z"⟩
abbrev cX12_again : ByteArray := prog_14_method_96_code
def yX12_again : MethodName := ⟨RX12, "again", "(I)Z"⟩
def RJx145de : String := "java/io/Serializable"
def TJx145de : u_T := fun k => match k with
  | _ => ("", "", "", false)
def tyJx145de : Nat → FieldType := fun k => match k with
  | _ => .int
abbrev wsJx145de0 : List Cond := u_ws RJx145de TJx145de 0
theorem nmJx145de : ∀ a, a < 0 → ∀ b, b < 0 → a ≠ b → (TJx145de a).2.1 ≠ (TJx145de b).2.1 := by decide +kernel
theorem tyJx145de_ok : ∀ k, k < 0 → parseFieldDescriptor (TJx145de k).2.2.1 = some (tyJx145de k) := by decide +kernel
def RJx8e188 : String := "java/lang/Cloneable"
def TJx8e188 : u_T := fun k => match k with
  | _ => ("", "", "", false)
def tyJx8e188 : Nat → FieldType := fun k => match k with
  | _ => .int
abbrev wsJx8e1880 : List Cond := u_ws RJx8e188 TJx8e188 0
theorem nmJx8e188 : ∀ a, a < 0 → ∀ b, b < 0 → a ≠ b → (TJx8e188 a).2.1 ≠ (TJx8e188 b).2.1 := by decide +kernel
theorem tyJx8e188_ok : ∀ k, k < 0 → parseFieldDescriptor (TJx8e188 k).2.2.1 = some (tyJx8e188 k) := by decide +kernel
def RJ6 : String := "java/lang/Integer"
def TJ6 : u_T := fun k => match k with
  | _ => ("", "", "", false)
def tyJ6 : Nat → FieldType := fun k => match k with
  | _ => .int
abbrev wsJ60 : List Cond := u_ws RJ6 TJ6 0
theorem nmJ6 : ∀ a, a < 0 → ∀ b, b < 0 → a ≠ b → (TJ6 a).2.1 ≠ (TJ6 b).2.1 := by decide +kernel
theorem tyJ6_ok : ∀ k, k < 0 → parseFieldDescriptor (TJ6 k).2.2.1 = some (tyJ6 k) := by decide +kernel
abbrev cJ6_compare_7cf53 : ByteArray := prog_17_method_40_code
def yJ6_compare_7cf53 : MethodName := ⟨RJ6, "compare", "(II)I"⟩
def RJxab1ab : String := "java/lang/Iterable"
def TJxab1ab : u_T := fun k => match k with
  | _ => ("", "", "", false)
def tyJxab1ab : Nat → FieldType := fun k => match k with
  | _ => .int
abbrev wsJxab1ab0 : List Cond := u_ws RJxab1ab TJxab1ab 0
theorem nmJxab1ab : ∀ a, a < 0 → ∀ b, b < 0 → a ≠ b → (TJxab1ab a).2.1 ≠ (TJxab1ab b).2.1 := by decide +kernel
theorem tyJxab1ab_ok : ∀ k, k < 0 → parseFieldDescriptor (TJxab1ab k).2.2.1 = some (tyJxab1ab k) := by decide +kernel
def RJ9 : String := "java/lang/Math"
def TJ9 : u_T := fun k => match k with
  | _ => ("", "", "", false)
def tyJ9 : Nat → FieldType := fun k => match k with
  | _ => .int
abbrev wsJ90 : List Cond := u_ws RJ9 TJ9 0
theorem nmJ9 : ∀ a, a < 0 → ∀ b, b < 0 → a ≠ b → (TJ9 a).2.1 ≠ (TJ9 b).2.1 := by decide +kernel
theorem tyJ9_ok : ∀ k, k < 0 → parseFieldDescriptor (TJ9 k).2.2.1 = some (tyJ9 k) := by decide +kernel
abbrev cJ9_floorDiv_7cf53 : ByteArray := prog_19_method_47_code
def yJ9_floorDiv_7cf53 : MethodName := ⟨RJ9, "floorDiv", "(II)I"⟩
abbrev cJ9_floorMod_7cf53 : ByteArray := prog_19_method_50_code
def yJ9_floorMod_7cf53 : MethodName := ⟨RJ9, "floorMod", "(II)I"⟩
abbrev cJ9_abs_0f7a4 : ByteArray := prog_19_method_59_code
def yJ9_abs_0f7a4 : MethodName := ⟨RJ9, "abs", "(I)I"⟩
abbrev cJ9_max_7cf53 : ByteArray := prog_19_method_65_code
def yJ9_max_7cf53 : MethodName := ⟨RJ9, "max", "(II)I"⟩
abbrev cJ9_min_7cf53 : ByteArray := prog_19_method_69_code
def yJ9_min_7cf53 : MethodName := ⟨RJ9, "min", "(II)I"⟩
def RJ0 : String := "java/lang/String"
def TJ0 : u_T := fun k => match k with
  | _ => ("", "", "", false)
def tyJ0 : Nat → FieldType := fun k => match k with
  | _ => .int
abbrev wsJ00 : List Cond := u_ws RJ0 TJ0 0
theorem nmJ0 : ∀ a, a < 0 → ∀ b, b < 0 → a ≠ b → (TJ0 a).2.1 ≠ (TJ0 b).2.1 := by decide +kernel
theorem tyJ0_ok : ∀ k, k < 0 → parseFieldDescriptor (TJ0 k).2.2.1 = some (tyJ0 k) := by decide +kernel
abbrev cJ0_length_8abf5 : ByteArray := prog_20_method_54_code
def yJ0_length_8abf5 : MethodName := ⟨RJ0, "length", "()I"⟩
abbrev cJ0_charAt_5068e : ByteArray := prog_20_method_56_code
def yJ0_charAt_5068e : MethodName := ⟨RJ0, "charAt", "(I)C"⟩
abbrev cJ0_coder_7d493 : ByteArray := prog_20_method_152_code
def yJ0_coder_7d493 : MethodName := ⟨RJ0, "coder", "()B"⟩
abbrev cJ0_isLatin1_aae02 : ByteArray := prog_20_method_154_code
def yJ0_isLatin1_aae02 : MethodName := ⟨RJ0, "isLatin1", "()Z"⟩
abbrev cJ0_checkIndex_df160 : ByteArray := prog_20_method_155_code
def yJ0_checkIndex_df160 : MethodName := ⟨RJ0, "checkIndex", "(II)V"⟩
def RJ1 : String := "java/lang/StringLatin1"
def TJ1 : u_T := fun k => match k with
  | _ => ("", "", "", false)
def tyJ1 : Nat → FieldType := fun k => match k with
  | _ => .int
abbrev wsJ10 : List Cond := u_ws RJ1 TJ1 0
theorem nmJ1 : ∀ a, a < 0 → ∀ b, b < 0 → a ≠ b → (TJ1 a).2.1 ≠ (TJ1 b).2.1 := by decide +kernel
theorem tyJ1_ok : ∀ k, k < 0 → parseFieldDescriptor (TJ1 k).2.2.1 = some (tyJ1 k) := by decide +kernel
abbrev cJ1_charAt_3b067 : ByteArray := prog_21_method_2_code
def yJ1_charAt_3b067 : MethodName := ⟨RJ1, "charAt", "([BI)C"⟩
def RJ2 : String := "java/lang/StringUTF16"
def TJ2 : u_T := fun k => match k with
  | _ => ("", "", "", false)
def tyJ2 : Nat → FieldType := fun k => match k with
  | _ => .int
abbrev wsJ20 : List Cond := u_ws RJ2 TJ2 0
theorem nmJ2 : ∀ a, a < 0 → ∀ b, b < 0 → a ≠ b → (TJ2 a).2.1 ≠ (TJ2 b).2.1 := by decide +kernel
theorem tyJ2_ok : ∀ k, k < 0 → parseFieldDescriptor (TJ2 k).2.2.1 = some (tyJ2 k) := by decide +kernel
abbrev cJ2_getChar_3b067 : ByteArray := prog_22_method_5_code
def yJ2_getChar_3b067 : MethodName := ⟨RJ2, "getChar", "([BI)C"⟩
abbrev cJ2_length_9d52b : ByteArray := prog_22_method_6_code
def yJ2_length_9d52b : MethodName := ⟨RJ2, "length", "([B)I"⟩
abbrev cJ2_charAt_3b067 : ByteArray := prog_22_method_83_code
def yJ2_charAt_3b067 : MethodName := ⟨RJ2, "charAt", "([BI)C"⟩
abbrev cJ2_checkIndex_2214a : ByteArray := prog_22_method_91_code
def yJ2_checkIndex_2214a : MethodName := ⟨RJ2, "checkIndex", "(I[B)V"⟩
def RJ10 : String := "java/lang/System"
def TJ10 : u_T := fun k => match k with
  | _ => ("", "", "", false)
def tyJ10 : Nat → FieldType := fun k => match k with
  | _ => .int
abbrev wsJ100 : List Cond := u_ws RJ10 TJ10 0
theorem nmJ10 : ∀ a, a < 0 → ∀ b, b < 0 → a ≠ b → (TJ10 a).2.1 ≠ (TJ10 b).2.1 := by decide +kernel
theorem tyJ10_ok : ∀ k, k < 0 → parseFieldDescriptor (TJ10 k).2.2.1 = some (tyJ10 k) := by decide +kernel
def RJxa1e45 : String := "java/util/AbstractCollection"
def TJxa1e45 : u_T := fun k => match k with
  | _ => ("", "", "", false)
def tyJxa1e45 : Nat → FieldType := fun k => match k with
  | _ => .int
abbrev wsJxa1e450 : List Cond := u_ws RJxa1e45 TJxa1e45 0
theorem nmJxa1e45 : ∀ a, a < 0 → ∀ b, b < 0 → a ≠ b → (TJxa1e45 a).2.1 ≠ (TJxa1e45 b).2.1 := by decide +kernel
theorem tyJxa1e45_ok : ∀ k, k < 0 → parseFieldDescriptor (TJxa1e45 k).2.2.1 = some (tyJxa1e45 k) := by decide +kernel
abbrev cJxa1e45_init_da8c8 : ByteArray := prog_24_method_1_code
def yJxa1e45_init_da8c8 : MethodName := ⟨RJxa1e45, "<init>", "()V"⟩
def RJxc12de : String := "java/util/AbstractList"
def TJxc12de : u_T := fun k => match k with
  | _ => ("", "", "", false)
def tyJxc12de : Nat → FieldType := fun k => match k with
  | _ => .int
abbrev wsJxc12de0 : List Cond := u_ws RJxc12de TJxc12de 0
theorem nmJxc12de : ∀ a, a < 0 → ∀ b, b < 0 → a ≠ b → (TJxc12de a).2.1 ≠ (TJxc12de b).2.1 := by decide +kernel
theorem tyJxc12de_ok : ∀ k, k < 0 → parseFieldDescriptor (TJxc12de k).2.2.1 = some (tyJxc12de k) := by decide +kernel
abbrev cJxc12de_init_da8c8 : ByteArray := prog_25_method_1_code
def yJxc12de_init_da8c8 : MethodName := ⟨RJxc12de, "<init>", "()V"⟩
def RJx4a65c : String := "java/util/ArrayList"
def TJx4a65c : u_T := fun k => match k with
  | 0 => ("java/util/AbstractList", "modCount", "I", false)
  | 1 => ("java/util/ArrayList", "elementData", "[Ljava/lang/Object;", false)
  | _ => ("java/util/ArrayList", "size", "I", false)
def tyJx4a65c : Nat → FieldType := fun k => match k with
  | 0 => .int
  | 1 => .array (.object "java/lang/Object")
  | _ => .int
abbrev wsJx4a65c0 : List Cond := u_ws RJx4a65c TJx4a65c 3
theorem nmJx4a65c : ∀ a, a < 3 → ∀ b, b < 3 → a ≠ b → (TJx4a65c a).2.1 ≠ (TJx4a65c b).2.1 := by decide +kernel
theorem tyJx4a65c_ok : ∀ k, k < 3 → parseFieldDescriptor (TJx4a65c k).2.2.1 = some (tyJx4a65c k) := by decide +kernel
abbrev cJx4a65c_init_da8c8 : ByteArray := prog_26_method_2_code
def yJx4a65c_init_da8c8 : MethodName := ⟨RJx4a65c, "<init>", "()V"⟩
abbrev cJx4a65c_grow_92f84 : ByteArray := prog_26_method_6_code
def yJx4a65c_grow_92f84 : MethodName := ⟨RJx4a65c, "grow", "(I)[Ljava/lang/Object;"⟩
abbrev cJx4a65c_grow_d5877 : ByteArray := prog_26_method_7_code
def yJx4a65c_grow_d5877 : MethodName := ⟨RJx4a65c, "grow", "()[Ljava/lang/Object;"⟩
abbrev cJx4a65c_size_8abf5 : ByteArray := prog_26_method_8_code
def yJx4a65c_size_8abf5 : MethodName := ⟨RJx4a65c, "size", "()I"⟩
abbrev cJx4a65c_elementData_915e3 : ByteArray := prog_26_method_18_code
def yJx4a65c_elementData_915e3 : MethodName := ⟨RJx4a65c, "elementData", "(I)Ljava/lang/Object;"⟩
abbrev cJx4a65c_get_915e3 : ByteArray := prog_26_method_20_code
def yJx4a65c_get_915e3 : MethodName := ⟨RJx4a65c, "get", "(I)Ljava/lang/Object;"⟩
abbrev cJx4a65c_add_72be8 : ByteArray := prog_26_method_24_code
def yJx4a65c_add_72be8 : MethodName := ⟨RJx4a65c, "add", "(Ljava/lang/Object;[Ljava/lang/Object;I)V"⟩
abbrev cJx4a65c_add_9ea2d : ByteArray := prog_26_method_25_code
def yJx4a65c_add_9ea2d : MethodName := ⟨RJx4a65c, "add", "(Ljava/lang/Object;)Z"⟩
abbrev cJx4a65c_clear_da8c8 : ByteArray := prog_26_method_40_code
def yJx4a65c_clear_da8c8 : MethodName := ⟨RJx4a65c, "clear", "()V"⟩
def RJ7 : String := "java/util/Arrays"
def TJ7 : u_T := fun k => match k with
  | _ => ("", "", "", false)
def tyJ7 : Nat → FieldType := fun k => match k with
  | _ => .int
abbrev wsJ70 : List Cond := u_ws RJ7 TJ7 0
theorem nmJ7 : ∀ a, a < 0 → ∀ b, b < 0 → a ≠ b → (TJ7 a).2.1 ≠ (TJ7 b).2.1 := by decide +kernel
theorem tyJ7_ok : ∀ k, k < 0 → parseFieldDescriptor (TJ7 k).2.2.1 = some (tyJ7 k) := by decide +kernel
abbrev cJ7_copyOf_1904c : ByteArray := prog_27_method_119_code
def yJ7_copyOf_1904c : MethodName := ⟨RJ7, "copyOf", "([Ljava/lang/Object;I)[Ljava/lang/Object;"⟩
abbrev cJ7_copyOf_6403c : ByteArray := prog_27_method_120_code
def yJ7_copyOf_6403c : MethodName := ⟨RJ7, "copyOf", "([Ljava/lang/Object;ILjava/lang/Class;)[Ljava/lang/Object;"⟩
def RJx5ef63 : String := "java/util/Collection"
def TJx5ef63 : u_T := fun k => match k with
  | _ => ("", "", "", false)
def tyJx5ef63 : Nat → FieldType := fun k => match k with
  | _ => .int
abbrev wsJx5ef630 : List Cond := u_ws RJx5ef63 TJx5ef63 0
theorem nmJx5ef63 : ∀ a, a < 0 → ∀ b, b < 0 → a ≠ b → (TJx5ef63 a).2.1 ≠ (TJx5ef63 b).2.1 := by decide +kernel
theorem tyJx5ef63_ok : ∀ k, k < 0 → parseFieldDescriptor (TJx5ef63 k).2.2.1 = some (tyJx5ef63 k) := by decide +kernel
def RJxbd725 : String := "java/util/List"
def TJxbd725 : u_T := fun k => match k with
  | _ => ("", "", "", false)
def tyJxbd725 : Nat → FieldType := fun k => match k with
  | _ => .int
abbrev wsJxbd7250 : List Cond := u_ws RJxbd725 TJxbd725 0
theorem nmJxbd725 : ∀ a, a < 0 → ∀ b, b < 0 → a ≠ b → (TJxbd725 a).2.1 ≠ (TJxbd725 b).2.1 := by decide +kernel
theorem tyJxbd725_ok : ∀ k, k < 0 → parseFieldDescriptor (TJxbd725 k).2.2.1 = some (tyJxbd725 k) := by decide +kernel
def RJ15 : String := "java/util/Objects"
def TJ15 : u_T := fun k => match k with
  | _ => ("", "", "", false)
def tyJ15 : Nat → FieldType := fun k => match k with
  | _ => .int
abbrev wsJ150 : List Cond := u_ws RJ15 TJ15 0
theorem nmJ15 : ∀ a, a < 0 → ∀ b, b < 0 → a ≠ b → (TJ15 a).2.1 ≠ (TJ15 b).2.1 := by decide +kernel
theorem tyJ15_ok : ∀ k, k < 0 → parseFieldDescriptor (TJ15 k).2.2.1 = some (tyJ15 k) := by decide +kernel
abbrev cJ15_checkIndex_7cf53 : ByteArray := prog_30_method_17_code
def yJ15_checkIndex_7cf53 : MethodName := ⟨RJ15, "checkIndex", "(II)I"⟩
def RJxf0a74 : String := "java/util/RandomAccess"
def TJxf0a74 : u_T := fun k => match k with
  | _ => ("", "", "", false)
def tyJxf0a74 : Nat → FieldType := fun k => match k with
  | _ => .int
abbrev wsJxf0a740 : List Cond := u_ws RJxf0a74 TJxf0a74 0
theorem nmJxf0a74 : ∀ a, a < 0 → ∀ b, b < 0 → a ≠ b → (TJxf0a74 a).2.1 ≠ (TJxf0a74 b).2.1 := by decide +kernel
theorem tyJxf0a74_ok : ∀ k, k < 0 → parseFieldDescriptor (TJxf0a74 k).2.2.1 = some (tyJxf0a74 k) := by decide +kernel
def RJxa66e6 : String := "java/util/SequencedCollection"
def TJxa66e6 : u_T := fun k => match k with
  | _ => ("", "", "", false)
def tyJxa66e6 : Nat → FieldType := fun k => match k with
  | _ => .int
abbrev wsJxa66e60 : List Cond := u_ws RJxa66e6 TJxa66e6 0
theorem nmJxa66e6 : ∀ a, a < 0 → ∀ b, b < 0 → a ≠ b → (TJxa66e6 a).2.1 ≠ (TJxa66e6 b).2.1 := by decide +kernel
theorem tyJxa66e6_ok : ∀ k, k < 0 → parseFieldDescriptor (TJxa66e6 k).2.2.1 = some (tyJxa66e6 k) := by decide +kernel
def RJ8 : String := "jdk/internal/util/ArraysSupport"
def TJ8 : u_T := fun k => match k with
  | _ => ("", "", "", false)
def tyJ8 : Nat → FieldType := fun k => match k with
  | _ => .int
abbrev wsJ80 : List Cond := u_ws RJ8 TJ8 0
theorem nmJ8 : ∀ a, a < 0 → ∀ b, b < 0 → a ≠ b → (TJ8 a).2.1 ≠ (TJ8 b).2.1 := by decide +kernel
theorem tyJ8_ok : ∀ k, k < 0 → parseFieldDescriptor (TJ8 k).2.2.1 = some (tyJ8 k) := by decide +kernel
abbrev cJ8_newLength_cabcc : ByteArray := prog_33_method_27_code
def yJ8_newLength_cabcc : MethodName := ⟨RJ8, "newLength", "(III)I"⟩
abbrev cJ8_hugeLength_7cf53 : ByteArray := prog_33_method_28_code
def yJ8_hugeLength_7cf53 : MethodName := ⟨RJ8, "hugeLength", "(II)I"⟩
def RJ3 : String := "jdk/internal/util/Preconditions"
def TJ3 : u_T := fun k => match k with
  | _ => ("", "", "", false)
def tyJ3 : Nat → FieldType := fun k => match k with
  | _ => .int
abbrev wsJ30 : List Cond := u_ws RJ3 TJ3 0
theorem nmJ3 : ∀ a, a < 0 → ∀ b, b < 0 → a ≠ b → (TJ3 a).2.1 ≠ (TJ3 b).2.1 := by decide +kernel
theorem tyJ3_ok : ∀ k, k < 0 → parseFieldDescriptor (TJ3 k).2.2.1 = some (tyJ3 k) := by decide +kernel
abbrev cJ3_checkIndex_8e157 : ByteArray := prog_34_method_11_code
def yJ3_checkIndex_8e157 : MethodName := ⟨RJ3, "checkIndex", "(IILjava/util/function/BiFunction;)I"⟩
def RL : String := "HookUpsLaw"
abbrev cL_law : ByteArray := code
def yL_law : MethodName := ⟨RL, "law", "([I)Z"⟩
abbrev vwCl : List vw_C := [(RJx4a65c, TJx4a65c, 3), (RX0, TX0, 5), (RX1, TX1, 4), (RX2, TX2, 7), (RX3, TX3, 7), (RX4, TX4, 4), (RX5, TX5, 8), (RX6, TX6, 12), (RX7, TX7, 3), (RX8, TX8, 20), (RX9, TX9, 4), (RX10, TX10, 5), (RX11, TX11, 6), (RX12, TX12, 28)]
