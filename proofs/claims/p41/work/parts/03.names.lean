def RX0 : String := "TeaRegatta$Bay"
def TX0 : u_T := fun k => match k with
  | 0 => ("TeaRegatta$Bay", "teller", "LTeaRegatta$RuleTeller;", true)
  | 1 => ("TeaRegatta$Bay", "becalmed", "[I", true)
  | 2 => ("TeaRegatta$Bay", "becalmedBefore", "[I", true)
  | 3 => ("TeaRegatta$Bay", "visits", "[I", true)
  | 4 => ("TeaRegatta$Bay", "column", "[I", true)
  | 5 => ("TeaRegatta$Bay", "row", "[I", true)
  | 6 => ("TeaRegatta$Bay", "leaf", "[I", true)
  | 7 => ("TeaRegatta$Bay", "way", "[I", true)
  | 8 => ("TeaRegatta$Bay", "points", "[I", true)
  | 9 => ("TeaRegatta$Bay", "sips", "[I", true)
  | 10 => ("TeaRegatta$Bay", "book", "LTeaRegatta$Book;", false)
  | 11 => ("TeaRegatta$Bay", "windDirection", "I", false)
  | 12 => ("TeaRegatta$Bay", "windForce", "I", false)
  | _ => ("TeaRegatta$Bay", "hour", "I", false)
def tyX0 : Nat → FieldType := fun k => match k with
  | 0 => .object "TeaRegatta$RuleTeller"
  | 1 => .array .int
  | 2 => .array .int
  | 3 => .array .int
  | 4 => .array .int
  | 5 => .array .int
  | 6 => .array .int
  | 7 => .array .int
  | 8 => .array .int
  | 9 => .array .int
  | 10 => .object "TeaRegatta$Book"
  | 11 => .int
  | 12 => .int
  | _ => .int
abbrev wsX00 : List Cond := u_ws RX0 TX0 14
theorem nmX0 : ∀ a, a < 14 → ∀ b, b < 14 → a ≠ b → (TX0 a).2.1 ≠ (TX0 b).2.1 := by decide +kernel
theorem tyX0_ok : ∀ k, k < 14 → parseFieldDescriptor (TX0 k).2.2.1 = some (tyX0 k) := by decide +kernel
abbrev cX0_init : ByteArray := prog_2_method_1_code
def yX0_init : MethodName := ⟨RX0, "<init>", "(LTeaRegatta$Book;LTeaRegatta$RuleTeller;)V"⟩
abbrev cX0_begin : ByteArray := prog_2_method_2_code
def yX0_begin : MethodName := ⟨RX0, "begin", "(LTeaRegatta$Book;)V"⟩
abbrev cX0_aroma : ByteArray := prog_2_method_4_code
def yX0_aroma : MethodName := ⟨RX0, "aroma", "(II)I"⟩
abbrev cX0_steamingKettleAt : ByteArray := prog_2_method_5_code
def yX0_steamingKettleAt : MethodName := ⟨RX0, "steamingKettleAt", "(II)I"⟩
abbrev cX0_isAtHome : ByteArray := prog_2_method_6_code
def yX0_isAtHome : MethodName := ⟨RX0, "isAtHome", "(I)Z"⟩
abbrev cX0_wayOfAnHour : ByteArray := prog_2_method_7_code
def yX0_wayOfAnHour : MethodName := ⟨RX0, "wayOfAnHour", "(I)I"⟩
abbrev cX0_isAhead : ByteArray := prog_2_method_8_code
def yX0_isAhead : MethodName := ⟨RX0, "isAhead", "(II)Z"⟩
abbrev cX0_smell : ByteArray := prog_2_method_9_code
def yX0_smell : MethodName := ⟨RX0, "smell", "(II)I"⟩
abbrev cX0_tell : ByteArray := prog_2_method_10_code
def yX0_tell : MethodName := ⟨RX0, "tell", "(I)I"⟩
abbrev cX0_passHours : ByteArray := prog_2_method_11_code
def yX0_passHours : MethodName := ⟨RX0, "passHours", "(I)I"⟩
abbrev cX0_passHour : ByteArray := prog_2_method_12_code
def yX0_passHour : MethodName := ⟨RX0, "passHour", "()I"⟩
abbrev cX0_sailClipper : ByteArray := prog_2_method_13_code
def yX0_sailClipper : MethodName := ⟨RX0, "sailClipper", "(I)I"⟩
abbrev cX0_moves : ByteArray := prog_2_method_14_code
def yX0_moves : MethodName := ⟨RX0, "moves", "(II)Z"⟩
abbrev cX0_paySip : ByteArray := prog_2_method_15_code
def yX0_paySip : MethodName := ⟨RX0, "paySip", "(I)V"⟩
abbrev cX0_winAtHome : ByteArray := prog_2_method_16_code
def yX0_winAtHome : MethodName := ⟨RX0, "winAtHome", "(I)I"⟩
abbrev cX0_takeLeaf : ByteArray := prog_2_method_17_code
def yX0_takeLeaf : MethodName := ⟨RX0, "takeLeaf", "(I)V"⟩
abbrev cX0_eastwards : ByteArray := prog_2_method_18_code
def yX0_eastwards : MethodName := ⟨RX0, "eastwards", "(I)I"⟩
abbrev cX0_southwards : ByteArray := prog_2_method_19_code
def yX0_southwards : MethodName := ⟨RX0, "southwards", "(I)I"⟩
def RX1 : String := "TeaRegatta$Book"
def TX1 : u_T := fun k => match k with
  | 0 => ("TeaRegatta$Book", "rules", "LTeaRegatta$Rules;", true)
  | 1 => ("TeaRegatta$Book", "kettleColumn", "[I", true)
  | 2 => ("TeaRegatta$Book", "kettleRow", "[I", true)
  | 3 => ("TeaRegatta$Book", "kettleSteam", "[I", true)
  | 4 => ("TeaRegatta$Book", "customsColumn", "[I", true)
  | 5 => ("TeaRegatta$Book", "customsRow", "[I", true)
  | 6 => ("TeaRegatta$Book", "name", "[J", true)
  | 7 => ("TeaRegatta$Book", "homeColumn", "[I", true)
  | 8 => ("TeaRegatta$Book", "homeRow", "[I", true)
  | 9 => ("TeaRegatta$Book", "noses", "[I", true)
  | 10 => ("TeaRegatta$Book", "ruleStart", "[I", true)
  | 11 => ("TeaRegatta$Book", "ruleEnd", "[I", true)
  | 12 => ("TeaRegatta$Book", "columns", "I", false)
  | 13 => ("TeaRegatta$Book", "rows", "I", false)
  | 14 => ("TeaRegatta$Book", "kettleCount", "I", false)
  | 15 => ("TeaRegatta$Book", "customsCount", "I", false)
  | _ => ("TeaRegatta$Book", "clipperCount", "I", false)
def tyX1 : Nat → FieldType := fun k => match k with
  | 0 => .object "TeaRegatta$Rules"
  | 1 => .array .int
  | 2 => .array .int
  | 3 => .array .int
  | 4 => .array .int
  | 5 => .array .int
  | 6 => .array .long
  | 7 => .array .int
  | 8 => .array .int
  | 9 => .array .int
  | 10 => .array .int
  | 11 => .array .int
  | 12 => .int
  | 13 => .int
  | 14 => .int
  | 15 => .int
  | _ => .int
abbrev wsX10 : List Cond := u_ws RX1 TX1 17
theorem nmX1 : ∀ a, a < 17 → ∀ b, b < 17 → a ≠ b → (TX1 a).2.1 ≠ (TX1 b).2.1 := by decide +kernel
theorem tyX1_ok : ∀ k, k < 17 → parseFieldDescriptor (TX1 k).2.2.1 = some (tyX1 k) := by decide +kernel
abbrev cX1_init : ByteArray := prog_3_method_1_code
def yX1_init : MethodName := ⟨RX1, "<init>", "()V"⟩
abbrev cX1_empty : ByteArray := prog_3_method_2_code
def yX1_empty : MethodName := ⟨RX1, "empty", "()V"⟩
abbrev cX1_addKettle : ByteArray := prog_3_method_3_code
def yX1_addKettle : MethodName := ⟨RX1, "addKettle", "(III)V"⟩
abbrev cX1_addCustoms : ByteArray := prog_3_method_4_code
def yX1_addCustoms : MethodName := ⟨RX1, "addCustoms", "(II)V"⟩
abbrev cX1_addClipper : ByteArray := prog_3_method_5_code
def yX1_addClipper : MethodName := ⟨RX1, "addClipper", "(JIIII)V"⟩
abbrev cX1_hasCell : ByteArray := prog_3_method_6_code
def yX1_hasCell : MethodName := ⟨RX1, "hasCell", "(II)Z"⟩
abbrev cX1_kettleAt : ByteArray := prog_3_method_7_code
def yX1_kettleAt : MethodName := ⟨RX1, "kettleAt", "(II)I"⟩
abbrev cX1_hasCustomsAt : ByteArray := prog_3_method_8_code
def yX1_hasCustomsAt : MethodName := ⟨RX1, "hasCustomsAt", "(II)Z"⟩
abbrev cX1_hasName : ByteArray := prog_3_method_9_code
def yX1_hasName : MethodName := ⟨RX1, "hasName", "(J)Z"⟩
def RX2 : String := "TeaRegatta$BookReader"
def TX2 : u_T := fun k => match k with
  | 0 => ("TeaRegatta$BookReader", "tokens", "LTeaRegatta$Tokens;", true)
  | 1 => ("TeaRegatta$BookReader", "ruleReader", "LTeaRegatta$RuleReader;", true)
  | 2 => ("TeaRegatta$BookReader", "error", "I", false)
  | 3 => ("TeaRegatta$BookReader", "errorPosition", "I", false)
  | 4 => ("TeaRegatta$BookReader", "cellColumn", "I", false)
  | _ => ("TeaRegatta$BookReader", "cellRow", "I", false)
def tyX2 : Nat → FieldType := fun k => match k with
  | 0 => .object "TeaRegatta$Tokens"
  | 1 => .object "TeaRegatta$RuleReader"
  | 2 => .int
  | 3 => .int
  | 4 => .int
  | _ => .int
abbrev wsX20 : List Cond := u_ws RX2 TX2 6
theorem nmX2 : ∀ a, a < 6 → ∀ b, b < 6 → a ≠ b → (TX2 a).2.1 ≠ (TX2 b).2.1 := by decide +kernel
theorem tyX2_ok : ∀ k, k < 6 → parseFieldDescriptor (TX2 k).2.2.1 = some (tyX2 k) := by decide +kernel
abbrev cX2_init : ByteArray := prog_4_method_1_code
def yX2_init : MethodName := ⟨RX2, "<init>", "(LTeaRegatta$Tape;)V"⟩
abbrev cX2_read : ByteArray := prog_4_method_2_code
def yX2_read : MethodName := ⟨RX2, "read", "(LTeaRegatta$Book;)I"⟩
abbrev cX2_note : ByteArray := prog_4_method_3_code
def yX2_note : MethodName := ⟨RX2, "note", "(I)V"⟩
abbrev cX2_readBay : ByteArray := prog_4_method_4_code
def yX2_readBay : MethodName := ⟨RX2, "readBay", "(LTeaRegatta$Book;I)Z"⟩
abbrev cX2_readKettle : ByteArray := prog_4_method_5_code
def yX2_readKettle : MethodName := ⟨RX2, "readKettle", "(LTeaRegatta$Book;)Z"⟩
abbrev cX2_readCustoms : ByteArray := prog_4_method_6_code
def yX2_readCustoms : MethodName := ⟨RX2, "readCustoms", "(LTeaRegatta$Book;)Z"⟩
abbrev cX2_readClipper : ByteArray := prog_4_method_7_code
def yX2_readClipper : MethodName := ⟨RX2, "readClipper", "(LTeaRegatta$Book;)Z"⟩
abbrev cX2_readCell : ByteArray := prog_4_method_8_code
def yX2_readCell : MethodName := ⟨RX2, "readCell", "(LTeaRegatta$Book;Z)Z"⟩
abbrev cX2_takeNumber : ByteArray := prog_4_method_9_code
def yX2_takeNumber : MethodName := ⟨RX2, "takeNumber", "(II)I"⟩
def RX3 : String := "TeaRegatta$RuleReader"
def TX3 : u_T := fun k => match k with
  | _ => ("TeaRegatta$RuleReader", "tokens", "LTeaRegatta$Tokens;", true)
def tyX3 : Nat → FieldType := fun k => match k with
  | _ => .object "TeaRegatta$Tokens"
abbrev wsX30 : List Cond := u_ws RX3 TX3 1
theorem nmX3 : ∀ a, a < 1 → ∀ b, b < 1 → a ≠ b → (TX3 a).2.1 ≠ (TX3 b).2.1 := by decide +kernel
theorem tyX3_ok : ∀ k, k < 1 → parseFieldDescriptor (TX3 k).2.2.1 = some (tyX3 k) := by decide +kernel
abbrev cX3_init : ByteArray := prog_5_method_1_code
def yX3_init : MethodName := ⟨RX3, "<init>", "(LTeaRegatta$Tokens;)V"⟩
abbrev cX3_readRule : ByteArray := prog_5_method_2_code
def yX3_readRule : MethodName := ⟨RX3, "readRule", "(LTeaRegatta$Rules;I)Z"⟩
abbrev cX3_readJoined : ByteArray := prog_5_method_3_code
def yX3_readJoined : MethodName := ⟨RX3, "readJoined", "(LTeaRegatta$Rules;II)Z"⟩
abbrev cX3_readValue : ByteArray := prog_5_method_4_code
def yX3_readValue : MethodName := ⟨RX3, "readValue", "(LTeaRegatta$Rules;I)Z"⟩
abbrev cX3_levelOf : ByteArray := prog_5_method_5_code
def yX3_levelOf : MethodName := ⟨RX3, "levelOf", "(I)I"⟩
def RX4 : String := "TeaRegatta$RuleTeller"
def TX4 : u_T := fun k => match k with
  | 0 => ("TeaRegatta$RuleTeller", "measures", "[I", true)
  | 1 => ("TeaRegatta$RuleTeller", "stack", "[I", true)
  | _ => ("TeaRegatta$RuleTeller", "height", "I", false)
def tyX4 : Nat → FieldType := fun k => match k with
  | 0 => .array .int
  | 1 => .array .int
  | _ => .int
abbrev wsX40 : List Cond := u_ws RX4 TX4 3
theorem nmX4 : ∀ a, a < 3 → ∀ b, b < 3 → a ≠ b → (TX4 a).2.1 ≠ (TX4 b).2.1 := by decide +kernel
theorem tyX4_ok : ∀ k, k < 3 → parseFieldDescriptor (TX4 k).2.2.1 = some (tyX4 k) := by decide +kernel
abbrev cX4_init : ByteArray := prog_6_method_1_code
def yX4_init : MethodName := ⟨RX4, "<init>", "()V"⟩
abbrev cX4_measure : ByteArray := prog_6_method_2_code
def yX4_measure : MethodName := ⟨RX4, "measure", "(II)V"⟩
abbrev cX4_number : ByteArray := prog_6_method_3_code
def yX4_number : MethodName := ⟨RX4, "number", "(LTeaRegatta$Rules;II)I"⟩
abbrev cX4_push : ByteArray := prog_6_method_4_code
def yX4_push : MethodName := ⟨RX4, "push", "(I)V"⟩
abbrev cX4_pop : ByteArray := prog_6_method_5_code
def yX4_pop : MethodName := ⟨RX4, "pop", "()I"⟩
abbrev cX4_joined : ByteArray := prog_6_method_6_code
def yX4_joined : MethodName := ⟨RX4, "joined", "(III)I"⟩
def RX5 : String := "TeaRegatta$Rules"
def TX5 : u_T := fun k => match k with
  | 0 => ("TeaRegatta$Rules", "kinds", "[I", true)
  | 1 => ("TeaRegatta$Rules", "numbers", "[I", true)
  | _ => ("TeaRegatta$Rules", "count", "I", false)
def tyX5 : Nat → FieldType := fun k => match k with
  | 0 => .array .int
  | 1 => .array .int
  | _ => .int
abbrev wsX50 : List Cond := u_ws RX5 TX5 3
theorem nmX5 : ∀ a, a < 3 → ∀ b, b < 3 → a ≠ b → (TX5 a).2.1 ≠ (TX5 b).2.1 := by decide +kernel
theorem tyX5_ok : ∀ k, k < 3 → parseFieldDescriptor (TX5 k).2.2.1 = some (tyX5 k) := by decide +kernel
abbrev cX5_init : ByteArray := prog_7_method_1_code
def yX5_init : MethodName := ⟨RX5, "<init>", "()V"⟩
abbrev cX5_add : ByteArray := prog_7_method_2_code
def yX5_add : MethodName := ⟨RX5, "add", "(II)V"⟩
def RX6 : String := "TeaRegatta$Tape"
def TX6 : u_T := fun k => match k with
  | 0 => ("TeaRegatta$Tape", "bytes", "[B", true)
  | _ => ("TeaRegatta$Tape", "length", "I", false)
def tyX6 : Nat → FieldType := fun k => match k with
  | 0 => .array .byte
  | _ => .int
abbrev wsX60 : List Cond := u_ws RX6 TX6 2
theorem nmX6 : ∀ a, a < 2 → ∀ b, b < 2 → a ≠ b → (TX6 a).2.1 ≠ (TX6 b).2.1 := by decide +kernel
theorem tyX6_ok : ∀ k, k < 2 → parseFieldDescriptor (TX6 k).2.2.1 = some (tyX6 k) := by decide +kernel
abbrev cX6_init : ByteArray := prog_8_method_1_code
def yX6_init : MethodName := ⟨RX6, "<init>", "()V"⟩
abbrev cX6_append : ByteArray := prog_8_method_2_code
def yX6_append : MethodName := ⟨RX6, "append", "(I)V"⟩
abbrev cX6_byteAt : ByteArray := prog_8_method_3_code
def yX6_byteAt : MethodName := ⟨RX6, "byteAt", "(I)I"⟩
def RX7 : String := "TeaRegatta$Tokens"
def TX7 : u_T := fun k => match k with
  | 0 => ("TeaRegatta$Tokens", "tape", "LTeaRegatta$Tape;", true)
  | 1 => ("TeaRegatta$Tokens", "words", "[J", true)
  | 2 => ("TeaRegatta$Tokens", "kinds", "[I", true)
  | 3 => ("TeaRegatta$Tokens", "starts", "[I", true)
  | 4 => ("TeaRegatta$Tokens", "values", "[J", true)
  | 5 => ("TeaRegatta$Tokens", "count", "I", false)
  | _ => ("TeaRegatta$Tokens", "next", "I", false)
def tyX7 : Nat → FieldType := fun k => match k with
  | 0 => .object "TeaRegatta$Tape"
  | 1 => .array .long
  | 2 => .array .int
  | 3 => .array .int
  | 4 => .array .long
  | 5 => .int
  | _ => .int
abbrev wsX70 : List Cond := u_ws RX7 TX7 7
theorem nmX7 : ∀ a, a < 7 → ∀ b, b < 7 → a ≠ b → (TX7 a).2.1 ≠ (TX7 b).2.1 := by decide +kernel
theorem tyX7_ok : ∀ k, k < 7 → parseFieldDescriptor (TX7 k).2.2.1 = some (tyX7 k) := by decide +kernel
abbrev cX7_init : ByteArray := prog_9_method_1_code
def yX7_init : MethodName := ⟨RX7, "<init>", "(LTeaRegatta$Tape;)V"⟩
abbrev cX7_cutTape : ByteArray := prog_9_method_2_code
def yX7_cutTape : MethodName := ⟨RX7, "cutTape", "()V"⟩
abbrev cX7_kindHere : ByteArray := prog_9_method_3_code
def yX7_kindHere : MethodName := ⟨RX7, "kindHere", "()I"⟩
abbrev cX7_startHere : ByteArray := prog_9_method_4_code
def yX7_startHere : MethodName := ⟨RX7, "startHere", "()I"⟩
abbrev cX7_valueHere : ByteArray := prog_9_method_5_code
def yX7_valueHere : MethodName := ⟨RX7, "valueHere", "()J"⟩
abbrev cX7_skip : ByteArray := prog_9_method_6_code
def yX7_skip : MethodName := ⟨RX7, "skip", "()V"⟩
abbrev cX7_take : ByteArray := prog_9_method_7_code
def yX7_take : MethodName := ⟨RX7, "take", "(I)Z"⟩
abbrev cX7_behindBlanks : ByteArray := prog_9_method_8_code
def yX7_behindBlanks : MethodName := ⟨RX7, "behindBlanks", "(I)I"⟩
abbrev cX7_endOfToken : ByteArray := prog_9_method_9_code
def yX7_endOfToken : MethodName := ⟨RX7, "endOfToken", "(I)I"⟩
abbrev cX7_valueOf : ByteArray := prog_9_method_10_code
def yX7_valueOf : MethodName := ⟨RX7, "valueOf", "(II)J"⟩
abbrev cX7_kindOf : ByteArray := prog_9_method_11_code
def yX7_kindOf : MethodName := ⟨RX7, "kindOf", "(IIJ)I"⟩
abbrev cX7_kindOfWord : ByteArray := prog_9_method_12_code
def yX7_kindOfWord : MethodName := ⟨RX7, "kindOfWord", "(J)I"⟩
abbrev cX7_wordWith : ByteArray := prog_9_method_13_code
def yX7_wordWith : MethodName := ⟨RX7, "wordWith", "(JI)J"⟩
abbrev cX7_isLetter : ByteArray := prog_9_method_14_code
def yX7_isLetter : MethodName := ⟨RX7, "isLetter", "(I)Z"⟩
abbrev cX7_isDigit : ByteArray := prog_9_method_15_code
def yX7_isDigit : MethodName := ⟨RX7, "isDigit", "(I)Z"⟩
def RX8 : String := "TeaRegatta"
def TX8 : u_T := fun k => match k with
  | 0 => ("TeaRegatta", "tape", "LTeaRegatta$Tape;", true)
  | 1 => ("TeaRegatta", "reader", "LTeaRegatta$BookReader;", true)
  | 2 => ("TeaRegatta", "bay", "LTeaRegatta$Bay;", true)
  | 3 => ("TeaRegatta", "trial", "LTeaRegatta$Bay;", true)
  | 4 => ("TeaRegatta", "book", "LTeaRegatta$Book;", false)
  | 5 => ("TeaRegatta", "spare", "LTeaRegatta$Book;", false)
  | _ => ("TeaRegatta", "errorPosition", "I", false)
def tyX8 : Nat → FieldType := fun k => match k with
  | 0 => .object "TeaRegatta$Tape"
  | 1 => .object "TeaRegatta$BookReader"
  | 2 => .object "TeaRegatta$Bay"
  | 3 => .object "TeaRegatta$Bay"
  | 4 => .object "TeaRegatta$Book"
  | 5 => .object "TeaRegatta$Book"
  | _ => .int
abbrev wsX80 : List Cond := u_ws RX8 TX8 7
theorem nmX8 : ∀ a, a < 7 → ∀ b, b < 7 → a ≠ b → (TX8 a).2.1 ≠ (TX8 b).2.1 := by decide +kernel
theorem tyX8_ok : ∀ k, k < 7 → parseFieldDescriptor (TX8 k).2.2.1 = some (tyX8 k) := by decide +kernel
abbrev cX8_init : ByteArray := prog_1_method_1_code
def yX8_init : MethodName := ⟨RX8, "<init>", "()V"⟩
abbrev cX8_feed : ByteArray := prog_1_method_2_code
def yX8_feed : MethodName := ⟨RX8, "feed", "(IIIII)I"⟩
abbrev cX8_trim : ByteArray := prog_1_method_3_code
def yX8_trim : MethodName := ⟨RX8, "trim", "(I)I"⟩
abbrev cX8_teach : ByteArray := prog_1_method_4_code
def yX8_teach : MethodName := ⟨RX8, "teach", "()I"⟩
abbrev cX8_columns : ByteArray := prog_1_method_6_code
def yX8_columns : MethodName := ⟨RX8, "columns", "()I"⟩
abbrev cX8_rows : ByteArray := prog_1_method_7_code
def yX8_rows : MethodName := ⟨RX8, "rows", "()I"⟩
abbrev cX8_kettles : ByteArray := prog_1_method_8_code
def yX8_kettles : MethodName := ⟨RX8, "kettles", "()I"⟩
abbrev cX8_clippers : ByteArray := prog_1_method_9_code
def yX8_clippers : MethodName := ⟨RX8, "clippers", "()I"⟩
abbrev cX8_hasCustoms : ByteArray := prog_1_method_10_code
def yX8_hasCustoms : MethodName := ⟨RX8, "hasCustoms", "(II)Z"⟩
abbrev cX8_hasSteam : ByteArray := prog_1_method_11_code
def yX8_hasSteam : MethodName := ⟨RX8, "hasSteam", "(II)Z"⟩
abbrev cX8_aromaAt : ByteArray := prog_1_method_12_code
def yX8_aromaAt : MethodName := ⟨RX8, "aromaAt", "(II)I"⟩
abbrev cX8_becalmedFor : ByteArray := prog_1_method_13_code
def yX8_becalmedFor : MethodName := ⟨RX8, "becalmedFor", "(I)I"⟩
abbrev cX8_visitsTo : ByteArray := prog_1_method_14_code
def yX8_visitsTo : MethodName := ⟨RX8, "visitsTo", "(I)I"⟩
abbrev cX8_windDirection : ByteArray := prog_1_method_15_code
def yX8_windDirection : MethodName := ⟨RX8, "windDirection", "()I"⟩
abbrev cX8_windForce : ByteArray := prog_1_method_16_code
def yX8_windForce : MethodName := ⟨RX8, "windForce", "()I"⟩
abbrev cX8_hour : ByteArray := prog_1_method_17_code
def yX8_hour : MethodName := ⟨RX8, "hour", "()I"⟩
abbrev cX8_columnOf : ByteArray := prog_1_method_18_code
def yX8_columnOf : MethodName := ⟨RX8, "columnOf", "(I)I"⟩
abbrev cX8_rowOf : ByteArray := prog_1_method_19_code
def yX8_rowOf : MethodName := ⟨RX8, "rowOf", "(I)I"⟩
abbrev cX8_isHome : ByteArray := prog_1_method_20_code
def yX8_isHome : MethodName := ⟨RX8, "isHome", "(I)Z"⟩
abbrev cX8_leafOf : ByteArray := prog_1_method_21_code
def yX8_leafOf : MethodName := ⟨RX8, "leafOf", "(I)I"⟩
abbrev cX8_wayOf : ByteArray := prog_1_method_22_code
def yX8_wayOf : MethodName := ⟨RX8, "wayOf", "(I)I"⟩
abbrev cX8_speedOf : ByteArray := prog_1_method_23_code
def yX8_speedOf : MethodName := ⟨RX8, "speedOf", "(I)I"⟩
abbrev cX8_pointsOf : ByteArray := prog_1_method_24_code
def yX8_pointsOf : MethodName := ⟨RX8, "pointsOf", "(I)I"⟩
abbrev cX8_sipsOf : ByteArray := prog_1_method_25_code
def yX8_sipsOf : MethodName := ⟨RX8, "sipsOf", "(I)I"⟩
abbrev cX8_smells : ByteArray := prog_1_method_26_code
def yX8_smells : MethodName := ⟨RX8, "smells", "(II)I"⟩
abbrev cX8_ruleTells : ByteArray := prog_1_method_27_code
def yX8_ruleTells : MethodName := ⟨RX8, "ruleTells", "(I)I"⟩
abbrev cX8_wouldStay : ByteArray := prog_1_method_28_code
def yX8_wouldStay : MethodName := ⟨RX8, "wouldStay", "(I)Z"⟩
abbrev cX8_steersTo : ByteArray := prog_1_method_29_code
def yX8_steersTo : MethodName := ⟨RX8, "steersTo", "(I)I"⟩
abbrev cX8_leader : ByteArray := prog_1_method_30_code
def yX8_leader : MethodName := ⟨RX8, "leader", "()I"⟩
abbrev cX8_setWind : ByteArray := prog_1_method_31_code
def yX8_setWind : MethodName := ⟨RX8, "setWind", "(II)I"⟩
abbrev cX8_jettison : ByteArray := prog_1_method_32_code
def yX8_jettison : MethodName := ⟨RX8, "jettison", "(II)I"⟩
abbrev cX8_calmKettle : ByteArray := prog_1_method_33_code
def yX8_calmKettle : MethodName := ⟨RX8, "calmKettle", "(II)I"⟩
abbrev cX8_sail : ByteArray := prog_1_method_34_code
def yX8_sail : MethodName := ⟨RX8, "sail", "(I)I"⟩
abbrev cX8_meanPoints : ByteArray := prog_1_method_38_code
def yX8_meanPoints : MethodName := ⟨RX8, "meanPoints", "()D"⟩
abbrev cX8_needCell : ByteArray := prog_1_method_44_code
def yX8_needCell : MethodName := ⟨RX8, "needCell", "(II)V"⟩
abbrev cX8_needKettle : ByteArray := prog_1_method_45_code
def yX8_needKettle : MethodName := ⟨RX8, "needKettle", "(I)V"⟩
abbrev cX8_needClipper : ByteArray := prog_1_method_46_code
def yX8_needClipper : MethodName := ⟨RX8, "needClipper", "(I)V"⟩
abbrev cX8_needDirection : ByteArray := prog_1_method_47_code
def yX8_needDirection : MethodName := ⟨RX8, "needDirection", "(I)V"⟩
abbrev cX8_needHours : ByteArray := prog_1_method_48_code
def yX8_needHours : MethodName := ⟨RX8, "needHours", "(I)V"⟩
def RX9 : String := "TeaRegattaLaw$Rule"
def TX9 : u_T := fun k => match k with
  | 0 => ("TeaRegattaLaw$Rule", "does", "I", false)
  | 1 => ("TeaRegattaLaw$Rule", "number", "I", false)
  | _ => ("TeaRegattaLaw$Rule", "parts", "[LTeaRegattaLaw$Rule;", false)
def tyX9 : Nat → FieldType := fun k => match k with
  | 0 => .int
  | 1 => .int
  | _ => .array (.object "TeaRegattaLaw$Rule")
abbrev wsX90 : List Cond := u_ws RX9 TX9 3
theorem nmX9 : ∀ a, a < 3 → ∀ b, b < 3 → a ≠ b → (TX9 a).2.1 ≠ (TX9 b).2.1 := by decide +kernel
theorem tyX9_ok : ∀ k, k < 3 → parseFieldDescriptor (TX9 k).2.2.1 = some (tyX9 k) := by decide +kernel
abbrev cX9_init : ByteArray := prog_11_method_1_code
def yX9_init : MethodName := ⟨RX9, "<init>", "([III)V"⟩
abbrev cX9_write : ByteArray := prog_11_method_2_code
def yX9_write : MethodName := ⟨RX9, "write", "(Ljava/lang/StringBuilder;Z)V"⟩
abbrev cX9_of : ByteArray := prog_11_method_3_code
def yX9_of : MethodName := ⟨RX9, "of", "([I)I"⟩
def RX10 : String := "TeaRegattaLaw$Sim"
def TX10 : u_T := fun k => match k with
  | 0 => ("TeaRegattaLaw$Sim", "columns", "I", false)
  | 1 => ("TeaRegattaLaw$Sim", "rows", "I", false)
  | 2 => ("TeaRegattaLaw$Sim", "hour", "I", false)
  | 3 => ("TeaRegattaLaw$Sim", "wind", "I", false)
  | 4 => ("TeaRegattaLaw$Sim", "force", "I", false)
  | 5 => ("TeaRegattaLaw$Sim", "kettles", "[[I", false)
  | 6 => ("TeaRegattaLaw$Sim", "customs", "[[I", false)
  | 7 => ("TeaRegattaLaw$Sim", "clippers", "[[I", false)
  | _ => ("TeaRegattaLaw$Sim", "rules", "[LTeaRegattaLaw$Rule;", false)
def tyX10 : Nat → FieldType := fun k => match k with
  | 0 => .int
  | 1 => .int
  | 2 => .int
  | 3 => .int
  | 4 => .int
  | 5 => .array (.array .int)
  | 6 => .array (.array .int)
  | 7 => .array (.array .int)
  | _ => .array (.object "TeaRegattaLaw$Rule")
abbrev wsX100 : List Cond := u_ws RX10 TX10 9
theorem nmX10 : ∀ a, a < 9 → ∀ b, b < 9 → a ≠ b → (TX10 a).2.1 ≠ (TX10 b).2.1 := by decide +kernel
theorem tyX10_ok : ∀ k, k < 9 → parseFieldDescriptor (TX10 k).2.2.1 = some (tyX10 k) := by decide +kernel
abbrev cX10_with : ByteArray := prog_12_method_1_code
def yX10_with : MethodName := ⟨RX10, "with", "([[I[I)[[I"⟩
abbrev cX10_at : ByteArray := prog_12_method_2_code
def yX10_at : MethodName := ⟨RX10, "at", "([[III)I"⟩
abbrev cX10_init : ByteArray := prog_12_method_3_code
def yX10_init : MethodName := ⟨RX10, "<init>", "([I)V"⟩
abbrev cX10_text : ByteArray := prog_12_method_4_code
def yX10_text : MethodName := ⟨RX10, "text", "()Ljava/lang/StringBuilder;"⟩
abbrev cX10_aroma : ByteArray := prog_12_method_5_code
def yX10_aroma : MethodName := ⟨RX10, "aroma", "(II)I"⟩
abbrev cX10_smell : ByteArray := prog_12_method_6_code
def yX10_smell : MethodName := ⟨RX10, "smell", "(II)I"⟩
abbrev cX10_tells : ByteArray := prog_12_method_7_code
def yX10_tells : MethodName := ⟨RX10, "tells", "(I)I"⟩
abbrev cX10_speed : ByteArray := prog_12_method_8_code
def yX10_speed : MethodName := ⟨RX10, "speed", "(I)I"⟩
abbrev cX10_pass : ByteArray := prog_12_method_9_code
def yX10_pass : MethodName := ⟨RX10, "pass", "()I"⟩
abbrev cX10_behind : ByteArray := prog_12_method_10_code
def yX10_behind : MethodName := ⟨RX10, "behind", "(I)I"⟩
abbrev cX10_isSame : ByteArray := prog_12_method_12_code
def yX10_isSame : MethodName := ⟨RX10, "isSame", "(LTeaRegatta;)Z"⟩
def RX11 : String := "TeaRegattaModel$Book"
def TX11 : u_T := fun k => match k with
  | _ => ("", "", "", false)
def tyX11 : Nat → FieldType := fun k => match k with
  | _ => .int
abbrev wsX110 : List Cond := u_ws RX11 TX11 0
theorem nmX11 : ∀ a, a < 0 → ∀ b, b < 0 → a ≠ b → (TX11 a).2.1 ≠ (TX11 b).2.1 := by decide +kernel
theorem tyX11_ok : ∀ k, k < 0 → parseFieldDescriptor (TX11 k).2.2.1 = some (tyX11 k) := by decide +kernel
def RX12 : String := "TeaRegattaModel$Reader"
def TX12 : u_T := fun k => match k with
  | _ => ("", "", "", false)
def tyX12 : Nat → FieldType := fun k => match k with
  | _ => .int
abbrev wsX120 : List Cond := u_ws RX12 TX12 0
theorem nmX12 : ∀ a, a < 0 → ∀ b, b < 0 → a ≠ b → (TX12 a).2.1 ≠ (TX12 b).2.1 := by decide +kernel
theorem tyX12_ok : ∀ k, k < 0 → parseFieldDescriptor (TX12 k).2.2.1 = some (tyX12 k) := by decide +kernel
def RX13 : String := "TeaRegattaModel"
def TX13 : u_T := fun k => match k with
  | _ => ("", "", "", false)
def tyX13 : Nat → FieldType := fun k => match k with
  | _ => .int
abbrev wsX130 : List Cond := u_ws RX13 TX13 0
theorem nmX13 : ∀ a, a < 0 → ∀ b, b < 0 → a ≠ b → (TX13 a).2.1 ≠ (TX13 b).2.1 := by decide +kernel
theorem tyX13_ok : ∀ k, k < 0 → parseFieldDescriptor (TX13 k).2.2.1 = some (tyX13 k) := by decide +kernel
def RJ5 : String := "java/lang/AbstractStringBuilder"
def TJ5 : u_T := fun k => match k with
  | _ => ("", "", "", false)
def tyJ5 : Nat → FieldType := fun k => match k with
  | _ => .int
abbrev wsJ50 : List Cond := u_ws RJ5 TJ5 0
theorem nmJ5 : ∀ a, a < 0 → ∀ b, b < 0 → a ≠ b → (TJ5 a).2.1 ≠ (TJ5 b).2.1 := by decide +kernel
theorem tyJ5_ok : ∀ k, k < 0 → parseFieldDescriptor (TJ5 k).2.2.1 = some (tyJ5 k) := by decide +kernel
abbrev cJ5_init_d00df : ByteArray := prog_16_method_2_code
def yJ5_init_d00df : MethodName := ⟨RJ5, "<init>", "(I)V"⟩
abbrev cJ5_init_a7421 : ByteArray := prog_16_method_3_code
def yJ5_init_a7421 : MethodName := ⟨RJ5, "<init>", "(Ljava/lang/String;)V"⟩
abbrev cJ5_length_8abf5 : ByteArray := prog_16_method_6_code
def yJ5_length_8abf5 : MethodName := ⟨RJ5, "length", "()I"⟩
abbrev cJ5_ensureCapacityInternal_d00df : ByteArray := prog_16_method_9_code
def yJ5_ensureCapacityInternal_d00df : MethodName := ⟨RJ5, "ensureCapacityInternal", "(I)V"⟩
abbrev cJ5_newCapacity_0f7a4 : ByteArray := prog_16_method_10_code
def yJ5_newCapacity_0f7a4 : MethodName := ⟨RJ5, "newCapacity", "(I)I"⟩
abbrev cJ5_inflate_da8c8 : ByteArray := prog_16_method_11_code
def yJ5_inflate_da8c8 : MethodName := ⟨RJ5, "inflate", "()V"⟩
abbrev cJ5_charAt_5068e : ByteArray := prog_16_method_14_code
def yJ5_charAt_5068e : MethodName := ⟨RJ5, "charAt", "(I)C"⟩
abbrev cJ5_append_cf1ce : ByteArray := prog_16_method_22_code
def yJ5_append_cf1ce : MethodName := ⟨RJ5, "append", "(Ljava/lang/String;)Ljava/lang/AbstractStringBuilder;"⟩
abbrev cJ5_appendNull_278bc : ByteArray := prog_16_method_26_code
def yJ5_appendNull_278bc : MethodName := ⟨RJ5, "appendNull", "()Ljava/lang/AbstractStringBuilder;"⟩
abbrev cJ5_append_3fe6f : ByteArray := prog_16_method_31_code
def yJ5_append_3fe6f : MethodName := ⟨RJ5, "append", "(C)Ljava/lang/AbstractStringBuilder;"⟩
abbrev cJ5_append_c97b9 : ByteArray := prog_16_method_32_code
def yJ5_append_c97b9 : MethodName := ⟨RJ5, "append", "(I)Ljava/lang/AbstractStringBuilder;"⟩
abbrev cJ5_getValue_6d5f1 : ByteArray := prog_16_method_64_code
def yJ5_getValue_6d5f1 : MethodName := ⟨RJ5, "getValue", "()[B"⟩
abbrev cJ5_isLatin1_aae02 : ByteArray := prog_16_method_68_code
def yJ5_isLatin1_aae02 : MethodName := ⟨RJ5, "isLatin1", "()Z"⟩
abbrev cJ5_inflateIfNeededFor_a7421 : ByteArray := prog_16_method_71_code
def yJ5_inflateIfNeededFor_a7421 : MethodName := ⟨RJ5, "inflateIfNeededFor", "(Ljava/lang/String;)V"⟩
abbrev cJ5_putStringAt_47b60 : ByteArray := prog_16_method_73_code
def yJ5_putStringAt_47b60 : MethodName := ⟨RJ5, "putStringAt", "(ILjava/lang/String;)V"⟩
def RJ11 : String := "java/lang/Character"
def TJ11 : u_T := fun k => match k with
  | _ => ("", "", "", false)
def tyJ11 : Nat → FieldType := fun k => match k with
  | _ => .int
abbrev wsJ110 : List Cond := u_ws RJ11 TJ11 0
theorem nmJ11 : ∀ a, a < 0 → ∀ b, b < 0 → a ≠ b → (TJ11 a).2.1 ≠ (TJ11 b).2.1 := by decide +kernel
theorem tyJ11_ok : ∀ k, k < 0 → parseFieldDescriptor (TJ11 k).2.2.1 = some (tyJ11 k) := by decide +kernel
abbrev cJ11_isValidCodePoint_9a6ad : ByteArray := prog_17_method_11_code
def yJ11_isValidCodePoint_9a6ad : MethodName := ⟨RJ11, "isValidCodePoint", "(I)Z"⟩
abbrev cJ11_highSurrogate_5068e : ByteArray := prog_17_method_28_code
def yJ11_highSurrogate_5068e : MethodName := ⟨RJ11, "highSurrogate", "(I)C"⟩
abbrev cJ11_lowSurrogate_5068e : ByteArray := prog_17_method_29_code
def yJ11_lowSurrogate_5068e : MethodName := ⟨RJ11, "lowSurrogate", "(I)C"⟩
def RJ6 : String := "java/lang/Integer"
def TJ6 : u_T := fun k => match k with
  | _ => ("", "", "", false)
def tyJ6 : Nat → FieldType := fun k => match k with
  | _ => .int
abbrev wsJ60 : List Cond := u_ws RJ6 TJ6 0
theorem nmJ6 : ∀ a, a < 0 → ∀ b, b < 0 → a ≠ b → (TJ6 a).2.1 ≠ (TJ6 b).2.1 := by decide +kernel
theorem tyJ6_ok : ∀ k, k < 0 → parseFieldDescriptor (TJ6 k).2.2.1 = some (tyJ6 k) := by decide +kernel
abbrev cJ6_getChars_ba4f3 : ByteArray := prog_23_method_12_code
def yJ6_getChars_ba4f3 : MethodName := ⟨RJ6, "getChars", "(II[B)I"⟩
abbrev cJ6_stringSize_0f7a4 : ByteArray := prog_23_method_13_code
def yJ6_stringSize_0f7a4 : MethodName := ⟨RJ6, "stringSize", "(I)I"⟩
def RJ9 : String := "java/lang/Math"
def TJ9 : u_T := fun k => match k with
  | _ => ("", "", "", false)
def tyJ9 : Nat → FieldType := fun k => match k with
  | _ => .int
abbrev wsJ90 : List Cond := u_ws RJ9 TJ9 0
theorem nmJ9 : ∀ a, a < 0 → ∀ b, b < 0 → a ≠ b → (TJ9 a).2.1 ≠ (TJ9 b).2.1 := by decide +kernel
theorem tyJ9_ok : ∀ k, k < 0 → parseFieldDescriptor (TJ9 k).2.2.1 = some (tyJ9 k) := by decide +kernel
abbrev cJ9_abs_0f7a4 : ByteArray := prog_24_method_59_code
def yJ9_abs_0f7a4 : MethodName := ⟨RJ9, "abs", "(I)I"⟩
abbrev cJ9_max_7cf53 : ByteArray := prog_24_method_65_code
def yJ9_max_7cf53 : MethodName := ⟨RJ9, "max", "(II)I"⟩
abbrev cJ9_min_7cf53 : ByteArray := prog_24_method_69_code
def yJ9_min_7cf53 : MethodName := ⟨RJ9, "min", "(II)I"⟩
def RJ0 : String := "java/lang/String"
def TJ0 : u_T := fun k => match k with
  | 0 => ("java/lang/String", "value", "[B", true)
  | 1 => ("java/lang/String", "coder", "B", true)
  | 2 => ("java/lang/String", "hash", "I", false)
  | _ => ("java/lang/String", "hashIsZero", "Z", false)
def tyJ0 : Nat → FieldType := fun k => match k with
  | 0 => .array .byte
  | 1 => .byte
  | 2 => .int
  | _ => .boolean
abbrev wsJ00 : List Cond := u_ws RJ0 TJ0 4
theorem nmJ0 : ∀ a, a < 4 → ∀ b, b < 4 → a ≠ b → (TJ0 a).2.1 ≠ (TJ0 b).2.1 := by decide +kernel
theorem tyJ0_ok : ∀ k, k < 4 → parseFieldDescriptor (TJ0 k).2.2.1 = some (tyJ0 k) := by decide +kernel
abbrev cJ0_init_81219 : ByteArray := prog_26_method_53_code
def yJ0_init_81219 : MethodName := ⟨RJ0, "<init>", "(Ljava/lang/StringBuilder;)V"⟩
abbrev cJ0_length_8abf5 : ByteArray := prog_26_method_54_code
def yJ0_length_8abf5 : MethodName := ⟨RJ0, "length", "()I"⟩
abbrev cJ0_charAt_5068e : ByteArray := prog_26_method_56_code
def yJ0_charAt_5068e : MethodName := ⟨RJ0, "charAt", "(I)C"⟩
abbrev cJ0_indexOf_0f7a4 : ByteArray := prog_26_method_79_code
def yJ0_indexOf_0f7a4 : MethodName := ⟨RJ0, "indexOf", "(I)I"⟩
abbrev cJ0_indexOf_7cf53 : ByteArray := prog_26_method_80_code
def yJ0_indexOf_7cf53 : MethodName := ⟨RJ0, "indexOf", "(II)I"⟩
abbrev cJ0_getBytes_840e7 : ByteArray := prog_26_method_147_code
def yJ0_getBytes_840e7 : MethodName := ⟨RJ0, "getBytes", "([BIB)V"⟩
abbrev cJ0_init_db425 : ByteArray := prog_26_method_150_code
def yJ0_init_db425 : MethodName := ⟨RJ0, "<init>", "(Ljava/lang/AbstractStringBuilder;Ljava/lang/Void;)V"⟩
abbrev cJ0_coder_7d493 : ByteArray := prog_26_method_152_code
def yJ0_coder_7d493 : MethodName := ⟨RJ0, "coder", "()B"⟩
abbrev cJ0_isLatin1_aae02 : ByteArray := prog_26_method_154_code
def yJ0_isLatin1_aae02 : MethodName := ⟨RJ0, "isLatin1", "()Z"⟩
abbrev cJ0_checkIndex_df160 : ByteArray := prog_26_method_155_code
def yJ0_checkIndex_df160 : MethodName := ⟨RJ0, "checkIndex", "(II)V"⟩
abbrev cJ0_checkBoundsOffCount_cabcc : ByteArray := prog_26_method_157_code
def yJ0_checkBoundsOffCount_cabcc : MethodName := ⟨RJ0, "checkBoundsOffCount", "(III)I"⟩
abbrev cJ0_checkBoundsBeginEnd_23922 : ByteArray := prog_26_method_158_code
def yJ0_checkBoundsBeginEnd_23922 : MethodName := ⟨RJ0, "checkBoundsBeginEnd", "(III)V"⟩
def RJ4 : String := "java/lang/StringBuilder"
def TJ4 : u_T := fun k => match k with
  | 0 => ("java/lang/AbstractStringBuilder", "value", "[B", false)
  | 1 => ("java/lang/AbstractStringBuilder", "coder", "B", false)
  | 2 => ("java/lang/AbstractStringBuilder", "maybeLatin1", "Z", false)
  | _ => ("java/lang/AbstractStringBuilder", "count", "I", false)
def tyJ4 : Nat → FieldType := fun k => match k with
  | 0 => .array .byte
  | 1 => .byte
  | 2 => .boolean
  | _ => .int
abbrev wsJ40 : List Cond := u_ws RJ4 TJ4 4
theorem nmJ4 : ∀ a, a < 4 → ∀ b, b < 4 → a ≠ b → (TJ4 a).2.1 ≠ (TJ4 b).2.1 := by decide +kernel
theorem tyJ4_ok : ∀ k, k < 4 → parseFieldDescriptor (TJ4 k).2.2.1 = some (tyJ4 k) := by decide +kernel
abbrev cJ4_init_da8c8 : ByteArray := prog_27_method_1_code
def yJ4_init_da8c8 : MethodName := ⟨RJ4, "<init>", "()V"⟩
abbrev cJ4_init_a7421 : ByteArray := prog_27_method_3_code
def yJ4_init_a7421 : MethodName := ⟨RJ4, "<init>", "(Ljava/lang/String;)V"⟩
abbrev cJ4_append_15ec4 : ByteArray := prog_27_method_7_code
def yJ4_append_15ec4 : MethodName := ⟨RJ4, "append", "(Ljava/lang/String;)Ljava/lang/StringBuilder;"⟩
abbrev cJ4_append_cf468 : ByteArray := prog_27_method_14_code
def yJ4_append_cf468 : MethodName := ⟨RJ4, "append", "(C)Ljava/lang/StringBuilder;"⟩
abbrev cJ4_append_bf812 : ByteArray := prog_27_method_15_code
def yJ4_append_bf812 : MethodName := ⟨RJ4, "append", "(I)Ljava/lang/StringBuilder;"⟩
abbrev cJ4_toString_0e30d : ByteArray := prog_27_method_42_code
def yJ4_toString_0e30d : MethodName := ⟨RJ4, "toString", "()Ljava/lang/String;"⟩
abbrev cJ4_append_cf1ce : ByteArray := prog_27_method_80_code
def yJ4_append_cf1ce : MethodName := ⟨RJ4, "append", "(Ljava/lang/String;)Ljava/lang/AbstractStringBuilder;"⟩
abbrev cJ4_charAt_5068e : ByteArray := prog_27_method_88_code
def yJ4_charAt_5068e : MethodName := ⟨RJ4, "charAt", "(I)C"⟩
abbrev cJ4_length_8abf5 : ByteArray := prog_27_method_93_code
def yJ4_length_8abf5 : MethodName := ⟨RJ4, "length", "()I"⟩
def RJ1 : String := "java/lang/StringLatin1"
def TJ1 : u_T := fun k => match k with
  | _ => ("", "", "", false)
def tyJ1 : Nat → FieldType := fun k => match k with
  | _ => .int
abbrev wsJ10 : List Cond := u_ws RJ1 TJ1 0
theorem nmJ1 : ∀ a, a < 0 → ∀ b, b < 0 → a ≠ b → (TJ1 a).2.1 ≠ (TJ1 b).2.1 := by decide +kernel
theorem tyJ1_ok : ∀ k, k < 0 → parseFieldDescriptor (TJ1 k).2.2.1 = some (tyJ1 k) := by decide +kernel
abbrev cJ1_charAt_3b067 : ByteArray := prog_28_method_2_code
def yJ1_charAt_3b067 : MethodName := ⟨RJ1, "charAt", "([BI)C"⟩
abbrev cJ1_canEncode_fc78d : ByteArray := prog_28_method_3_code
def yJ1_canEncode_fc78d : MethodName := ⟨RJ1, "canEncode", "(C)Z"⟩
abbrev cJ1_canEncode_9a6ad : ByteArray := prog_28_method_4_code
def yJ1_canEncode_9a6ad : MethodName := ⟨RJ1, "canEncode", "(I)Z"⟩
abbrev cJ1_indexOf_4cfef : ByteArray := prog_28_method_22_code
def yJ1_indexOf_4cfef : MethodName := ⟨RJ1, "indexOf", "([BIII)I"⟩
abbrev cJ1_indexOfChar_4cfef : ByteArray := prog_28_method_23_code
def yJ1_indexOfChar_4cfef : MethodName := ⟨RJ1, "indexOfChar", "([BIII)I"⟩
abbrev cJ1_inflate_0e8fd : ByteArray := prog_28_method_50_code
def yJ1_inflate_0e8fd : MethodName := ⟨RJ1, "inflate", "([BI[BII)V"⟩
def RJ2 : String := "java/lang/StringUTF16"
def TJ2 : u_T := fun k => match k with
  | _ => ("", "", "", false)
def tyJ2 : Nat → FieldType := fun k => match k with
  | _ => .int
abbrev wsJ20 : List Cond := u_ws RJ2 TJ2 0
theorem nmJ2 : ∀ a, a < 0 → ∀ b, b < 0 → a ≠ b → (TJ2 a).2.1 ≠ (TJ2 b).2.1 := by decide +kernel
theorem tyJ2_ok : ∀ k, k < 0 → parseFieldDescriptor (TJ2 k).2.2.1 = some (tyJ2 k) := by decide +kernel
abbrev cJ2_newBytesFor_77867 : ByteArray := prog_29_method_2_code
def yJ2_newBytesFor_77867 : MethodName := ⟨RJ2, "newBytesFor", "(I)[B"⟩
abbrev cJ2_newBytesLength_0f7a4 : ByteArray := prog_29_method_3_code
def yJ2_newBytesLength_0f7a4 : MethodName := ⟨RJ2, "newBytesLength", "(I)I"⟩
abbrev cJ2_putChar_b72d1 : ByteArray := prog_29_method_4_code
def yJ2_putChar_b72d1 : MethodName := ⟨RJ2, "putChar", "([BII)V"⟩
abbrev cJ2_getChar_3b067 : ByteArray := prog_29_method_5_code
def yJ2_getChar_3b067 : MethodName := ⟨RJ2, "getChar", "([BI)C"⟩
abbrev cJ2_length_9d52b : ByteArray := prog_29_method_6_code
def yJ2_length_9d52b : MethodName := ⟨RJ2, "length", "([B)I"⟩
abbrev cJ2_coderFromArrayLen_85cad : ByteArray := prog_29_method_15_code
def yJ2_coderFromArrayLen_85cad : MethodName := ⟨RJ2, "coderFromArrayLen", "([BI)B"⟩
abbrev cJ2_compress_39247 : ByteArray := prog_29_method_17_code
def yJ2_compress_39247 : MethodName := ⟨RJ2, "compress", "([BII)[B"⟩
abbrev cJ2_compress_5af95 : ByteArray := prog_29_method_22_code
def yJ2_compress_5af95 : MethodName := ⟨RJ2, "compress", "([BI[BII)I"⟩
abbrev cJ2_indexOf_4cfef : ByteArray := prog_29_method_40_code
def yJ2_indexOf_4cfef : MethodName := ⟨RJ2, "indexOf", "([BIII)I"⟩
abbrev cJ2_indexOfChar_4cfef : ByteArray := prog_29_method_47_code
def yJ2_indexOfChar_4cfef : MethodName := ⟨RJ2, "indexOfChar", "([BIII)I"⟩
abbrev cJ2_indexOfCharUnsafe_4cfef : ByteArray := prog_29_method_48_code
def yJ2_indexOfCharUnsafe_4cfef : MethodName := ⟨RJ2, "indexOfCharUnsafe", "([BIII)I"⟩
abbrev cJ2_indexOfSupplementary_4cfef : ByteArray := prog_29_method_49_code
def yJ2_indexOfSupplementary_4cfef : MethodName := ⟨RJ2, "indexOfSupplementary", "([BIII)I"⟩
abbrev cJ2_putCharSB_b72d1 : ByteArray := prog_29_method_71_code
def yJ2_putCharSB_b72d1 : MethodName := ⟨RJ2, "putCharSB", "([BII)V"⟩
abbrev cJ2_getChars_46870 : ByteArray := prog_29_method_77_code
def yJ2_getChars_46870 : MethodName := ⟨RJ2, "getChars", "(III[B)I"⟩
abbrev cJ2_putCharsAt_cd4e5 : ByteArray := prog_29_method_81_code
def yJ2_putCharsAt_cd4e5 : MethodName := ⟨RJ2, "putCharsAt", "([BICCCC)I"⟩
abbrev cJ2_charAt_3b067 : ByteArray := prog_29_method_83_code
def yJ2_charAt_3b067 : MethodName := ⟨RJ2, "charAt", "([BI)C"⟩
abbrev cJ2_inflate_0e8fd : ByteArray := prog_29_method_86_code
def yJ2_inflate_0e8fd : MethodName := ⟨RJ2, "inflate", "([BI[BII)V"⟩
abbrev cJ2_getChars_ba4f3 : ByteArray := prog_29_method_89_code
def yJ2_getChars_ba4f3 : MethodName := ⟨RJ2, "getChars", "(II[B)I"⟩
abbrev cJ2_checkIndex_2214a : ByteArray := prog_29_method_91_code
def yJ2_checkIndex_2214a : MethodName := ⟨RJ2, "checkIndex", "(I[B)V"⟩
abbrev cJ2_checkBoundsBeginEnd_d044e : ByteArray := prog_29_method_93_code
def yJ2_checkBoundsBeginEnd_d044e : MethodName := ⟨RJ2, "checkBoundsBeginEnd", "(II[B)V"⟩
abbrev cJ2_checkBoundsOffCount_d044e : ByteArray := prog_29_method_94_code
def yJ2_checkBoundsOffCount_d044e : MethodName := ⟨RJ2, "checkBoundsOffCount", "(II[B)V"⟩
def RJ10 : String := "java/lang/System"
def TJ10 : u_T := fun k => match k with
  | _ => ("", "", "", false)
def tyJ10 : Nat → FieldType := fun k => match k with
  | _ => .int
abbrev wsJ100 : List Cond := u_ws RJ10 TJ10 0
theorem nmJ10 : ∀ a, a < 0 → ∀ b, b < 0 → a ≠ b → (TJ10 a).2.1 ≠ (TJ10 b).2.1 := by decide +kernel
theorem tyJ10_ok : ∀ k, k < 0 → parseFieldDescriptor (TJ10 k).2.2.1 = some (tyJ10 k) := by decide +kernel
def RJ7 : String := "java/util/Arrays"
def TJ7 : u_T := fun k => match k with
  | _ => ("", "", "", false)
def tyJ7 : Nat → FieldType := fun k => match k with
  | _ => .int
abbrev wsJ70 : List Cond := u_ws RJ7 TJ7 0
theorem nmJ7 : ∀ a, a < 0 → ∀ b, b < 0 → a ≠ b → (TJ7 a).2.1 ≠ (TJ7 b).2.1 := by decide +kernel
theorem tyJ7_ok : ∀ k, k < 0 → parseFieldDescriptor (TJ7 k).2.2.1 = some (tyJ7 k) := by decide +kernel
abbrev cJ7_copyOf_9075b : ByteArray := prog_32_method_121_code
def yJ7_copyOf_9075b : MethodName := ⟨RJ7, "copyOf", "([BI)[B"⟩
abbrev cJ7_checkLength_df160 : ByteArray := prog_32_method_131_code
def yJ7_checkLength_df160 : MethodName := ⟨RJ7, "checkLength", "(II)V"⟩
abbrev cJ7_copyOfRange_39247 : ByteArray := prog_32_method_132_code
def yJ7_copyOfRange_39247 : MethodName := ⟨RJ7, "copyOfRange", "([BII)[B"⟩
abbrev cJ7_copyOfRangeByte_39247 : ByteArray := prog_32_method_133_code
def yJ7_copyOfRangeByte_39247 : MethodName := ⟨RJ7, "copyOfRangeByte", "([BII)[B"⟩
def RJ8 : String := "jdk/internal/util/ArraysSupport"
def TJ8 : u_T := fun k => match k with
  | _ => ("", "", "", false)
def tyJ8 : Nat → FieldType := fun k => match k with
  | _ => .int
abbrev wsJ80 : List Cond := u_ws RJ8 TJ8 0
theorem nmJ8 : ∀ a, a < 0 → ∀ b, b < 0 → a ≠ b → (TJ8 a).2.1 ≠ (TJ8 b).2.1 := by decide +kernel
theorem tyJ8_ok : ∀ k, k < 0 → parseFieldDescriptor (TJ8 k).2.2.1 = some (tyJ8 k) := by decide +kernel
abbrev cJ8_newLength_cabcc : ByteArray := prog_33_method_27_code
def yJ8_newLength_cabcc : MethodName := ⟨RJ8, "newLength", "(III)I"⟩
abbrev cJ8_hugeLength_7cf53 : ByteArray := prog_33_method_28_code
def yJ8_hugeLength_7cf53 : MethodName := ⟨RJ8, "hugeLength", "(II)I"⟩
def RJ3 : String := "jdk/internal/util/Preconditions"
def TJ3 : u_T := fun k => match k with
  | _ => ("", "", "", false)
def tyJ3 : Nat → FieldType := fun k => match k with
  | _ => .int
abbrev wsJ30 : List Cond := u_ws RJ3 TJ3 0
theorem nmJ3 : ∀ a, a < 0 → ∀ b, b < 0 → a ≠ b → (TJ3 a).2.1 ≠ (TJ3 b).2.1 := by decide +kernel
theorem tyJ3_ok : ∀ k, k < 0 → parseFieldDescriptor (TJ3 k).2.2.1 = some (tyJ3 k) := by decide +kernel
abbrev cJ3_checkIndex_8e157 : ByteArray := prog_34_method_11_code
def yJ3_checkIndex_8e157 : MethodName := ⟨RJ3, "checkIndex", "(IILjava/util/function/BiFunction;)I"⟩
abbrev cJ3_checkFromToIndex_8c36e : ByteArray := prog_34_method_12_code
def yJ3_checkFromToIndex_8c36e : MethodName := ⟨RJ3, "checkFromToIndex", "(IIILjava/util/function/BiFunction;)I"⟩
abbrev cJ3_checkFromIndexSize_8c36e : ByteArray := prog_34_method_13_code
def yJ3_checkFromIndexSize_8c36e : MethodName := ⟨RJ3, "checkFromIndexSize", "(IIILjava/util/function/BiFunction;)I"⟩
def RL : String := "TeaRegattaLaw"
abbrev cL_below : ByteArray := method_2_code
def yL_below : MethodName := ⟨RL, "below", "(II)I"⟩
abbrev cL_cell : ByteArray := method_3_code
def yL_cell : MethodName := ⟨RL, "cell", "([II)I"⟩
abbrev cL_say : ByteArray := method_4_code
def yL_say : MethodName := ⟨RL, "say", "(LTeaRegatta;Ljava/lang/String;)I"⟩
abbrev cL_act : ByteArray := method_5_code
def yL_act : MethodName := ⟨RL, "act", "(LTeaRegatta;LTeaRegattaLaw$Sim;I)Z"⟩
abbrev cL_build : ByteArray := method_6_code
def yL_build : MethodName := ⟨RL, "build", "(LTeaRegatta;[I)LTeaRegattaLaw$Sim;"⟩
abbrev cL_law : ByteArray := code
def yL_law : MethodName := ⟨RL, "law", "([I)Z"⟩
abbrev cL_isTooLong : ByteArray := method_8_code
def yL_isTooLong : MethodName := ⟨RL, "isTooLong", "([I)Z"⟩
abbrev cL_isOver : ByteArray := method_9_code
def yL_isOver : MethodName := ⟨RL, "isOver", "(Ljava/lang/StringBuilder;)Z"⟩
abbrev vwCl : List vw_C := [(RJ0, TJ0, 4), (RJ4, TJ4, 4), (RX0, TX0, 14), (RX1, TX1, 17), (RX2, TX2, 6), (RX3, TX3, 1), (RX4, TX4, 3), (RX5, TX5, 3), (RX6, TX6, 2), (RX7, TX7, 7), (RX8, TX8, 7), (RX9, TX9, 3), (RX10, TX10, 9)]
