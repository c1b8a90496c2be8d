def RX0 : String := "OwnRain$Land"
def TX0 : u_T := fun k => match k with
  | 0 => ("OwnRain$Land", "fields", "I", false)
  | 1 => ("OwnRain$Land", "people", "I", false)
  | 2 => ("OwnRain$Land", "heat", "[I", true)
  | 3 => ("OwnRain$Land", "needs", "[I", true)
  | 4 => ("OwnRain$Land", "drowns", "[I", true)
  | 5 => ("OwnRain$Land", "roads", "[I", true)
  | 6 => ("OwnRain$Land", "full", "[I", true)
  | 7 => ("OwnRain$Land", "age", "[I", true)
  | 8 => ("OwnRain$Land", "home", "[I", true)
  | _ => ("OwnRain$Land", "brought", "[I", true)
def tyX0 : Nat → FieldType := fun k => match k with
  | 0 => .int
  | 1 => .int
  | 2 => .array .int
  | 3 => .array .int
  | 4 => .array .int
  | 5 => .array .int
  | 6 => .array .int
  | 7 => .array .int
  | 8 => .array .int
  | _ => .array .int
theorem nmX0 : ∀ a, a < 10 → ∀ b, b < 10 → a ≠ b → (TX0 a).2.1 ≠ (TX0 b).2.1 := by decide +kernel
theorem tyX0_ok : ∀ k, k < 10 → parseFieldDescriptor (TX0 k).2.2.1 = some (tyX0 k) := by decide +kernel
abbrev cX0_init : ByteArray := prog_2_method_1_code
def yX0_init : MethodName := ⟨RX0, "<init>", "()V"⟩
abbrev cX0_hasField : ByteArray := prog_2_method_2_code
def yX0_hasField : MethodName := ⟨RX0, "hasField", "(I)Z"⟩
abbrev cX0_hasPerson : ByteArray := prog_2_method_3_code
def yX0_hasPerson : MethodName := ⟨RX0, "hasPerson", "(I)Z"⟩
abbrev cX0_hasRoad : ByteArray := prog_2_method_4_code
def yX0_hasRoad : MethodName := ⟨RX0, "hasRoad", "(II)Z"⟩
abbrev cX0_addField : ByteArray := prog_2_method_5_code
def yX0_addField : MethodName := ⟨RX0, "addField", "(III)I"⟩
abbrev cX0_addRoad : ByteArray := prog_2_method_6_code
def yX0_addRoad : MethodName := ⟨RX0, "addRoad", "(II)V"⟩
abbrev cX0_addPerson : ByteArray := prog_2_method_7_code
def yX0_addPerson : MethodName := ⟨RX0, "addPerson", "(IIII)I"⟩
abbrev cX0_copyFrom : ByteArray := prog_2_method_8_code
def yX0_copyFrom : MethodName := ⟨RX0, "copyFrom", "(LOwnRain$Land;)V"⟩
def RX1 : String := "OwnRain$Lists"
def TX1 : u_T := fun k => match k with
  | 0 => ("OwnRain$Lists", "missing", "I", false)
  | 1 => ("OwnRain$Lists", "forecasts", "I", false)
  | 2 => ("OwnRain$Lists", "offers", "I", false)
  | 3 => ("OwnRain$Lists", "victim", "[I", true)
  | 4 => ("OwnRain$Lists", "from", "[I", true)
  | 5 => ("OwnRain$Lists", "to", "[I", true)
  | 6 => ("OwnRain$Lists", "foretold", "[I", true)
  | 7 => ("OwnRain$Lists", "hot", "[Z", true)
  | 8 => ("OwnRain$Lists", "buys", "[Z", true)
  | 9 => ("OwnRain$Lists", "price", "[I", true)
  | _ => ("OwnRain$Lists", "drops", "[I", true)
def tyX1 : Nat → FieldType := fun k => match k with
  | 0 => .int
  | 1 => .int
  | 2 => .int
  | 3 => .array .int
  | 4 => .array .int
  | 5 => .array .int
  | 6 => .array .int
  | 7 => .array .boolean
  | 8 => .array .boolean
  | 9 => .array .int
  | _ => .array .int
theorem nmX1 : ∀ a, a < 11 → ∀ b, b < 11 → a ≠ b → (TX1 a).2.1 ≠ (TX1 b).2.1 := by decide +kernel
theorem tyX1_ok : ∀ k, k < 11 → parseFieldDescriptor (TX1 k).2.2.1 = some (tyX1 k) := by decide +kernel
abbrev cX1_init : ByteArray := prog_3_method_1_code
def yX1_init : MethodName := ⟨RX1, "<init>", "()V"⟩
abbrev cX1_addMissing : ByteArray := prog_3_method_2_code
def yX1_addMissing : MethodName := ⟨RX1, "addMissing", "(III)I"⟩
abbrev cX1_addForecast : ByteArray := prog_3_method_3_code
def yX1_addForecast : MethodName := ⟨RX1, "addForecast", "(IZ)I"⟩
abbrev cX1_addOffer : ByteArray := prog_3_method_4_code
def yX1_addOffer : MethodName := ⟨RX1, "addOffer", "(ZII)I"⟩
abbrev cX1_misses : ByteArray := prog_3_method_5_code
def yX1_misses : MethodName := ⟨RX1, "misses", "(I)I"⟩
abbrev cX1_falseAlarms : ByteArray := prog_3_method_6_code
def yX1_falseAlarms : MethodName := ⟨RX1, "falseAlarms", "(I)I"⟩
abbrev cX1_traded : ByteArray := prog_3_method_7_code
def yX1_traded : MethodName := ⟨RX1, "traded", "(I)I"⟩
abbrev cX1_copyFrom : ByteArray := prog_3_method_8_code
def yX1_copyFrom : MethodName := ⟨RX1, "copyFrom", "(LOwnRain$Lists;)V"⟩
def RX2 : String := "OwnRain$Planner"
def TX2 : u_T := fun k => match k with
  | 0 => ("OwnRain$Planner", "least", "I", false)
  | 1 => ("OwnRain$Planner", "best", "[I", true)
  | 2 => ("OwnRain$Planner", "state", "LOwnRain$State;", true)
  | 3 => ("OwnRain$Planner", "weather", "LOwnRain$Weather;", true)
  | 4 => ("OwnRain$Planner", "worlds", "[LOwnRain$World;", true)
  | 5 => ("OwnRain$Planner", "tried", "[I", true)
  | 6 => ("OwnRain$Planner", "grown", "[I", true)
  | 7 => ("OwnRain$Planner", "places", "[I", true)
  | 8 => ("OwnRain$Planner", "sweats", "[I", true)
  | _ => ("OwnRain$Planner", "most", "[I", true)
def tyX2 : Nat → FieldType := fun k => match k with
  | 0 => .int
  | 1 => .array .int
  | 2 => .object "OwnRain$State"
  | 3 => .object "OwnRain$Weather"
  | 4 => .array (.object "OwnRain$World")
  | 5 => .array .int
  | 6 => .array .int
  | 7 => .array .int
  | 8 => .array .int
  | _ => .array .int
theorem nmX2 : ∀ a, a < 10 → ∀ b, b < 10 → a ≠ b → (TX2 a).2.1 ≠ (TX2 b).2.1 := by decide +kernel
theorem tyX2_ok : ∀ k, k < 10 → parseFieldDescriptor (TX2 k).2.2.1 = some (tyX2 k) := by decide +kernel
abbrev cX2_init : ByteArray := prog_4_method_1_code
def yX2_init : MethodName := ⟨RX2, "<init>", "(LOwnRain$State;LOwnRain$Weather;)V"⟩
abbrev cX2_freshWorld : ByteArray := prog_4_method_2_code
def yX2_freshWorld : MethodName := ⟨RX2, "freshWorld", "()LOwnRain$World;"⟩
abbrev cX2_foretell : ByteArray := prog_4_method_3_code
def yX2_foretell : MethodName := ⟨RX2, "foretell", "(I)LOwnRain$World;"⟩
abbrev cX2_firstRain : ByteArray := prog_4_method_4_code
def yX2_firstRain : MethodName := ⟨RX2, "firstRain", "(II)I"⟩
abbrev cX2_planWork : ByteArray := prog_4_method_5_code
def yX2_planWork : MethodName := ⟨RX2, "planWork", "(II)V"⟩
abbrev cX2_tryWork : ByteArray := prog_4_method_6_code
def yX2_tryWork : MethodName := ⟨RX2, "tryWork", "(IIIIZ)V"⟩
abbrev cX2_harmlessTax : ByteArray := prog_4_method_7_code
def yX2_harmlessTax : MethodName := ⟨RX2, "harmlessTax", "(I)I"⟩
abbrev cX2_growsAsMuch : ByteArray := prog_4_method_8_code
def yX2_growsAsMuch : MethodName := ⟨RX2, "growsAsMuch", "(LOwnRain$World;)Z"⟩
abbrev cX2_assign : ByteArray := prog_4_method_9_code
def yX2_assign : MethodName := ⟨RX2, "assign", "(II)I"⟩
abbrev cX2_sweatAt : ByteArray := prog_4_method_10_code
def yX2_sweatAt : MethodName := ⟨RX2, "sweatAt", "(II)I"⟩
abbrev cX2_mostBeyond : ByteArray := prog_4_method_11_code
def yX2_mostBeyond : MethodName := ⟨RX2, "mostBeyond", "(III)I"⟩
abbrev cX2_nextOf : ByteArray := prog_4_method_12_code
def yX2_nextOf : MethodName := ⟨RX2, "nextOf", "(II)I"⟩
abbrev cX2_lowestPlace : ByteArray := prog_4_method_13_code
def yX2_lowestPlace : MethodName := ⟨RX2, "lowestPlace", "(III)I"⟩
def RX3 : String := "OwnRain$Reader"
def TX3 : u_T := fun k => match k with
  | 0 => ("OwnRain$Reader", "fault", "I", false)
  | 1 => ("OwnRain$Reader", "place", "I", false)
  | 2 => ("OwnRain$Reader", "tape", "LOwnRain$Tape;", true)
  | 3 => ("OwnRain$Reader", "draft", "LOwnRain$Text;", false)
  | 4 => ("OwnRain$Reader", "law", "I", false)
  | 5 => ("OwnRain$Reader", "index", "I", false)
  | _ => ("OwnRain$Reader", "token", "I", false)
def tyX3 : Nat → FieldType := fun k => match k with
  | 0 => .int
  | 1 => .int
  | 2 => .object "OwnRain$Tape"
  | 3 => .object "OwnRain$Text"
  | 4 => .int
  | 5 => .int
  | _ => .int
theorem nmX3 : ∀ a, a < 7 → ∀ b, b < 7 → a ≠ b → (TX3 a).2.1 ≠ (TX3 b).2.1 := by decide +kernel
theorem tyX3_ok : ∀ k, k < 7 → parseFieldDescriptor (TX3 k).2.2.1 = some (tyX3 k) := by decide +kernel
abbrev cX3_init : ByteArray := prog_5_method_1_code
def yX3_init : MethodName := ⟨RX3, "<init>", "(LOwnRain$Tape;)V"⟩
abbrev cX3_readTape : ByteArray := prog_5_method_2_code
def yX3_readTape : MethodName := ⟨RX3, "readTape", "()LOwnRain$Text;"⟩
abbrev cX3_advance : ByteArray := prog_5_method_3_code
def yX3_advance : MethodName := ⟨RX3, "advance", "()V"⟩
abbrev cX3_fail : ByteArray := prog_5_method_4_code
def yX3_fail : MethodName := ⟨RX3, "fail", "(I)V"⟩
abbrev cX3_readClause : ByteArray := prog_5_method_5_code
def yX3_readClause : MethodName := ⟨RX3, "readClause", "(I)V"⟩
abbrev cX3_readLaw : ByteArray := prog_5_method_6_code
def yX3_readLaw : MethodName := ⟨RX3, "readLaw", "(I)V"⟩
abbrev cX3_readParts : ByteArray := prog_5_method_7_code
def yX3_readParts : MethodName := ⟨RX3, "readParts", "(II)V"⟩
abbrev cX3_expect : ByteArray := prog_5_method_8_code
def yX3_expect : MethodName := ⟨RX3, "expect", "(I)V"⟩
abbrev cX3_expectNumber : ByteArray := prog_5_method_9_code
def yX3_expectNumber : MethodName := ⟨RX3, "expectNumber", "(II)V"⟩
abbrev cX3_readEither : ByteArray := prog_5_method_10_code
def yX3_readEither : MethodName := ⟨RX3, "readEither", "(I)V"⟩
abbrev cX3_readBoth : ByteArray := prog_5_method_11_code
def yX3_readBoth : MethodName := ⟨RX3, "readBoth", "(I)V"⟩
abbrev cX3_readAsk : ByteArray := prog_5_method_12_code
def yX3_readAsk : MethodName := ⟨RX3, "readAsk", "(I)V"⟩
abbrev cX3_readSum : ByteArray := prog_5_method_13_code
def yX3_readSum : MethodName := ⟨RX3, "readSum", "(IZ)V"⟩
abbrev cX3_readProduct : ByteArray := prog_5_method_14_code
def yX3_readProduct : MethodName := ⟨RX3, "readProduct", "(IZ)V"⟩
abbrev cX3_readOne : ByteArray := prog_5_method_15_code
def yX3_readOne : MethodName := ⟨RX3, "readOne", "(IZ)V"⟩
abbrev cX3_readGroup : ByteArray := prog_5_method_16_code
def yX3_readGroup : MethodName := ⟨RX3, "readGroup", "(I)V"⟩
abbrev cX3_readName : ByteArray := prog_5_method_17_code
def yX3_readName : MethodName := ⟨RX3, "readName", "(Z)V"⟩
abbrev cX3_opens : ByteArray := prog_5_method_18_code
def yX3_opens : MethodName := ⟨RX3, "opens", "(I)Z"⟩
abbrev cX3_isName : ByteArray := prog_5_method_19_code
def yX3_isName : MethodName := ⟨RX3, "isName", "(I)Z"⟩
abbrev cX3_isOwnName : ByteArray := prog_5_method_20_code
def yX3_isOwnName : MethodName := ⟨RX3, "isOwnName", "(I)Z"⟩
def RX4 : String := "OwnRain$State"
def TX4 : u_T := fun k => match k with
  | 0 => ("OwnRain$State", "land", "LOwnRain$Land;", true)
  | 1 => ("OwnRain$State", "world", "LOwnRain$World;", true)
  | 2 => ("OwnRain$State", "steps", "LOwnRain$Steps;", true)
  | 3 => ("OwnRain$State", "lists", "LOwnRain$Lists;", true)
  | 4 => ("OwnRain$State", "texts", "[LOwnRain$Text;", true)
  | 5 => ("OwnRain$State", "textCount", "I", false)
  | _ => ("OwnRain$State", "ruling", "I", false)
def tyX4 : Nat → FieldType := fun k => match k with
  | 0 => .object "OwnRain$Land"
  | 1 => .object "OwnRain$World"
  | 2 => .object "OwnRain$Steps"
  | 3 => .object "OwnRain$Lists"
  | 4 => .array (.object "OwnRain$Text")
  | 5 => .int
  | _ => .int
theorem nmX4 : ∀ a, a < 7 → ∀ b, b < 7 → a ≠ b → (TX4 a).2.1 ≠ (TX4 b).2.1 := by decide +kernel
theorem tyX4_ok : ∀ k, k < 7 → parseFieldDescriptor (TX4 k).2.2.1 = some (tyX4 k) := by decide +kernel
abbrev cX4_init : ByteArray := prog_6_method_1_code
def yX4_init : MethodName := ⟨RX4, "<init>", "()V"⟩
abbrev cX4_hasText : ByteArray := prog_6_method_2_code
def yX4_hasText : MethodName := ⟨RX4, "hasText", "(I)Z"⟩
abbrev cX4_addText : ByteArray := prog_6_method_3_code
def yX4_addText : MethodName := ⟨RX4, "addText", "(LOwnRain$Text;)I"⟩
abbrev cX4_rules : ByteArray := prog_6_method_4_code
def yX4_rules : MethodName := ⟨RX4, "rules", "()LOwnRain$Text;"⟩
abbrev cX4_canGo : ByteArray := prog_6_method_5_code
def yX4_canGo : MethodName := ⟨RX4, "canGo", "(II)Z"⟩
abbrev cX4_canMeet : ByteArray := prog_6_method_6_code
def yX4_canMeet : MethodName := ⟨RX4, "canMeet", "(II)Z"⟩
abbrev cX4_canTake : ByteArray := prog_6_method_7_code
def yX4_canTake : MethodName := ⟨RX4, "canTake", "(III)Z"⟩
abbrev cX4_keepStep : ByteArray := prog_6_method_8_code
def yX4_keepStep : MethodName := ⟨RX4, "keepStep", "()V"⟩
abbrev cX4_takeBack : ByteArray := prog_6_method_9_code
def yX4_takeBack : MethodName := ⟨RX4, "takeBack", "()I"⟩
abbrev cX4_copyFrom : ByteArray := prog_6_method_10_code
def yX4_copyFrom : MethodName := ⟨RX4, "copyFrom", "(LOwnRain$State;)V"⟩
def RX5 : String := "OwnRain$Steps"
def TX5 : u_T := fun k => match k with
  | 0 => ("OwnRain$Steps", "count", "I", false)
  | 1 => ("OwnRain$Steps", "next", "I", false)
  | 2 => ("OwnRain$Steps", "worlds", "[LOwnRain$World;", true)
  | _ => ("OwnRain$Steps", "people", "[I", true)
def tyX5 : Nat → FieldType := fun k => match k with
  | 0 => .int
  | 1 => .int
  | 2 => .array (.object "OwnRain$World")
  | _ => .array .int
theorem nmX5 : ∀ a, a < 4 → ∀ b, b < 4 → a ≠ b → (TX5 a).2.1 ≠ (TX5 b).2.1 := by decide +kernel
theorem tyX5_ok : ∀ k, k < 4 → parseFieldDescriptor (TX5 k).2.2.1 = some (tyX5 k) := by decide +kernel
abbrev cX5_init : ByteArray := prog_7_method_1_code
def yX5_init : MethodName := ⟨RX5, "<init>", "()V"⟩
abbrev cX5_keep : ByteArray := prog_7_method_2_code
def yX5_keep : MethodName := ⟨RX5, "keep", "(LOwnRain$World;I)V"⟩
abbrev cX5_takeBack : ByteArray := prog_7_method_3_code
def yX5_takeBack : MethodName := ⟨RX5, "takeBack", "(LOwnRain$World;)I"⟩
abbrev cX5_copyFrom : ByteArray := prog_7_method_4_code
def yX5_copyFrom : MethodName := ⟨RX5, "copyFrom", "(LOwnRain$Steps;)V"⟩
def RX6 : String := "OwnRain$Tape"
def TX6 : u_T := fun k => match k with
  | 0 => ("OwnRain$Tape", "length", "I", false)
  | 1 => ("OwnRain$Tape", "tokens", "I", false)
  | 2 => ("OwnRain$Tape", "token", "[I", true)
  | 3 => ("OwnRain$Tape", "number", "[I", true)
  | 4 => ("OwnRain$Tape", "place", "[I", true)
  | _ => ("OwnRain$Tape", "bytes", "[I", true)
def tyX6 : Nat → FieldType := fun k => match k with
  | 0 => .int
  | 1 => .int
  | 2 => .array .int
  | 3 => .array .int
  | 4 => .array .int
  | _ => .array .int
theorem nmX6 : ∀ a, a < 6 → ∀ b, b < 6 → a ≠ b → (TX6 a).2.1 ≠ (TX6 b).2.1 := by decide +kernel
theorem tyX6_ok : ∀ k, k < 6 → parseFieldDescriptor (TX6 k).2.2.1 = some (tyX6 k) := by decide +kernel
abbrev cX6_init : ByteArray := prog_8_method_1_code
def yX6_init : MethodName := ⟨RX6, "<init>", "()V"⟩
abbrev cX6_append : ByteArray := prog_8_method_2_code
def yX6_append : MethodName := ⟨RX6, "append", "(I)V"⟩
abbrev cX6_findTokens : ByteArray := prog_8_method_3_code
def yX6_findTokens : MethodName := ⟨RX6, "findTokens", "()V"⟩
abbrev cX6_addToken : ByteArray := prog_8_method_4_code
def yX6_addToken : MethodName := ⟨RX6, "addToken", "(II)V"⟩
abbrev cX6_addWord : ByteArray := prog_8_method_5_code
def yX6_addWord : MethodName := ⟨RX6, "addWord", "(I)I"⟩
abbrev cX6_addNumber : ByteArray := prog_8_method_6_code
def yX6_addNumber : MethodName := ⟨RX6, "addNumber", "(I)I"⟩
abbrev cX6_addSign : ByteArray := prog_8_method_7_code
def yX6_addSign : MethodName := ⟨RX6, "addSign", "(I)I"⟩
abbrev cX6_wordOf : ByteArray := prog_8_method_8_code
def yX6_wordOf : MethodName := ⟨RX6, "wordOf", "(II)I"⟩
abbrev cX6_isLetter : ByteArray := prog_8_method_9_code
def yX6_isLetter : MethodName := ⟨RX6, "isLetter", "(I)Z"⟩
abbrev cX6_isDigit : ByteArray := prog_8_method_10_code
def yX6_isDigit : MethodName := ⟨RX6, "isDigit", "(I)Z"⟩
def RX7 : String := "OwnRain$Text"
def TX7 : u_T := fun k => match k with
  | 0 => ("OwnRain$Text", "clauses", "I", false)
  | 1 => ("OwnRain$Text", "kinds", "[I", true)
  | 2 => ("OwnRain$Text", "parts", "[I", true)
  | 3 => ("OwnRain$Text", "code", "[I", true)
  | 4 => ("OwnRain$Text", "operand", "[I", true)
  | 5 => ("OwnRain$Text", "codeLength", "I", false)
  | 6 => ("OwnRain$Text", "groupFrom", "[I", true)
  | 7 => ("OwnRain$Text", "groupTo", "[I", true)
  | 8 => ("OwnRain$Text", "groups", "I", false)
  | 9 => ("OwnRain$Text", "lawFrom", "[I", true)
  | 10 => ("OwnRain$Text", "lawTo", "[I", true)
  | 11 => ("OwnRain$Text", "lawGroupsFrom", "[I", true)
  | _ => ("OwnRain$Text", "lawGroupsTo", "[I", true)
def tyX7 : Nat → FieldType := fun k => match k with
  | 0 => .int
  | 1 => .array .int
  | 2 => .array .int
  | 3 => .array .int
  | 4 => .array .int
  | 5 => .int
  | 6 => .array .int
  | 7 => .array .int
  | 8 => .int
  | 9 => .array .int
  | 10 => .array .int
  | 11 => .array .int
  | _ => .array .int
theorem nmX7 : ∀ a, a < 13 → ∀ b, b < 13 → a ≠ b → (TX7 a).2.1 ≠ (TX7 b).2.1 := by decide +kernel
theorem tyX7_ok : ∀ k, k < 13 → parseFieldDescriptor (TX7 k).2.2.1 = some (tyX7 k) := by decide +kernel
abbrev cX7_init : ByteArray := prog_9_method_1_code
def yX7_init : MethodName := ⟨RX7, "<init>", "()V"⟩
abbrev cX7_hasLaw : ByteArray := prog_9_method_2_code
def yX7_hasLaw : MethodName := ⟨RX7, "hasLaw", "(I)Z"⟩
abbrev cX7_write : ByteArray := prog_9_method_3_code
def yX7_write : MethodName := ⟨RX7, "write", "(II)V"⟩
def RX8 : String := "OwnRain$Ways"
def TX8 : u_T := fun k => match k with
  | 0 => ("OwnRain$Ways", "left", "[I", true)
  | 1 => ("OwnRain$Ways", "wide", "[I", true)
  | _ => ("OwnRain$Ways", "state", "LOwnRain$State;", true)
def tyX8 : Nat → FieldType := fun k => match k with
  | 0 => .array .int
  | 1 => .array .int
  | _ => .object "OwnRain$State"
theorem nmX8 : ∀ a, a < 3 → ∀ b, b < 3 → a ≠ b → (TX8 a).2.1 ≠ (TX8 b).2.1 := by decide +kernel
theorem tyX8_ok : ∀ k, k < 3 → parseFieldDescriptor (TX8 k).2.2.1 = some (tyX8 k) := by decide +kernel
abbrev cX8_init : ByteArray := prog_10_method_1_code
def yX8_init : MethodName := ⟨RX8, "<init>", "(LOwnRain$State;)V"⟩
abbrev cX8_measure : ByteArray := prog_10_method_2_code
def yX8_measure : MethodName := ⟨RX8, "measure", "(II)V"⟩
abbrev cX8_nextField : ByteArray := prog_10_method_3_code
def yX8_nextField : MethodName := ⟨RX8, "nextField", "(III)I"⟩
abbrev cX8_comeTo : ByteArray := prog_10_method_4_code
def yX8_comeTo : MethodName := ⟨RX8, "comeTo", "(III)I"⟩
abbrev cX8_width : ByteArray := prog_10_method_5_code
def yX8_width : MethodName := ⟨RX8, "width", "(II)I"⟩
abbrev cX8_widen : ByteArray := prog_10_method_6_code
def yX8_widen : MethodName := ⟨RX8, "widen", "(I)V"⟩
def RX9 : String := "OwnRain$Weather"
def TX9 : u_T := fun k => match k with
  | 0 => ("OwnRain$Weather", "tax", "I", false)
  | 1 => ("OwnRain$Weather", "sweat", "[I", true)
  | 2 => ("OwnRain$Weather", "wet", "[I", true)
  | 3 => ("OwnRain$Weather", "rainers", "I", false)
  | 4 => ("OwnRain$Weather", "state", "LOwnRain$State;", true)
  | 5 => ("OwnRain$Weather", "waiting", "[I", true)
  | 6 => ("OwnRain$Weather", "groups", "[I", true)
  | 7 => ("OwnRain$Weather", "world", "LOwnRain$World;", false)
  | 8 => ("OwnRain$Weather", "here", "I", false)
  | _ => ("OwnRain$Weather", "both", "I", false)
def tyX9 : Nat → FieldType := fun k => match k with
  | 0 => .int
  | 1 => .array .int
  | 2 => .array .int
  | 3 => .int
  | 4 => .object "OwnRain$State"
  | 5 => .array .int
  | 6 => .array .int
  | 7 => .object "OwnRain$World"
  | 8 => .int
  | _ => .int
theorem nmX9 : ∀ a, a < 10 → ∀ b, b < 10 → a ≠ b → (TX9 a).2.1 ≠ (TX9 b).2.1 := by decide +kernel
theorem tyX9_ok : ∀ k, k < 10 → parseFieldDescriptor (TX9 k).2.2.1 = some (tyX9 k) := by decide +kernel
abbrev cX9_init : ByteArray := prog_11_method_1_code
def yX9_init : MethodName := ⟨RX9, "<init>", "(LOwnRain$State;)V"⟩
abbrev cX9_pass : ByteArray := prog_11_method_2_code
def yX9_pass : MethodName := ⟨RX9, "pass", "(LOwnRain$World;)I"⟩
abbrev cX9_sweatOf : ByteArray := prog_11_method_3_code
def yX9_sweatOf : MethodName := ⟨RX9, "sweatOf", "(LOwnRain$World;I)I"⟩
abbrev cX9_rainFrom : ByteArray := prog_11_method_4_code
def yX9_rainFrom : MethodName := ⟨RX9, "rainFrom", "(LOwnRain$World;I)V"⟩
abbrev cX9_closeHour : ByteArray := prog_11_method_5_code
def yX9_closeHour : MethodName := ⟨RX9, "closeHour", "(LOwnRain$World;I)V"⟩
abbrev cX9_merge : ByteArray := prog_11_method_6_code
def yX9_merge : MethodName := ⟨RX9, "merge", "(LOwnRain$World;II)V"⟩
abbrev cX9_law : ByteArray := prog_11_method_7_code
def yX9_law : MethodName := ⟨RX9, "law", "(IILOwnRain$World;II)I"⟩
abbrev cX9_run : ByteArray := prog_11_method_8_code
def yX9_run : MethodName := ⟨RX9, "run", "(LOwnRain$Text;III)I"⟩
abbrev cX9_bounded : ByteArray := prog_11_method_9_code
def yX9_bounded : MethodName := ⟨RX9, "bounded", "(J)I"⟩
abbrev cX9_joined : ByteArray := prog_11_method_10_code
def yX9_joined : MethodName := ⟨RX9, "joined", "(IJJ)J"⟩
abbrev cX9_named : ByteArray := prog_11_method_11_code
def yX9_named : MethodName := ⟨RX9, "named", "(II)I"⟩
def RX10 : String := "OwnRain$World"
def TX10 : u_T := fun k => match k with
  | 0 => ("OwnRain$World", "wet", "[I", true)
  | 1 => ("OwnRain$World", "grown", "[I", true)
  | 2 => ("OwnRain$World", "flooded", "[I", true)
  | 3 => ("OwnRain$World", "cloud", "[I", true)
  | 4 => ("OwnRain$World", "work", "[I", true)
  | 5 => ("OwnRain$World", "at", "[I", true)
  | 6 => ("OwnRain$World", "cistern", "I", false)
  | 7 => ("OwnRain$World", "sweated", "I", false)
  | 8 => ("OwnRain$World", "dried", "I", false)
  | 9 => ("OwnRain$World", "hour", "I", false)
  | 10 => ("OwnRain$World", "x", "I", false)
  | 11 => ("OwnRain$World", "rainCount", "I", false)
  | 12 => ("OwnRain$World", "rainNext", "I", false)
  | 13 => ("OwnRain$World", "rains", "[I", true)
  | _ => ("OwnRain$World", "where", "[I", true)
def tyX10 : Nat → FieldType := fun k => match k with
  | 0 => .array .int
  | 1 => .array .int
  | 2 => .array .int
  | 3 => .array .int
  | 4 => .array .int
  | 5 => .array .int
  | 6 => .int
  | 7 => .int
  | 8 => .int
  | 9 => .int
  | 10 => .int
  | 11 => .int
  | 12 => .int
  | 13 => .array .int
  | _ => .array .int
theorem nmX10 : ∀ a, a < 15 → ∀ b, b < 15 → a ≠ b → (TX10 a).2.1 ≠ (TX10 b).2.1 := by decide +kernel
theorem tyX10_ok : ∀ k, k < 15 → parseFieldDescriptor (TX10 k).2.2.1 = some (tyX10 k) := by decide +kernel
abbrev cX10_init : ByteArray := prog_12_method_1_code
def yX10_init : MethodName := ⟨RX10, "<init>", "()V"⟩
abbrev cX10_copyFrom : ByteArray := prog_12_method_2_code
def yX10_copyFrom : MethodName := ⟨RX10, "copyFrom", "(LOwnRain$World;)V"⟩
abbrev cX10_settle : ByteArray := prog_12_method_3_code
def yX10_settle : MethodName := ⟨RX10, "settle", "(III)V"⟩
abbrev cX10_take : ByteArray := prog_12_method_4_code
def yX10_take : MethodName := ⟨RX10, "take", "(III)V"⟩
abbrev cX10_drawAnew : ByteArray := prog_12_method_5_code
def yX10_drawAnew : MethodName := ⟨RX10, "drawAnew", "()V"⟩
abbrev cX10_peopleOn : ByteArray := prog_12_method_6_code
def yX10_peopleOn : MethodName := ⟨RX10, "peopleOn", "(II)I"⟩
abbrev cX10_writeRain : ByteArray := prog_12_method_7_code
def yX10_writeRain : MethodName := ⟨RX10, "writeRain", "(III)V"⟩
abbrev cX10_rain : ByteArray := prog_12_method_8_code
def yX10_rain : MethodName := ⟨RX10, "rain", "(I)I"⟩
abbrev cX10_rainDrops : ByteArray := prog_12_method_9_code
def yX10_rainDrops : MethodName := ⟨RX10, "rainDrops", "(I)I"⟩
abbrev cX10_rainField : ByteArray := prog_12_method_10_code
def yX10_rainField : MethodName := ⟨RX10, "rainField", "(I)I"⟩
abbrev cX10_rainPerson : ByteArray := prog_12_method_11_code
def yX10_rainPerson : MethodName := ⟨RX10, "rainPerson", "(I)I"⟩
abbrev cX10_rainHour : ByteArray := prog_12_method_12_code
def yX10_rainHour : MethodName := ⟨RX10, "rainHour", "(I)I"⟩
abbrev cX10_writeWhere : ByteArray := prog_12_method_13_code
def yX10_writeWhere : MethodName := ⟨RX10, "writeWhere", "(I)V"⟩
abbrev cX10_whereWas : ByteArray := prog_12_method_14_code
def yX10_whereWas : MethodName := ⟨RX10, "whereWas", "(II)I"⟩
def RX11 : String := "OwnRain"
def TX11 : u_T := fun k => match k with
  | 0 => ("OwnRain", "now", "LOwnRain$State;", true)
  | 1 => ("OwnRain", "kept", "LOwnRain$State;", true)
  | 2 => ("OwnRain", "tape", "LOwnRain$Tape;", true)
  | 3 => ("OwnRain", "reader", "LOwnRain$Reader;", true)
  | 4 => ("OwnRain", "weather", "LOwnRain$Weather;", true)
  | 5 => ("OwnRain", "planner", "LOwnRain$Planner;", true)
  | _ => ("OwnRain", "ways", "LOwnRain$Ways;", true)
def tyX11 : Nat → FieldType := fun k => match k with
  | 0 => .object "OwnRain$State"
  | 1 => .object "OwnRain$State"
  | 2 => .object "OwnRain$Tape"
  | 3 => .object "OwnRain$Reader"
  | 4 => .object "OwnRain$Weather"
  | 5 => .object "OwnRain$Planner"
  | _ => .object "OwnRain$Ways"
theorem nmX11 : ∀ a, a < 7 → ∀ b, b < 7 → a ≠ b → (TX11 a).2.1 ≠ (TX11 b).2.1 := by decide +kernel
theorem tyX11_ok : ∀ k, k < 7 → parseFieldDescriptor (TX11 k).2.2.1 = some (tyX11 k) := by decide +kernel
abbrev cX11_init : ByteArray := prog_1_method_1_code
def yX11_init : MethodName := ⟨RX11, "<init>", "()V"⟩
abbrev cX11_field : ByteArray := prog_1_method_2_code
def yX11_field : MethodName := ⟨RX11, "field", "(III)I"⟩
abbrev cX11_road : ByteArray := prog_1_method_3_code
def yX11_road : MethodName := ⟨RX11, "road", "(II)Z"⟩
abbrev cX11_person : ByteArray := prog_1_method_4_code
def yX11_person : MethodName := ⟨RX11, "person", "(IIII)I"⟩
abbrev cX11_feed : ByteArray := prog_1_method_5_code
def yX11_feed : MethodName := ⟨RX11, "feed", "(IIIII)I"⟩
abbrev cX11_end : ByteArray := prog_1_method_6_code
def yX11_end : MethodName := ⟨RX11, "end", "(I)I"⟩
abbrev cX11_text : ByteArray := prog_1_method_7_code
def yX11_text : MethodName := ⟨RX11, "text", "()I"⟩
abbrev cX11_fault : ByteArray := prog_1_method_8_code
def yX11_fault : MethodName := ⟨RX11, "fault", "(I)I"⟩
abbrev cX11_by : ByteArray := prog_1_method_9_code
def yX11_by : MethodName := ⟨RX11, "by", "(I)Z"⟩
abbrev cX11_hour : ByteArray := prog_1_method_10_code
def yX11_hour : MethodName := ⟨RX11, "hour", "(I)I"⟩
abbrev cX11_work : ByteArray := prog_1_method_11_code
def yX11_work : MethodName := ⟨RX11, "work", "(II)Z"⟩
abbrev cX11_go : ByteArray := prog_1_method_12_code
def yX11_go : MethodName := ⟨RX11, "go", "(II)Z"⟩
abbrev cX11_shake : ByteArray := prog_1_method_13_code
def yX11_shake : MethodName := ⟨RX11, "shake", "(II)I"⟩
abbrev cX11_steal : ByteArray := prog_1_method_14_code
def yX11_steal : MethodName := ⟨RX11, "steal", "(III)I"⟩
abbrev cX11_pour : ByteArray := prog_1_method_15_code
def yX11_pour : MethodName := ⟨RX11, "pour", "(II)I"⟩
abbrev cX11_played : ByteArray := prog_1_method_16_code
def yX11_played : MethodName := ⟨RX11, "played", "(I)I"⟩
abbrev cX11_canDo : ByteArray := prog_1_method_17_code
def yX11_canDo : MethodName := ⟨RX11, "canDo", "(LOwnRain$Text;I)Z"⟩
abbrev cX11_year : ByteArray := prog_1_method_18_code
def yX11_year : MethodName := ⟨RX11, "year", "(II)I"⟩
abbrev cX11_draw : ByteArray := prog_1_method_19_code
def yX11_draw : MethodName := ⟨RX11, "draw", "()I"⟩
abbrev cX11_undo : ByteArray := prog_1_method_20_code
def yX11_undo : MethodName := ⟨RX11, "undo", "()I"⟩
abbrev cX11_ofField : ByteArray := prog_1_method_21_code
def yX11_ofField : MethodName := ⟨RX11, "ofField", "(II)I"⟩
abbrev cX11_ofPerson : ByteArray := prog_1_method_22_code
def yX11_ofPerson : MethodName := ⟨RX11, "ofPerson", "(II)I"⟩
abbrev cX11_rained : ByteArray := prog_1_method_23_code
def yX11_rained : MethodName := ⟨RX11, "rained", "(II)I"⟩
abbrev cX11_foretoldWet : ByteArray := prog_1_method_24_code
def yX11_foretoldWet : MethodName := ⟨RX11, "foretoldWet", "(II)I"⟩
abbrev cX11_foretoldCloud : ByteArray := prog_1_method_25_code
def yX11_foretoldCloud : MethodName := ⟨RX11, "foretoldCloud", "(IIZ)I"⟩
abbrev cX11_plan : ByteArray := prog_1_method_26_code
def yX11_plan : MethodName := ⟨RX11, "plan", "(III)I"⟩
abbrev cX11_match : ByteArray := prog_1_method_27_code
def yX11_match : MethodName := ⟨RX11, "match", "(III)I"⟩
abbrev cX11_shares : ByteArray := prog_1_method_28_code
def yX11_shares : MethodName := ⟨RX11, "shares", "(III)I"⟩
abbrev cX11_cross : ByteArray := prog_1_method_29_code
def yX11_cross : MethodName := ⟨RX11, "cross", "(IIII)I"⟩
abbrev cX11_widest : ByteArray := prog_1_method_30_code
def yX11_widest : MethodName := ⟨RX11, "widest", "(II)I"⟩
abbrev cX11_missing : ByteArray := prog_1_method_31_code
def yX11_missing : MethodName := ⟨RX11, "missing", "(III)I"⟩
abbrev cX11_near : ByteArray := prog_1_method_32_code
def yX11_near : MethodName := ⟨RX11, "near", "(I)I"⟩
abbrev cX11_nearOnes : ByteArray := prog_1_method_33_code
def yX11_nearOnes : MethodName := ⟨RX11, "nearOnes", "(I)I"⟩
abbrev cX11_thieves : ByteArray := prog_1_method_34_code
def yX11_thieves : MethodName := ⟨RX11, "thieves", "()I"⟩
abbrev cX11_filling : ByteArray := prog_1_method_35_code
def yX11_filling : MethodName := ⟨RX11, "filling", "(IIIIIZ)J"⟩
abbrev cX11_hotHours : ByteArray := prog_1_method_36_code
def yX11_hotHours : MethodName := ⟨RX11, "hotHours", "(II)[J"⟩
abbrev cX11_commonDivisor : ByteArray := prog_1_method_37_code
def yX11_commonDivisor : MethodName := ⟨RX11, "commonDivisor", "(JJ)J"⟩
abbrev cX11_forecast : ByteArray := prog_1_method_38_code
def yX11_forecast : MethodName := ⟨RX11, "forecast", "(IZ)I"⟩
abbrev cX11_errors : ByteArray := prog_1_method_39_code
def yX11_errors : MethodName := ⟨RX11, "errors", "(IZ)I"⟩
abbrev cX11_bound : ByteArray := prog_1_method_40_code
def yX11_bound : MethodName := ⟨RX11, "bound", "()I"⟩
abbrev cX11_offer : ByteArray := prog_1_method_41_code
def yX11_offer : MethodName := ⟨RX11, "offer", "(ZII)I"⟩
abbrev cX11_market : ByteArray := prog_1_method_42_code
def yX11_market : MethodName := ⟨RX11, "market", "(I)I"⟩
abbrev cX11_greatestTax : ByteArray := prog_1_method_43_code
def yX11_greatestTax : MethodName := ⟨RX11, "greatestTax", "(I)I"⟩
abbrev cX11_water : ByteArray := prog_1_method_44_code
def yX11_water : MethodName := ⟨RX11, "water", "()I"⟩
abbrev cX11_image : ByteArray := prog_1_method_45_code
def yX11_image : MethodName := ⟨RX11, "image", "()I"⟩
abbrev cX11_back : ByteArray := prog_1_method_46_code
def yX11_back : MethodName := ⟨RX11, "back", "()I"⟩
abbrev cX11_about : ByteArray := prog_1_method_47_code
def yX11_about : MethodName := ⟨RX11, "about", "(I)I"⟩
abbrev cX11_isWithin : ByteArray := prog_1_method_48_code
def yX11_isWithin : MethodName := ⟨RX11, "isWithin", "(III)Z"⟩
abbrev cX11_bring : ByteArray := prog_1_method_49_code
def yX11_bring : MethodName := ⟨RX11, "bring", "(III)I"⟩
abbrev cX11_isSet : ByteArray := prog_1_method_50_code
def yX11_isSet : MethodName := ⟨RX11, "isSet", "(II)Z"⟩
abbrev cX11_isOf : ByteArray := prog_1_method_51_code
def yX11_isOf : MethodName := ⟨RX11, "isOf", "(II)Z"⟩
def RX12 : String := "OwnRainModel"
def TX12 : u_T := fun k => match k with
  | 0 => ("OwnRainModel", "a", "[I", true)
  | 1 => ("OwnRainModel", "image", "[I", true)
  | 2 => ("OwnRainModel", "texts", "[I", true)
  | 3 => ("OwnRainModel", "tape", "[I", true)
  | 4 => ("OwnRainModel", "taped", "I", false)
  | 5 => ("OwnRainModel", "fault", "I", false)
  | 6 => ("OwnRainModel", "faultPlace", "I", false)
  | 7 => ("OwnRainModel", "at", "I", false)
  | 8 => ("OwnRainModel", "place", "I", false)
  | 9 => ("OwnRainModel", "token", "I", false)
  | 10 => ("OwnRainModel", "number", "I", false)
  | 11 => ("OwnRainModel", "word", "J", false)
  | 12 => ("OwnRainModel", "text0", "I", false)
  | 13 => ("OwnRainModel", "written", "I", false)
  | 14 => ("OwnRainModel", "sort0", "I", false)
  | 15 => ("OwnRainModel", "pile", "[I", true)
  | 16 => ("OwnRainModel", "begins", "[I", true)
  | 17 => ("OwnRainModel", "piled", "I", false)
  | 18 => ("OwnRainModel", "opens", "I", false)
  | 19 => ("OwnRainModel", "inner", "I", false)
  | 20 => ("OwnRainModel", "isWhole", "Z", false)
  | 21 => ("OwnRainModel", "once", "I", false)
  | 22 => ("OwnRainModel", "named", "[I", true)
  | 23 => ("OwnRainModel", "here", "I", false)
  | 24 => ("OwnRainModel", "alone", "I", false)
  | 25 => ("OwnRainModel", "values", "[J", true)
  | 26 => ("OwnRainModel", "truth", "[Z", true)
  | 27 => ("OwnRainModel", "sums", "[J", true)
  | 28 => ("OwnRainModel", "within", "[I", true)
  | 29 => ("OwnRainModel", "ahead", "[I", true)
  | 30 => ("OwnRainModel", "named0", "I", false)
  | 31 => ("OwnRainModel", "deep", "I", false)
  | 32 => ("OwnRainModel", "eachAt", "[I", true)
  | 33 => ("OwnRainModel", "wholeOf", "[J", true)
  | 34 => ("OwnRainModel", "wholeIn", "[I", true)
  | 35 => ("OwnRainModel", "asking", "I", false)
  | 36 => ("OwnRainModel", "hourNow", "I", false)
  | 37 => ("OwnRainModel", "taxNow", "I", false)
  | 38 => ("OwnRainModel", "isWritten", "Z", false)
  | 39 => ("OwnRainModel", "firstRain", "[I", true)
  | 40 => ("OwnRainModel", "hoursGone", "I", false)
  | 41 => ("OwnRainModel", "aside", "[I", true)
  | 42 => ("OwnRainModel", "plans", "[I", true)
  | 43 => ("OwnRainModel", "worker", "[I", true)
  | 44 => ("OwnRainModel", "ground", "[I", true)
  | 45 => ("OwnRainModel", "yields", "[I", true)
  | 46 => ("OwnRainModel", "order", "[I", true)
  | 47 => ("OwnRainModel", "bestOrder", "[I", true)
  | 48 => ("OwnRainModel", "given", "[I", true)
  | 49 => ("OwnRainModel", "left", "[I", true)
  | 50 => ("OwnRainModel", "roads", "[I", true)
  | 51 => ("OwnRainModel", "hot", "[J", true)
  | _ => ("OwnRainModel", "grows", "[I", true)
def tyX12 : Nat → FieldType := fun k => match k with
  | 0 => .array .int
  | 1 => .array .int
  | 2 => .array .int
  | 3 => .array .int
  | 4 => .int
  | 5 => .int
  | 6 => .int
  | 7 => .int
  | 8 => .int
  | 9 => .int
  | 10 => .int
  | 11 => .long
  | 12 => .int
  | 13 => .int
  | 14 => .int
  | 15 => .array .int
  | 16 => .array .int
  | 17 => .int
  | 18 => .int
  | 19 => .int
  | 20 => .boolean
  | 21 => .int
  | 22 => .array .int
  | 23 => .int
  | 24 => .int
  | 25 => .array .long
  | 26 => .array .boolean
  | 27 => .array .long
  | 28 => .array .int
  | 29 => .array .int
  | 30 => .int
  | 31 => .int
  | 32 => .array .int
  | 33 => .array .long
  | 34 => .array .int
  | 35 => .int
  | 36 => .int
  | 37 => .int
  | 38 => .boolean
  | 39 => .array .int
  | 40 => .int
  | 41 => .array .int
  | 42 => .array .int
  | 43 => .array .int
  | 44 => .array .int
  | 45 => .array .int
  | 46 => .array .int
  | 47 => .array .int
  | 48 => .array .int
  | 49 => .array .int
  | 50 => .array .int
  | 51 => .array .long
  | _ => .array .int
theorem nmX12 : ∀ a, a < 53 → ∀ b, b < 53 → a ≠ b → (TX12 a).2.1 ≠ (TX12 b).2.1 := by decide +kernel
theorem tyX12_ok : ∀ k, k < 53 → parseFieldDescriptor (TX12 k).2.2.1 = some (tyX12 k) := by decide +kernel
abbrev cX12_init : ByteArray := prog_14_method_1_code
def yX12_init : MethodName := ⟨RX12, "<init>", "()V"⟩
abbrev cX12_copy : ByteArray := prog_14_method_2_code
def yX12_copy : MethodName := ⟨RX12, "copy", "([I[I)V"⟩
abbrev cX12_isIn : ByteArray := prog_14_method_3_code
def yX12_isIn : MethodName := ⟨RX12, "isIn", "(III)Z"⟩
abbrev cX12_has : ByteArray := prog_14_method_4_code
def yX12_has : MethodName := ⟨RX12, "has", "(II)Z"⟩
abbrev cX12_bits : ByteArray := prog_14_method_5_code
def yX12_bits : MethodName := ⟨RX12, "bits", "(I)I"⟩
abbrev cX12_isField : ByteArray := prog_14_method_6_code
def yX12_isField : MethodName := ⟨RX12, "isField", "(I)Z"⟩
abbrev cX12_isPerson : ByteArray := prog_14_method_7_code
def yX12_isPerson : MethodName := ⟨RX12, "isPerson", "(I)Z"⟩
abbrev cX12_fieldOf : ByteArray := prog_14_method_8_code
def yX12_fieldOf : MethodName := ⟨RX12, "fieldOf", "(II)I"⟩
abbrev cX12_get : ByteArray := prog_14_method_9_code
def yX12_get : MethodName := ⟨RX12, "get", "(II)I"⟩
abbrev cX12_set : ByteArray := prog_14_method_10_code
def yX12_set : MethodName := ⟨RX12, "set", "(III)V"⟩
abbrev cX12_addTo : ByteArray := prog_14_method_11_code
def yX12_addTo : MethodName := ⟨RX12, "addTo", "(II)V"⟩
abbrev cX12_wet : ByteArray := prog_14_method_12_code
def yX12_wet : MethodName := ⟨RX12, "wet", "(II)V"⟩
abbrev cX12_field : ByteArray := prog_14_method_13_code
def yX12_field : MethodName := ⟨RX12, "field", "(III)I"⟩
abbrev cX12_road : ByteArray := prog_14_method_14_code
def yX12_road : MethodName := ⟨RX12, "road", "(II)Z"⟩
abbrev cX12_person : ByteArray := prog_14_method_15_code
def yX12_person : MethodName := ⟨RX12, "person", "(IIII)I"⟩
abbrev cX12_four : ByteArray := prog_14_method_16_code
def yX12_four : MethodName := ⟨RX12, "four", "(I)V"⟩
abbrev cX12_feed : ByteArray := prog_14_method_17_code
def yX12_feed : MethodName := ⟨RX12, "feed", "(IIIII)I"⟩
abbrev cX12_end : ByteArray := prog_14_method_18_code
def yX12_end : MethodName := ⟨RX12, "end", "(I)I"⟩
abbrev cX12_byteAt : ByteArray := prog_14_method_19_code
def yX12_byteAt : MethodName := ⟨RX12, "byteAt", "(I)I"⟩
abbrev cX12_isLetterByte : ByteArray := prog_14_method_20_code
def yX12_isLetterByte : MethodName := ⟨RX12, "isLetterByte", "(I)Z"⟩
abbrev cX12_isFigure : ByteArray := prog_14_method_21_code
def yX12_isFigure : MethodName := ⟨RX12, "isFigure", "(I)Z"⟩
abbrev cX12_isSign : ByteArray := prog_14_method_22_code
def yX12_isSign : MethodName := ⟨RX12, "isSign", "(I)Z"⟩
abbrev cX12_nextToken : ByteArray := prog_14_method_23_code
def yX12_nextToken : MethodName := ⟨RX12, "nextToken", "()V"⟩
abbrev cX12_w2 : ByteArray := prog_14_method_24_code
def yX12_w2 : MethodName := ⟨RX12, "w2", "(II)J"⟩
abbrev cX12_w3 : ByteArray := prog_14_method_25_code
def yX12_w3 : MethodName := ⟨RX12, "w3", "(III)J"⟩
abbrev cX12_w4 : ByteArray := prog_14_method_26_code
def yX12_w4 : MethodName := ⟨RX12, "w4", "(IIII)J"⟩
abbrev cX12_w5 : ByteArray := prog_14_method_27_code
def yX12_w5 : MethodName := ⟨RX12, "w5", "(IIIII)J"⟩
abbrev cX12_w6 : ByteArray := prog_14_method_28_code
def yX12_w6 : MethodName := ⟨RX12, "w6", "(IIIIII)J"⟩
abbrev cX12_isWord : ByteArray := prog_14_method_29_code
def yX12_isWord : MethodName := ⟨RX12, "isWord", "(J)Z"⟩
abbrev cX12_emit : ByteArray := prog_14_method_30_code
def yX12_emit : MethodName := ⟨RX12, "emit", "(II)V"⟩
abbrev cX12_nameOf : ByteArray := prog_14_method_31_code
def yX12_nameOf : MethodName := ⟨RX12, "nameOf", "()I"⟩
abbrev cX12_isOf : ByteArray := prog_14_method_32_code
def yX12_isOf : MethodName := ⟨RX12, "isOf", "(I)Z"⟩
abbrev cX12_rank : ByteArray := prog_14_method_33_code
def yX12_rank : MethodName := ⟨RX12, "rank", "(I)I"⟩
abbrev cX12_settle : ByteArray := prog_14_method_34_code
def yX12_settle : MethodName := ⟨RX12, "settle", "(I)V"⟩
abbrev cX12_openNow : ByteArray := prog_14_method_35_code
def yX12_openNow : MethodName := ⟨RX12, "openNow", "()I"⟩
abbrev cX12_isCompared : ByteArray := prog_14_method_36_code
def yX12_isCompared : MethodName := ⟨RX12, "isCompared", "()Z"⟩
abbrev cX12_isAskAhead : ByteArray := prog_14_method_37_code
def yX12_isAskAhead : MethodName := ⟨RX12, "isAskAhead", "()Z"⟩
abbrev cX12_opened : ByteArray := prog_14_method_38_code
def yX12_opened : MethodName := ⟨RX12, "opened", "(I)I"⟩
abbrev cX12_beginOne : ByteArray := prog_14_method_39_code
def yX12_beginOne : MethodName := ⟨RX12, "beginOne", "()I"⟩
abbrev cX12_compareOf : ByteArray := prog_14_method_40_code
def yX12_compareOf : MethodName := ⟨RX12, "compareOf", "()I"⟩
abbrev cX12_betweenOf : ByteArray := prog_14_method_41_code
def yX12_betweenOf : MethodName := ⟨RX12, "betweenOf", "()I"⟩
abbrev cX12_shut : ByteArray := prog_14_method_42_code
def yX12_shut : MethodName := ⟨RX12, "shut", "(I)V"⟩
abbrev cX12_behindOne : ByteArray := prog_14_method_43_code
def yX12_behindOne : MethodName := ⟨RX12, "behindOne", "()Z"⟩
abbrev cX12_summed : ByteArray := prog_14_method_44_code
def yX12_summed : MethodName := ⟨RX12, "summed", "()I"⟩
abbrev cX12_figure : ByteArray := prog_14_method_45_code
def yX12_figure : MethodName := ⟨RX12, "figure", "(III)I"⟩
abbrev cX12_worded : ByteArray := prog_14_method_46_code
def yX12_worded : MethodName := ⟨RX12, "worded", "(JIII)I"⟩
abbrev cX12_lawClause : ByteArray := prog_14_method_47_code
def yX12_lawClause : MethodName := ⟨RX12, "lawClause", "(I)I"⟩
abbrev cX12_fieldClause : ByteArray := prog_14_method_48_code
def yX12_fieldClause : MethodName := ⟨RX12, "fieldClause", "(I)I"⟩
abbrev cX12_oneClause : ByteArray := prog_14_method_49_code
def yX12_oneClause : MethodName := ⟨RX12, "oneClause", "(I)I"⟩
abbrev cX12_stealClause : ByteArray := prog_14_method_50_code
def yX12_stealClause : MethodName := ⟨RX12, "stealClause", "(I)I"⟩
abbrev cX12_pair : ByteArray := prog_14_method_51_code
def yX12_pair : MethodName := ⟨RX12, "pair", "(IIIJI)I"⟩
abbrev cX12_body : ByteArray := prog_14_method_52_code
def yX12_body : MethodName := ⟨RX12, "body", "(II)I"⟩
abbrev cX12_sortOf : ByteArray := prog_14_method_53_code
def yX12_sortOf : MethodName := ⟨RX12, "sortOf", "()I"⟩
abbrev cX12_clause : ByteArray := prog_14_method_54_code
def yX12_clause : MethodName := ⟨RX12, "clause", "()I"⟩
abbrev cX12_readText : ByteArray := prog_14_method_55_code
def yX12_readText : MethodName := ⟨RX12, "readText", "()I"⟩
abbrev cX12_text : ByteArray := prog_14_method_56_code
def yX12_text : MethodName := ⟨RX12, "text", "()I"⟩
abbrev cX12_fault : ByteArray := prog_14_method_57_code
def yX12_fault : MethodName := ⟨RX12, "fault", "(I)I"⟩
abbrev cX12_by : ByteArray := prog_14_method_58_code
def yX12_by : MethodName := ⟨RX12, "by", "(I)Z"⟩
abbrev cX12_clip : ByteArray := prog_14_method_59_code
def yX12_clip : MethodName := ⟨RX12, "clip", "(J)J"⟩
abbrev cX12_two : ByteArray := prog_14_method_60_code
def yX12_two : MethodName := ⟨RX12, "two", "(IJJ)J"⟩
abbrev cX12_isAsked : ByteArray := prog_14_method_61_code
def yX12_isAsked : MethodName := ⟨RX12, "isAsked", "(IJJ)Z"⟩
abbrev cX12_name : ByteArray := prog_14_method_62_code
def yX12_name : MethodName := ⟨RX12, "name", "(I)V"⟩
abbrev cX12_nextThere : ByteArray := prog_14_method_63_code
def yX12_nextThere : MethodName := ⟨RX12, "nextThere", "(I)I"⟩
abbrev cX12_takeNext : ByteArray := prog_14_method_64_code
def yX12_takeNext : MethodName := ⟨RX12, "takeNext", "()Z"⟩
abbrev cX12_endEach : ByteArray := prog_14_method_65_code
def yX12_endEach : MethodName := ⟨RX12, "endEach", "(I)I"⟩
abbrev cX12_worked : ByteArray := prog_14_method_66_code
def yX12_worked : MethodName := ⟨RX12, "worked", "(I)I"⟩
abbrev cX12_says : ByteArray := prog_14_method_67_code
def yX12_says : MethodName := ⟨RX12, "says", "(IIIIII)I"⟩
abbrev cX12_sweatOf : ByteArray := prog_14_method_68_code
def yX12_sweatOf : MethodName := ⟨RX12, "sweatOf", "(II)I"⟩
abbrev cX12_write : ByteArray := prog_14_method_69_code
def yX12_write : MethodName := ⟨RX12, "write", "(II)V"⟩
abbrev cX12_rainOf : ByteArray := prog_14_method_70_code
def yX12_rainOf : MethodName := ⟨RX12, "rainOf", "(I)V"⟩
abbrev cX12_rainAll : ByteArray := prog_14_method_71_code
def yX12_rainAll : MethodName := ⟨RX12, "rainAll", "()I"⟩
abbrev cX12_dryAll : ByteArray := prog_14_method_72_code
def yX12_dryAll : MethodName := ⟨RX12, "dryAll", "()V"⟩
abbrev cX12_pass : ByteArray := prog_14_method_73_code
def yX12_pass : MethodName := ⟨RX12, "pass", "()I"⟩
abbrev cX12_keep : ByteArray := prog_14_method_74_code
def yX12_keep : MethodName := ⟨RX12, "keep", "()V"⟩
abbrev cX12_undo : ByteArray := prog_14_method_75_code
def yX12_undo : MethodName := ⟨RX12, "undo", "()I"⟩
abbrev cX12_passStep : ByteArray := prog_14_method_76_code
def yX12_passStep : MethodName := ⟨RX12, "passStep", "()I"⟩
abbrev cX12_hour : ByteArray := prog_14_method_77_code
def yX12_hour : MethodName := ⟨RX12, "hour", "(I)I"⟩
abbrev cX12_work : ByteArray := prog_14_method_78_code
def yX12_work : MethodName := ⟨RX12, "work", "(II)Z"⟩
abbrev cX12_canGo : ByteArray := prog_14_method_79_code
def yX12_canGo : MethodName := ⟨RX12, "canGo", "(II)Z"⟩
abbrev cX12_go : ByteArray := prog_14_method_80_code
def yX12_go : MethodName := ⟨RX12, "go", "(II)Z"⟩
abbrev cX12_canShake : ByteArray := prog_14_method_81_code
def yX12_canShake : MethodName := ⟨RX12, "canShake", "(II)Z"⟩
abbrev cX12_shakeNow : ByteArray := prog_14_method_82_code
def yX12_shakeNow : MethodName := ⟨RX12, "shakeNow", "(II)V"⟩
abbrev cX12_shake : ByteArray := prog_14_method_83_code
def yX12_shake : MethodName := ⟨RX12, "shake", "(II)I"⟩
abbrev cX12_canSteal : ByteArray := prog_14_method_84_code
def yX12_canSteal : MethodName := ⟨RX12, "canSteal", "(III)Z"⟩
abbrev cX12_stealNow : ByteArray := prog_14_method_85_code
def yX12_stealNow : MethodName := ⟨RX12, "stealNow", "(III)V"⟩
abbrev cX12_steal : ByteArray := prog_14_method_86_code
def yX12_steal : MethodName := ⟨RX12, "steal", "(III)I"⟩
abbrev cX12_pour : ByteArray := prog_14_method_87_code
def yX12_pour : MethodName := ⟨RX12, "pour", "(II)I"⟩
abbrev cX12_areHours : ByteArray := prog_14_method_88_code
def yX12_areHours : MethodName := ⟨RX12, "areHours", "(I)Z"⟩
abbrev cX12_isPlayed : ByteArray := prog_14_method_89_code
def yX12_isPlayed : MethodName := ⟨RX12, "isPlayed", "(I)Z"⟩
abbrev cX12_played : ByteArray := prog_14_method_90_code
def yX12_played : MethodName := ⟨RX12, "played", "(I)I"⟩
abbrev cX12_anew : ByteArray := prog_14_method_91_code
def yX12_anew : MethodName := ⟨RX12, "anew", "(I)I"⟩
abbrev cX12_happens : ByteArray := prog_14_method_92_code
def yX12_happens : MethodName := ⟨RX12, "happens", "(II)I"⟩
abbrev cX12_year : ByteArray := prog_14_method_93_code
def yX12_year : MethodName := ⟨RX12, "year", "(II)I"⟩
abbrev cX12_peopleOn : ByteArray := prog_14_method_94_code
def yX12_peopleOn : MethodName := ⟨RX12, "peopleOn", "(I)I"⟩
abbrev cX12_ofField : ByteArray := prog_14_method_95_code
def yX12_ofField : MethodName := ⟨RX12, "ofField", "(II)I"⟩
abbrev cX12_wasAt : ByteArray := prog_14_method_96_code
def yX12_wasAt : MethodName := ⟨RX12, "wasAt", "(II)I"⟩
abbrev cX12_ofPerson : ByteArray := prog_14_method_97_code
def yX12_ofPerson : MethodName := ⟨RX12, "ofPerson", "(II)I"⟩
abbrev cX12_rained : ByteArray := prog_14_method_98_code
def yX12_rained : MethodName := ⟨RX12, "rained", "(II)I"⟩
abbrev cX12_begin : ByteArray := prog_14_method_99_code
def yX12_begin : MethodName := ⟨RX12, "begin", "()V"⟩
abbrev cX12_putBack : ByteArray := prog_14_method_100_code
def yX12_putBack : MethodName := ⟨RX12, "putBack", "()V"⟩
abbrev cX12_passOnward : ByteArray := prog_14_method_101_code
def yX12_passOnward : MethodName := ⟨RX12, "passOnward", "()V"⟩
abbrev cX12_foretoldWet : ByteArray := prog_14_method_102_code
def yX12_foretoldWet : MethodName := ⟨RX12, "foretoldWet", "(II)I"⟩
abbrev cX12_foretoldCloud : ByteArray := prog_14_method_103_code
def yX12_foretoldCloud : MethodName := ⟨RX12, "foretoldCloud", "(IIZ)I"⟩
abbrev cX12_sweatBy : ByteArray := prog_14_method_104_code
def yX12_sweatBy : MethodName := ⟨RX12, "sweatBy", "(III)I"⟩
abbrev cX12_sweatAllFor : ByteArray := prog_14_method_105_code
def yX12_sweatAllFor : MethodName := ⟨RX12, "sweatAllFor", "(I)I"⟩
abbrev cX12_plan : ByteArray := prog_14_method_106_code
def yX12_plan : MethodName := ⟨RX12, "plan", "(III)I"⟩
abbrev cX12_nextOrder : ByteArray := prog_14_method_107_code
def yX12_nextOrder : MethodName := ⟨RX12, "nextOrder", "(I)Z"⟩
abbrev cX12_findYields : ByteArray := prog_14_method_108_code
def yX12_findYields : MethodName := ⟨RX12, "findYields", "(I)V"⟩
abbrev cX12_layWorkers : ByteArray := prog_14_method_109_code
def yX12_layWorkers : MethodName := ⟨RX12, "layWorkers", "(II)Z"⟩
abbrev cX12_match : ByteArray := prog_14_method_110_code
def yX12_match : MethodName := ⟨RX12, "match", "(III)I"⟩
abbrev cX12_shares : ByteArray := prog_14_method_111_code
def yX12_shares : MethodName := ⟨RX12, "shares", "(III)I"⟩
abbrev cX12_canCome : ByteArray := prog_14_method_112_code
def yX12_canCome : MethodName := ⟨RX12, "canCome", "(II)Z"⟩
abbrev cX12_findRoads : ByteArray := prog_14_method_113_code
def yX12_findRoads : MethodName := ⟨RX12, "findRoads", "(II)V"⟩
abbrev cX12_nextField : ByteArray := prog_14_method_114_code
def yX12_nextField : MethodName := ⟨RX12, "nextField", "(II)I"⟩
abbrev cX12_cross : ByteArray := prog_14_method_115_code
def yX12_cross : MethodName := ⟨RX12, "cross", "(IIII)I"⟩
abbrev cX12_widest : ByteArray := prog_14_method_116_code
def yX12_widest : MethodName := ⟨RX12, "widest", "(II)I"⟩
abbrev cX12_missing : ByteArray := prog_14_method_117_code
def yX12_missing : MethodName := ⟨RX12, "missing", "(III)I"⟩
abbrev cX12_nearOf : ByteArray := prog_14_method_118_code
def yX12_nearOf : MethodName := ⟨RX12, "nearOf", "(I)I"⟩
abbrev cX12_near : ByteArray := prog_14_method_119_code
def yX12_near : MethodName := ⟨RX12, "near", "(I)I"⟩
abbrev cX12_thieves : ByteArray := prog_14_method_120_code
def yX12_thieves : MethodName := ⟨RX12, "thieves", "()I"⟩
abbrev cX12_common : ByteArray := prog_14_method_121_code
def yX12_common : MethodName := ⟨RX12, "common", "(JJ)J"⟩
abbrev cX12_filling : ByteArray := prog_14_method_122_code
def yX12_filling : MethodName := ⟨RX12, "filling", "(IIIIIZ)J"⟩
abbrev cX12_forecast : ByteArray := prog_14_method_123_code
def yX12_forecast : MethodName := ⟨RX12, "forecast", "(IZ)I"⟩
abbrev cX12_errorsOf : ByteArray := prog_14_method_124_code
def yX12_errorsOf : MethodName := ⟨RX12, "errorsOf", "(IZ)I"⟩
abbrev cX12_errors : ByteArray := prog_14_method_125_code
def yX12_errors : MethodName := ⟨RX12, "errors", "(IZ)I"⟩
abbrev cX12_bound : ByteArray := prog_14_method_126_code
def yX12_bound : MethodName := ⟨RX12, "bound", "()I"⟩
abbrev cX12_offer : ByteArray := prog_14_method_127_code
def yX12_offer : MethodName := ⟨RX12, "offer", "(ZII)I"⟩
abbrev cX12_tradedAt : ByteArray := prog_14_method_128_code
def yX12_tradedAt : MethodName := ⟨RX12, "tradedAt", "(I)I"⟩
abbrev cX12_market : ByteArray := prog_14_method_129_code
def yX12_market : MethodName := ⟨RX12, "market", "(I)I"⟩
abbrev cX12_greatestTax : ByteArray := prog_14_method_130_code
def yX12_greatestTax : MethodName := ⟨RX12, "greatestTax", "(I)I"⟩
abbrev cX12_water : ByteArray := prog_14_method_131_code
def yX12_water : MethodName := ⟨RX12, "water", "()I"⟩
abbrev cX12_image : ByteArray := prog_14_method_132_code
def yX12_image : MethodName := ⟨RX12, "image", "()I"⟩
abbrev cX12_back : ByteArray := prog_14_method_133_code
def yX12_back : MethodName := ⟨RX12, "back", "()I"⟩
abbrev cX12_about : ByteArray := prog_14_method_134_code
def yX12_about : MethodName := ⟨RX12, "about", "(I)I"⟩
def RJ11 : String := "java/lang/Character"
def TJ11 : u_T := fun k => match k with
  | _ => ("", "", "", false)
def tyJ11 : Nat → FieldType := fun k => match k with
  | _ => .int
theorem nmJ11 : ∀ a, a < 0 → ∀ b, b < 0 → a ≠ b → (TJ11 a).2.1 ≠ (TJ11 b).2.1 := by decide +kernel
theorem tyJ11_ok : ∀ k, k < 0 → parseFieldDescriptor (TJ11 k).2.2.1 = some (tyJ11 k) := by decide +kernel
abbrev cJ11_isValidCodePoint_9a6ad : ByteArray := prog_15_method_11_code
def yJ11_isValidCodePoint_9a6ad : MethodName := ⟨RJ11, "isValidCodePoint", "(I)Z"⟩
abbrev cJ11_highSurrogate_5068e : ByteArray := prog_15_method_28_code
def yJ11_highSurrogate_5068e : MethodName := ⟨RJ11, "highSurrogate", "(I)C"⟩
abbrev cJ11_lowSurrogate_5068e : ByteArray := prog_15_method_29_code
def yJ11_lowSurrogate_5068e : MethodName := ⟨RJ11, "lowSurrogate", "(I)C"⟩
def RJ6 : String := "java/lang/Integer"
def TJ6 : u_T := fun k => match k with
  | _ => ("", "", "", false)
def tyJ6 : Nat → FieldType := fun k => match k with
  | _ => .int
theorem nmJ6 : ∀ a, a < 0 → ∀ b, b < 0 → a ≠ b → (TJ6 a).2.1 ≠ (TJ6 b).2.1 := by decide +kernel
theorem tyJ6_ok : ∀ k, k < 0 → parseFieldDescriptor (TJ6 k).2.2.1 = some (tyJ6 k) := by decide +kernel
abbrev cJ6_bitCount_0f7a4 : ByteArray := prog_16_method_49_code
def yJ6_bitCount_0f7a4 : MethodName := ⟨RJ6, "bitCount", "(I)I"⟩
def RJ9 : String := "java/lang/Math"
def TJ9 : u_T := fun k => match k with
  | _ => ("", "", "", false)
def tyJ9 : Nat → FieldType := fun k => match k with
  | _ => .int
theorem nmJ9 : ∀ a, a < 0 → ∀ b, b < 0 → a ≠ b → (TJ9 a).2.1 ≠ (TJ9 b).2.1 := by decide +kernel
theorem tyJ9_ok : ∀ k, k < 0 → parseFieldDescriptor (TJ9 k).2.2.1 = some (tyJ9 k) := by decide +kernel
abbrev cJ9_max_7cf53 : ByteArray := prog_17_method_65_code
def yJ9_max_7cf53 : MethodName := ⟨RJ9, "max", "(II)I"⟩
abbrev cJ9_min_7cf53 : ByteArray := prog_17_method_69_code
def yJ9_min_7cf53 : MethodName := ⟨RJ9, "min", "(II)I"⟩
def RJ0 : String := "java/lang/String"
def TJ0 : u_T := fun k => match k with
  | _ => ("", "", "", false)
def tyJ0 : Nat → FieldType := fun k => match k with
  | _ => .int
theorem nmJ0 : ∀ a, a < 0 → ∀ b, b < 0 → a ≠ b → (TJ0 a).2.1 ≠ (TJ0 b).2.1 := by decide +kernel
theorem tyJ0_ok : ∀ k, k < 0 → parseFieldDescriptor (TJ0 k).2.2.1 = some (tyJ0 k) := by decide +kernel
abbrev cJ0_length_8abf5 : ByteArray := prog_18_method_54_code
def yJ0_length_8abf5 : MethodName := ⟨RJ0, "length", "()I"⟩
abbrev cJ0_charAt_5068e : ByteArray := prog_18_method_56_code
def yJ0_charAt_5068e : MethodName := ⟨RJ0, "charAt", "(I)C"⟩
abbrev cJ0_indexOf_0f7a4 : ByteArray := prog_18_method_79_code
def yJ0_indexOf_0f7a4 : MethodName := ⟨RJ0, "indexOf", "(I)I"⟩
abbrev cJ0_indexOf_7cf53 : ByteArray := prog_18_method_80_code
def yJ0_indexOf_7cf53 : MethodName := ⟨RJ0, "indexOf", "(II)I"⟩
abbrev cJ0_coder_7d493 : ByteArray := prog_18_method_152_code
def yJ0_coder_7d493 : MethodName := ⟨RJ0, "coder", "()B"⟩
abbrev cJ0_isLatin1_aae02 : ByteArray := prog_18_method_154_code
def yJ0_isLatin1_aae02 : MethodName := ⟨RJ0, "isLatin1", "()Z"⟩
abbrev cJ0_checkIndex_df160 : ByteArray := prog_18_method_155_code
def yJ0_checkIndex_df160 : MethodName := ⟨RJ0, "checkIndex", "(II)V"⟩
abbrev cJ0_checkBoundsBeginEnd_23922 : ByteArray := prog_18_method_158_code
def yJ0_checkBoundsBeginEnd_23922 : MethodName := ⟨RJ0, "checkBoundsBeginEnd", "(III)V"⟩
def RJ1 : String := "java/lang/StringLatin1"
def TJ1 : u_T := fun k => match k with
  | _ => ("", "", "", false)
def tyJ1 : Nat → FieldType := fun k => match k with
  | _ => .int
theorem nmJ1 : ∀ a, a < 0 → ∀ b, b < 0 → a ≠ b → (TJ1 a).2.1 ≠ (TJ1 b).2.1 := by decide +kernel
theorem tyJ1_ok : ∀ k, k < 0 → parseFieldDescriptor (TJ1 k).2.2.1 = some (tyJ1 k) := by decide +kernel
abbrev cJ1_charAt_3b067 : ByteArray := prog_19_method_2_code
def yJ1_charAt_3b067 : MethodName := ⟨RJ1, "charAt", "([BI)C"⟩
abbrev cJ1_canEncode_9a6ad : ByteArray := prog_19_method_4_code
def yJ1_canEncode_9a6ad : MethodName := ⟨RJ1, "canEncode", "(I)Z"⟩
abbrev cJ1_indexOf_4cfef : ByteArray := prog_19_method_22_code
def yJ1_indexOf_4cfef : MethodName := ⟨RJ1, "indexOf", "([BIII)I"⟩
abbrev cJ1_indexOfChar_4cfef : ByteArray := prog_19_method_23_code
def yJ1_indexOfChar_4cfef : MethodName := ⟨RJ1, "indexOfChar", "([BIII)I"⟩
def RJ2 : String := "java/lang/StringUTF16"
def TJ2 : u_T := fun k => match k with
  | _ => ("", "", "", false)
def tyJ2 : Nat → FieldType := fun k => match k with
  | _ => .int
theorem nmJ2 : ∀ a, a < 0 → ∀ b, b < 0 → a ≠ b → (TJ2 a).2.1 ≠ (TJ2 b).2.1 := by decide +kernel
theorem tyJ2_ok : ∀ k, k < 0 → parseFieldDescriptor (TJ2 k).2.2.1 = some (tyJ2 k) := by decide +kernel
abbrev cJ2_getChar_3b067 : ByteArray := prog_20_method_5_code
def yJ2_getChar_3b067 : MethodName := ⟨RJ2, "getChar", "([BI)C"⟩
abbrev cJ2_length_9d52b : ByteArray := prog_20_method_6_code
def yJ2_length_9d52b : MethodName := ⟨RJ2, "length", "([B)I"⟩
abbrev cJ2_indexOf_4cfef : ByteArray := prog_20_method_40_code
def yJ2_indexOf_4cfef : MethodName := ⟨RJ2, "indexOf", "([BIII)I"⟩
abbrev cJ2_indexOfChar_4cfef : ByteArray := prog_20_method_47_code
def yJ2_indexOfChar_4cfef : MethodName := ⟨RJ2, "indexOfChar", "([BIII)I"⟩
abbrev cJ2_indexOfCharUnsafe_4cfef : ByteArray := prog_20_method_48_code
def yJ2_indexOfCharUnsafe_4cfef : MethodName := ⟨RJ2, "indexOfCharUnsafe", "([BIII)I"⟩
abbrev cJ2_indexOfSupplementary_4cfef : ByteArray := prog_20_method_49_code
def yJ2_indexOfSupplementary_4cfef : MethodName := ⟨RJ2, "indexOfSupplementary", "([BIII)I"⟩
abbrev cJ2_charAt_3b067 : ByteArray := prog_20_method_83_code
def yJ2_charAt_3b067 : MethodName := ⟨RJ2, "charAt", "([BI)C"⟩
abbrev cJ2_checkIndex_2214a : ByteArray := prog_20_method_91_code
def yJ2_checkIndex_2214a : MethodName := ⟨RJ2, "checkIndex", "(I[B)V"⟩
abbrev cJ2_checkBoundsBeginEnd_d044e : ByteArray := prog_20_method_93_code
def yJ2_checkBoundsBeginEnd_d044e : MethodName := ⟨RJ2, "checkBoundsBeginEnd", "(II[B)V"⟩
def RJ10 : String := "java/lang/System"
def TJ10 : u_T := fun k => match k with
  | _ => ("", "", "", false)
def tyJ10 : Nat → FieldType := fun k => match k with
  | _ => .int
theorem nmJ10 : ∀ a, a < 0 → ∀ b, b < 0 → a ≠ b → (TJ10 a).2.1 ≠ (TJ10 b).2.1 := by decide +kernel
theorem tyJ10_ok : ∀ k, k < 0 → parseFieldDescriptor (TJ10 k).2.2.1 = some (tyJ10 k) := by decide +kernel
def RJ3 : String := "jdk/internal/util/Preconditions"
def TJ3 : u_T := fun k => match k with
  | _ => ("", "", "", false)
def tyJ3 : Nat → FieldType := fun k => match k with
  | _ => .int
theorem nmJ3 : ∀ a, a < 0 → ∀ b, b < 0 → a ≠ b → (TJ3 a).2.1 ≠ (TJ3 b).2.1 := by decide +kernel
theorem tyJ3_ok : ∀ k, k < 0 → parseFieldDescriptor (TJ3 k).2.2.1 = some (tyJ3 k) := by decide +kernel
abbrev cJ3_checkIndex_8e157 : ByteArray := prog_22_method_11_code
def yJ3_checkIndex_8e157 : MethodName := ⟨RJ3, "checkIndex", "(IILjava/util/function/BiFunction;)I"⟩
abbrev cJ3_checkFromToIndex_8c36e : ByteArray := prog_22_method_12_code
def yJ3_checkFromToIndex_8c36e : MethodName := ⟨RJ3, "checkFromToIndex", "(IIILjava/util/function/BiFunction;)I"⟩
def RL : String := "OwnRainLaw"
abbrev cL_law : ByteArray := code
def yL_law : MethodName := ⟨RL, "law", "([I)Z"⟩
abbrev vwCl : List vw_C := [(RX0, TX0, 10), (RX1, TX1, 11), (RX2, TX2, 10), (RX3, TX3, 7), (RX4, TX4, 7), (RX5, TX5, 4), (RX6, TX6, 6), (RX7, TX7, 13), (RX8, TX8, 3), (RX9, TX9, 10), (RX10, TX10, 15), (RX11, TX11, 7), (RX12, TX12, 53)]
def gtbl : List Cond := lw_tbl.filter goodWord
theorem gq {w : Cond} (i : Nat) (h : lw_tbl[i]? = some w) (hg : goodWord w = true) : w ∈ gtbl := List.mem_filter.mpr ⟨List.mem_of_getElem? h, hg⟩
theorem gqs {ws : List Cond} (ps : List Nat) (h : ws = ps.filterMap (fun i => lw_tbl[i]?)) (hg : ws.all goodWord = true) : ∀ w ∈ ws, w ∈ gtbl := by
  intro w hw
  have h1 := List.all_eq_true.mp hg w hw
  rw [h] at hw
  obtain ⟨i, -, hi⟩ := List.mem_filterMap.mp hw
  exact gq i hi h1
theorem gin {y : MethodName} {cc : ByteArray} {n : Nat} {ret : Option FieldType} (h : Cond.code y cc n ret ∈ gtbl) : GoodIn gtbl (Cond.code y cc n ret :: gtbl) := by
  intro w hw
  have hw' : w ∈ gtbl := by
    rcases List.mem_cons.mp hw with h' | h'
    · rw [h']; exact h
    · exact h'
  exact ⟨hw', good_of_word (List.mem_filter.mp hw').2⟩

theorem inZX0 : ∀ w ∈ u_ws RX0 TX0 10, w ∈ gtbl := gqs [186, 188, 190, 192, 194, 196, 198, 200, 202, 204] (by decide +kernel) (by decide +kernel)
theorem inZX1 : ∀ w ∈ u_ws RX1 TX1 11, w ∈ gtbl := gqs [335, 337, 339, 341, 343, 345, 347, 349, 351, 353, 355] (by decide +kernel) (by decide +kernel)
theorem inZX2 : ∀ w ∈ u_ws RX2 TX2 10, w ∈ gtbl := gqs [518, 520, 522, 524, 526, 528, 530, 532, 534, 536] (by decide +kernel) (by decide +kernel)
theorem inZX3 : ∀ w ∈ u_ws RX3 TX3 7, w ∈ gtbl := gqs [441, 443, 445, 447, 449, 451, 453] (by decide +kernel) (by decide +kernel)
theorem inZX4 : ∀ w ∈ u_ws RX4 TX4 7, w ∈ gtbl := gqs [380, 382, 384, 386, 388, 390, 392] (by decide +kernel) (by decide +kernel)
theorem inZX5 : ∀ w ∈ u_ws RX5 TX5 4, w ∈ gtbl := gqs [303, 305, 307, 309] (by decide +kernel) (by decide +kernel)
theorem inZX6 : ∀ w ∈ u_ws RX6 TX6 6, w ∈ gtbl := gqs [413, 415, 417, 419, 421, 423] (by decide +kernel) (by decide +kernel)
theorem inZX7 : ∀ w ∈ u_ws RX7 TX7 13, w ∈ gtbl := gqs [676, 678, 680, 682, 684, 686, 688, 690, 692, 694, 696, 698, 700] (by decide +kernel) (by decide +kernel)
theorem inZX8 : ∀ w ∈ u_ws RX8 TX8 3, w ∈ gtbl := gqs [549, 551, 553] (by decide +kernel) (by decide +kernel)
theorem inZX9 : ∀ w ∈ u_ws RX9 TX9 10, w ∈ gtbl := gqs [476, 478, 480, 482, 484, 486, 488, 490, 492, 494] (by decide +kernel) (by decide +kernel)
theorem inZX10 : ∀ w ∈ u_ws RX10 TX10 15, w ∈ gtbl := gqs [257, 259, 261, 263, 265, 267, 269, 271, 273, 275, 277, 279, 281, 283, 285] (by decide +kernel) (by decide +kernel)
theorem inZX11 : ∀ w ∈ u_ws RX11 TX11 7, w ∈ gtbl := gqs [563, 565, 567, 569, 571, 573, 575] (by decide +kernel) (by decide +kernel)
theorem inZX12 : ∀ w ∈ u_ws RX12 TX12 53, w ∈ gtbl := gqs [1447, 1449, 1451, 1453, 1455, 1457, 1459, 1461, 1463, 1465, 1467, 1469, 1471, 1473, 1475, 1477, 1479, 1481, 1483, 1485, 1487, 1489, 1491, 1493, 1495, 1497, 1499, 1501, 1503, 1505, 1507, 1509, 1511, 1513, 1515, 1517, 1519, 1521, 1523, 1525, 1527, 1529, 1531, 1533, 1535, 1537, 1539, 1541, 1543, 1545, 1547, 1549, 1551] (by decide +kernel) (by decide +kernel)
theorem q0 : (Jvm.Cond.selects "OwnRain$Tape" ({ cls := "OwnRain$Tape", name := "addWord", desc := "(I)I" } : Jvm.MethodName) ({ cls := "OwnRain$Tape", name := "addWord", desc := "(I)I" } : Jvm.MethodName)) ∈ gtbl := gq 0 (by decide +kernel) rfl
theorem q1 : (Jvm.Cond.selects "OwnRain$Tape" ({ cls := "OwnRain$Tape", name := "wordOf", desc := "(II)I" } : Jvm.MethodName) ({ cls := "OwnRain$Tape", name := "wordOf", desc := "(II)I" } : Jvm.MethodName)) ∈ gtbl := gq 1 (by decide +kernel) rfl
theorem q2 : (Jvm.Cond.selects "OwnRain$Tape" ({ cls := "OwnRain$Tape", name := "addToken", desc := "(II)V" } : Jvm.MethodName) ({ cls := "OwnRain$Tape", name := "addToken", desc := "(II)V" } : Jvm.MethodName)) ∈ gtbl := gq 2 (by decide +kernel) rfl
theorem q3 : (Jvm.Cond.selects "OwnRain$Tape" ({ cls := "OwnRain$Tape", name := "addNumber", desc := "(I)I" } : Jvm.MethodName) ({ cls := "OwnRain$Tape", name := "addNumber", desc := "(I)I" } : Jvm.MethodName)) ∈ gtbl := gq 3 (by decide +kernel) rfl
theorem q4 : (Jvm.Cond.selects "OwnRain$Tape" ({ cls := "OwnRain$Tape", name := "addSign", desc := "(I)I" } : Jvm.MethodName) ({ cls := "OwnRain$Tape", name := "addSign", desc := "(I)I" } : Jvm.MethodName)) ∈ gtbl := gq 4 (by decide +kernel) rfl
theorem q5 : (Jvm.Cond.selects "OwnRain$Reader" ({ cls := "OwnRain$Reader", name := "readClause", desc := "(I)V" } : Jvm.MethodName) ({ cls := "OwnRain$Reader", name := "readClause", desc := "(I)V" } : Jvm.MethodName)) ∈ gtbl := gq 5 (by decide +kernel) rfl
theorem q6 : (Jvm.Cond.selects "OwnRain$Reader" ({ cls := "OwnRain$Reader", name := "fail", desc := "(I)V" } : Jvm.MethodName) ({ cls := "OwnRain$Reader", name := "fail", desc := "(I)V" } : Jvm.MethodName)) ∈ gtbl := gq 6 (by decide +kernel) rfl
theorem q7 : (Jvm.Cond.selects "OwnRain$Reader" ({ cls := "OwnRain$Reader", name := "advance", desc := "()V" } : Jvm.MethodName) ({ cls := "OwnRain$Reader", name := "advance", desc := "()V" } : Jvm.MethodName)) ∈ gtbl := gq 7 (by decide +kernel) rfl
theorem q8 : (Jvm.Cond.selects "OwnRain$Reader" ({ cls := "OwnRain$Reader", name := "readLaw", desc := "(I)V" } : Jvm.MethodName) ({ cls := "OwnRain$Reader", name := "readLaw", desc := "(I)V" } : Jvm.MethodName)) ∈ gtbl := gq 8 (by decide +kernel) rfl
theorem q9 : (Jvm.Cond.selects "OwnRain$Reader" ({ cls := "OwnRain$Reader", name := "readSum", desc := "(IZ)V" } : Jvm.MethodName) ({ cls := "OwnRain$Reader", name := "readSum", desc := "(IZ)V" } : Jvm.MethodName)) ∈ gtbl := gq 9 (by decide +kernel) rfl
theorem q10 : (Jvm.Cond.selects "OwnRain$Reader" ({ cls := "OwnRain$Reader", name := "readProduct", desc := "(IZ)V" } : Jvm.MethodName) ({ cls := "OwnRain$Reader", name := "readProduct", desc := "(IZ)V" } : Jvm.MethodName)) ∈ gtbl := gq 10 (by decide +kernel) rfl
theorem q11 : (Jvm.Cond.selects "OwnRain$Reader" ({ cls := "OwnRain$Reader", name := "readOne", desc := "(IZ)V" } : Jvm.MethodName) ({ cls := "OwnRain$Reader", name := "readOne", desc := "(IZ)V" } : Jvm.MethodName)) ∈ gtbl := gq 11 (by decide +kernel) rfl
theorem q12 : (Jvm.Cond.selects "OwnRain$Reader" ({ cls := "OwnRain$Reader", name := "expectNumber", desc := "(II)V" } : Jvm.MethodName) ({ cls := "OwnRain$Reader", name := "expectNumber", desc := "(II)V" } : Jvm.MethodName)) ∈ gtbl := gq 12 (by decide +kernel) rfl
theorem q13 : (Jvm.Cond.selects "OwnRain$Reader" ({ cls := "OwnRain$Reader", name := "readName", desc := "(Z)V" } : Jvm.MethodName) ({ cls := "OwnRain$Reader", name := "readName", desc := "(Z)V" } : Jvm.MethodName)) ∈ gtbl := gq 13 (by decide +kernel) rfl
theorem q14 : (Jvm.Cond.selects "OwnRain$Reader" ({ cls := "OwnRain$Reader", name := "opens", desc := "(I)Z" } : Jvm.MethodName) ({ cls := "OwnRain$Reader", name := "opens", desc := "(I)Z" } : Jvm.MethodName)) ∈ gtbl := gq 14 (by decide +kernel) rfl
theorem q15 : (Jvm.Cond.selects "OwnRain$Reader" ({ cls := "OwnRain$Reader", name := "expect", desc := "(I)V" } : Jvm.MethodName) ({ cls := "OwnRain$Reader", name := "expect", desc := "(I)V" } : Jvm.MethodName)) ∈ gtbl := gq 15 (by decide +kernel) rfl
theorem q16 : (Jvm.Cond.selects "OwnRain$Reader" ({ cls := "OwnRain$Reader", name := "readGroup", desc := "(I)V" } : Jvm.MethodName) ({ cls := "OwnRain$Reader", name := "readGroup", desc := "(I)V" } : Jvm.MethodName)) ∈ gtbl := gq 16 (by decide +kernel) rfl
theorem q17 : (Jvm.Cond.selects "OwnRain$Reader" ({ cls := "OwnRain$Reader", name := "readEither", desc := "(I)V" } : Jvm.MethodName) ({ cls := "OwnRain$Reader", name := "readEither", desc := "(I)V" } : Jvm.MethodName)) ∈ gtbl := gq 17 (by decide +kernel) rfl
theorem q18 : (Jvm.Cond.selects "OwnRain$Reader" ({ cls := "OwnRain$Reader", name := "readBoth", desc := "(I)V" } : Jvm.MethodName) ({ cls := "OwnRain$Reader", name := "readBoth", desc := "(I)V" } : Jvm.MethodName)) ∈ gtbl := gq 18 (by decide +kernel) rfl
theorem q19 : (Jvm.Cond.selects "OwnRain$Reader" ({ cls := "OwnRain$Reader", name := "readAsk", desc := "(I)V" } : Jvm.MethodName) ({ cls := "OwnRain$Reader", name := "readAsk", desc := "(I)V" } : Jvm.MethodName)) ∈ gtbl := gq 19 (by decide +kernel) rfl
theorem q20 : (Jvm.Cond.selects "OwnRain$Reader" ({ cls := "OwnRain$Reader", name := "readParts", desc := "(II)V" } : Jvm.MethodName) ({ cls := "OwnRain$Reader", name := "readParts", desc := "(II)V" } : Jvm.MethodName)) ∈ gtbl := gq 20 (by decide +kernel) rfl
theorem q21 : (Jvm.Cond.selects "OwnRain$Weather" ({ cls := "OwnRain$Weather", name := "law", desc := "(IILOwnRain$World;II)I" } : Jvm.MethodName) ({ cls := "OwnRain$Weather", name := "law", desc := "(IILOwnRain$World;II)I" } : Jvm.MethodName)) ∈ gtbl := gq 21 (by decide +kernel) rfl
theorem q22 : (Jvm.Cond.selects "OwnRain$Weather" ({ cls := "OwnRain$Weather", name := "run", desc := "(LOwnRain$Text;III)I" } : Jvm.MethodName) ({ cls := "OwnRain$Weather", name := "run", desc := "(LOwnRain$Text;III)I" } : Jvm.MethodName)) ∈ gtbl := gq 22 (by decide +kernel) rfl
theorem q23 : (Jvm.Cond.selects "OwnRain$Weather" ({ cls := "OwnRain$Weather", name := "named", desc := "(II)I" } : Jvm.MethodName) ({ cls := "OwnRain$Weather", name := "named", desc := "(II)I" } : Jvm.MethodName)) ∈ gtbl := gq 23 (by decide +kernel) rfl
theorem q24 : (Jvm.Cond.selects "OwnRain$Weather" ({ cls := "OwnRain$Weather", name := "rainFrom", desc := "(LOwnRain$World;I)V" } : Jvm.MethodName) ({ cls := "OwnRain$Weather", name := "rainFrom", desc := "(LOwnRain$World;I)V" } : Jvm.MethodName)) ∈ gtbl := gq 24 (by decide +kernel) rfl
theorem q25 : (Jvm.Cond.selects "OwnRain$Weather" ({ cls := "OwnRain$Weather", name := "closeHour", desc := "(LOwnRain$World;I)V" } : Jvm.MethodName) ({ cls := "OwnRain$Weather", name := "closeHour", desc := "(LOwnRain$World;I)V" } : Jvm.MethodName)) ∈ gtbl := gq 25 (by decide +kernel) rfl
theorem q26 : (Jvm.Cond.selects "OwnRain" ({ cls := "OwnRain", name := "canDo", desc := "(LOwnRain$Text;I)Z" } : Jvm.MethodName) ({ cls := "OwnRain", name := "canDo", desc := "(LOwnRain$Text;I)Z" } : Jvm.MethodName)) ∈ gtbl := gq 26 (by decide +kernel) rfl
theorem q27 : (Jvm.Cond.selects "OwnRain" ({ cls := "OwnRain", name := "draw", desc := "()I" } : Jvm.MethodName) ({ cls := "OwnRain", name := "draw", desc := "()I" } : Jvm.MethodName)) ∈ gtbl := gq 27 (by decide +kernel) rfl
theorem q28 : (Jvm.Cond.selects "OwnRain$World" ({ cls := "OwnRain$World", name := "rain", desc := "(I)I" } : Jvm.MethodName) ({ cls := "OwnRain$World", name := "rain", desc := "(I)I" } : Jvm.MethodName)) ∈ gtbl := gq 28 (by decide +kernel) rfl
theorem q29 : (Jvm.Cond.selects "OwnRain$Planner" ({ cls := "OwnRain$Planner", name := "freshWorld", desc := "()LOwnRain$World;" } : Jvm.MethodName) ({ cls := "OwnRain$Planner", name := "freshWorld", desc := "()LOwnRain$World;" } : Jvm.MethodName)) ∈ gtbl := gq 29 (by decide +kernel) rfl
theorem q30 : (Jvm.Cond.selects "OwnRain$Planner" ({ cls := "OwnRain$Planner", name := "tryWork", desc := "(IIIIZ)V" } : Jvm.MethodName) ({ cls := "OwnRain$Planner", name := "tryWork", desc := "(IIIIZ)V" } : Jvm.MethodName)) ∈ gtbl := gq 30 (by decide +kernel) rfl
theorem q31 : (Jvm.Cond.selects "OwnRain$Planner" ({ cls := "OwnRain$Planner", name := "sweatAt", desc := "(II)I" } : Jvm.MethodName) ({ cls := "OwnRain$Planner", name := "sweatAt", desc := "(II)I" } : Jvm.MethodName)) ∈ gtbl := gq 31 (by decide +kernel) rfl
theorem q32 : (Jvm.Cond.selects "OwnRain$Planner" ({ cls := "OwnRain$Planner", name := "mostBeyond", desc := "(III)I" } : Jvm.MethodName) ({ cls := "OwnRain$Planner", name := "mostBeyond", desc := "(III)I" } : Jvm.MethodName)) ∈ gtbl := gq 32 (by decide +kernel) rfl
theorem q33 : (Jvm.Cond.selects "OwnRain$Planner" ({ cls := "OwnRain$Planner", name := "lowestPlace", desc := "(III)I" } : Jvm.MethodName) ({ cls := "OwnRain$Planner", name := "lowestPlace", desc := "(III)I" } : Jvm.MethodName)) ∈ gtbl := gq 33 (by decide +kernel) rfl
theorem q34 : (Jvm.Cond.selects "OwnRain$Ways" ({ cls := "OwnRain$Ways", name := "nextField", desc := "(III)I" } : Jvm.MethodName) ({ cls := "OwnRain$Ways", name := "nextField", desc := "(III)I" } : Jvm.MethodName)) ∈ gtbl := gq 34 (by decide +kernel) rfl
theorem q35 : (Jvm.Cond.selects "OwnRain$Ways" ({ cls := "OwnRain$Ways", name := "widen", desc := "(I)V" } : Jvm.MethodName) ({ cls := "OwnRain$Ways", name := "widen", desc := "(I)V" } : Jvm.MethodName)) ∈ gtbl := gq 35 (by decide +kernel) rfl
theorem q36 : (Jvm.Cond.selects "OwnRain" ({ cls := "OwnRain", name := "nearOnes", desc := "(I)I" } : Jvm.MethodName) ({ cls := "OwnRain", name := "nearOnes", desc := "(I)I" } : Jvm.MethodName)) ∈ gtbl := gq 36 (by decide +kernel) rfl
theorem q37 : (Jvm.Cond.selects "OwnRain$Planner" ({ cls := "OwnRain$Planner", name := "growsAsMuch", desc := "(LOwnRain$World;)Z" } : Jvm.MethodName) ({ cls := "OwnRain$Planner", name := "growsAsMuch", desc := "(LOwnRain$World;)Z" } : Jvm.MethodName)) ∈ gtbl := gq 37 (by decide +kernel) rfl
theorem q38 : (Jvm.Cond.selects "OwnRainModel" ({ cls := "OwnRainModel", name := "isField", desc := "(I)Z" } : Jvm.MethodName) ({ cls := "OwnRainModel", name := "isField", desc := "(I)Z" } : Jvm.MethodName)) ∈ gtbl := gq 38 (by decide +kernel) rfl
theorem q39 : (Jvm.Cond.selects "OwnRainModel" ({ cls := "OwnRainModel", name := "fieldOf", desc := "(II)I" } : Jvm.MethodName) ({ cls := "OwnRainModel", name := "fieldOf", desc := "(II)I" } : Jvm.MethodName)) ∈ gtbl := gq 39 (by decide +kernel) rfl
theorem q40 : (Jvm.Cond.selects "OwnRainModel" ({ cls := "OwnRainModel", name := "set", desc := "(III)V" } : Jvm.MethodName) ({ cls := "OwnRainModel", name := "set", desc := "(III)V" } : Jvm.MethodName)) ∈ gtbl := gq 40 (by decide +kernel) rfl
theorem q41 : (Jvm.Cond.selects "OwnRainModel" ({ cls := "OwnRainModel", name := "four", desc := "(I)V" } : Jvm.MethodName) ({ cls := "OwnRainModel", name := "four", desc := "(I)V" } : Jvm.MethodName)) ∈ gtbl := gq 41 (by decide +kernel) rfl
theorem q42 : (Jvm.Cond.selects "OwnRainModel" ({ cls := "OwnRainModel", name := "readText", desc := "()I" } : Jvm.MethodName) ({ cls := "OwnRainModel", name := "readText", desc := "()I" } : Jvm.MethodName)) ∈ gtbl := gq 42 (by decide +kernel) rfl
theorem q43 : (Jvm.Cond.selects "OwnRainModel" ({ cls := "OwnRainModel", name := "nextToken", desc := "()V" } : Jvm.MethodName) ({ cls := "OwnRainModel", name := "nextToken", desc := "()V" } : Jvm.MethodName)) ∈ gtbl := gq 43 (by decide +kernel) rfl
theorem q44 : (Jvm.Cond.selects "OwnRainModel" ({ cls := "OwnRainModel", name := "byteAt", desc := "(I)I" } : Jvm.MethodName) ({ cls := "OwnRainModel", name := "byteAt", desc := "(I)I" } : Jvm.MethodName)) ∈ gtbl := gq 44 (by decide +kernel) rfl
theorem q45 : (Jvm.Cond.selects "OwnRainModel" ({ cls := "OwnRainModel", name := "clause", desc := "()I" } : Jvm.MethodName) ({ cls := "OwnRainModel", name := "clause", desc := "()I" } : Jvm.MethodName)) ∈ gtbl := gq 45 (by decide +kernel) rfl
theorem q46 : (Jvm.Cond.selects "OwnRainModel" ({ cls := "OwnRainModel", name := "sortOf", desc := "()I" } : Jvm.MethodName) ({ cls := "OwnRainModel", name := "sortOf", desc := "()I" } : Jvm.MethodName)) ∈ gtbl := gq 46 (by decide +kernel) rfl
theorem q47 : (Jvm.Cond.selects "OwnRainModel" ({ cls := "OwnRainModel", name := "isWord", desc := "(J)Z" } : Jvm.MethodName) ({ cls := "OwnRainModel", name := "isWord", desc := "(J)Z" } : Jvm.MethodName)) ∈ gtbl := gq 47 (by decide +kernel) rfl
theorem q48 : (Jvm.Cond.selects "OwnRainModel" ({ cls := "OwnRainModel", name := "body", desc := "(II)I" } : Jvm.MethodName) ({ cls := "OwnRainModel", name := "body", desc := "(II)I" } : Jvm.MethodName)) ∈ gtbl := gq 48 (by decide +kernel) rfl
theorem q49 : (Jvm.Cond.selects "OwnRainModel" ({ cls := "OwnRainModel", name := "fieldClause", desc := "(I)I" } : Jvm.MethodName) ({ cls := "OwnRainModel", name := "fieldClause", desc := "(I)I" } : Jvm.MethodName)) ∈ gtbl := gq 49 (by decide +kernel) rfl
theorem q50 : (Jvm.Cond.selects "OwnRainModel" ({ cls := "OwnRainModel", name := "figure", desc := "(III)I" } : Jvm.MethodName) ({ cls := "OwnRainModel", name := "figure", desc := "(III)I" } : Jvm.MethodName)) ∈ gtbl := gq 50 (by decide +kernel) rfl
theorem q51 : (Jvm.Cond.selects "OwnRainModel" ({ cls := "OwnRainModel", name := "worded", desc := "(JIII)I" } : Jvm.MethodName) ({ cls := "OwnRainModel", name := "worded", desc := "(JIII)I" } : Jvm.MethodName)) ∈ gtbl := gq 51 (by decide +kernel) rfl
theorem q52 : (Jvm.Cond.selects "OwnRainModel" ({ cls := "OwnRainModel", name := "pair", desc := "(IIIJI)I" } : Jvm.MethodName) ({ cls := "OwnRainModel", name := "pair", desc := "(IIIJI)I" } : Jvm.MethodName)) ∈ gtbl := gq 52 (by decide +kernel) rfl
theorem q53 : (Jvm.Cond.selects "OwnRainModel" ({ cls := "OwnRainModel", name := "oneClause", desc := "(I)I" } : Jvm.MethodName) ({ cls := "OwnRainModel", name := "oneClause", desc := "(I)I" } : Jvm.MethodName)) ∈ gtbl := gq 53 (by decide +kernel) rfl
theorem q54 : (Jvm.Cond.selects "OwnRainModel" ({ cls := "OwnRainModel", name := "stealClause", desc := "(I)I" } : Jvm.MethodName) ({ cls := "OwnRainModel", name := "stealClause", desc := "(I)I" } : Jvm.MethodName)) ∈ gtbl := gq 54 (by decide +kernel) rfl
theorem q55 : (Jvm.Cond.selects "OwnRainModel" ({ cls := "OwnRainModel", name := "lawClause", desc := "(I)I" } : Jvm.MethodName) ({ cls := "OwnRainModel", name := "lawClause", desc := "(I)I" } : Jvm.MethodName)) ∈ gtbl := gq 55 (by decide +kernel) rfl
theorem q56 : (Jvm.Cond.selects "OwnRainModel" ({ cls := "OwnRainModel", name := "summed", desc := "()I" } : Jvm.MethodName) ({ cls := "OwnRainModel", name := "summed", desc := "()I" } : Jvm.MethodName)) ∈ gtbl := gq 56 (by decide +kernel) rfl
theorem q57 : (Jvm.Cond.selects "OwnRainModel" ({ cls := "OwnRainModel", name := "behindOne", desc := "()Z" } : Jvm.MethodName) ({ cls := "OwnRainModel", name := "behindOne", desc := "()Z" } : Jvm.MethodName)) ∈ gtbl := gq 57 (by decide +kernel) rfl
theorem q58 : (Jvm.Cond.selects "OwnRainModel" ({ cls := "OwnRainModel", name := "betweenOf", desc := "()I" } : Jvm.MethodName) ({ cls := "OwnRainModel", name := "betweenOf", desc := "()I" } : Jvm.MethodName)) ∈ gtbl := gq 58 (by decide +kernel) rfl
theorem q59 : (Jvm.Cond.selects "OwnRainModel" ({ cls := "OwnRainModel", name := "openNow", desc := "()I" } : Jvm.MethodName) ({ cls := "OwnRainModel", name := "openNow", desc := "()I" } : Jvm.MethodName)) ∈ gtbl := gq 59 (by decide +kernel) rfl
theorem q60 : (Jvm.Cond.selects "OwnRainModel" ({ cls := "OwnRainModel", name := "isCompared", desc := "()Z" } : Jvm.MethodName) ({ cls := "OwnRainModel", name := "isCompared", desc := "()Z" } : Jvm.MethodName)) ∈ gtbl := gq 60 (by decide +kernel) rfl
theorem q61 : (Jvm.Cond.selects "OwnRainModel" ({ cls := "OwnRainModel", name := "compareOf", desc := "()I" } : Jvm.MethodName) ({ cls := "OwnRainModel", name := "compareOf", desc := "()I" } : Jvm.MethodName)) ∈ gtbl := gq 61 (by decide +kernel) rfl
theorem q62 : (Jvm.Cond.selects "OwnRainModel" ({ cls := "OwnRainModel", name := "settle", desc := "(I)V" } : Jvm.MethodName) ({ cls := "OwnRainModel", name := "settle", desc := "(I)V" } : Jvm.MethodName)) ∈ gtbl := gq 62 (by decide +kernel) rfl
theorem q63 : (Jvm.Cond.selects "OwnRainModel" ({ cls := "OwnRainModel", name := "emit", desc := "(II)V" } : Jvm.MethodName) ({ cls := "OwnRainModel", name := "emit", desc := "(II)V" } : Jvm.MethodName)) ∈ gtbl := gq 63 (by decide +kernel) rfl
theorem q64 : (Jvm.Cond.selects "OwnRainModel" ({ cls := "OwnRainModel", name := "shut", desc := "(I)V" } : Jvm.MethodName) ({ cls := "OwnRainModel", name := "shut", desc := "(I)V" } : Jvm.MethodName)) ∈ gtbl := gq 64 (by decide +kernel) rfl
theorem q65 : (Jvm.Cond.selects "OwnRainModel" ({ cls := "OwnRainModel", name := "beginOne", desc := "()I" } : Jvm.MethodName) ({ cls := "OwnRainModel", name := "beginOne", desc := "()I" } : Jvm.MethodName)) ∈ gtbl := gq 65 (by decide +kernel) rfl
theorem q66 : (Jvm.Cond.selects "OwnRainModel" ({ cls := "OwnRainModel", name := "nameOf", desc := "()I" } : Jvm.MethodName) ({ cls := "OwnRainModel", name := "nameOf", desc := "()I" } : Jvm.MethodName)) ∈ gtbl := gq 66 (by decide +kernel) rfl
theorem q67 : (Jvm.Cond.selects "OwnRainModel" ({ cls := "OwnRainModel", name := "isOf", desc := "(I)Z" } : Jvm.MethodName) ({ cls := "OwnRainModel", name := "isOf", desc := "(I)Z" } : Jvm.MethodName)) ∈ gtbl := gq 67 (by decide +kernel) rfl
theorem q68 : (Jvm.Cond.selects "OwnRainModel" ({ cls := "OwnRainModel", name := "opened", desc := "(I)I" } : Jvm.MethodName) ({ cls := "OwnRainModel", name := "opened", desc := "(I)I" } : Jvm.MethodName)) ∈ gtbl := gq 68 (by decide +kernel) rfl
theorem q69 : (Jvm.Cond.selects "OwnRainModel" ({ cls := "OwnRainModel", name := "isAskAhead", desc := "()Z" } : Jvm.MethodName) ({ cls := "OwnRainModel", name := "isAskAhead", desc := "()Z" } : Jvm.MethodName)) ∈ gtbl := gq 69 (by decide +kernel) rfl
theorem q70 : (Jvm.Cond.selects "OwnRainModel" ({ cls := "OwnRainModel", name := "get", desc := "(II)I" } : Jvm.MethodName) ({ cls := "OwnRainModel", name := "get", desc := "(II)I" } : Jvm.MethodName)) ∈ gtbl := gq 70 (by decide +kernel) rfl
theorem q71 : (Jvm.Cond.selects "OwnRainModel" ({ cls := "OwnRainModel", name := "passStep", desc := "()I" } : Jvm.MethodName) ({ cls := "OwnRainModel", name := "passStep", desc := "()I" } : Jvm.MethodName)) ∈ gtbl := gq 71 (by decide +kernel) rfl
theorem q72 : (Jvm.Cond.selects "OwnRainModel" ({ cls := "OwnRainModel", name := "keep", desc := "()V" } : Jvm.MethodName) ({ cls := "OwnRainModel", name := "keep", desc := "()V" } : Jvm.MethodName)) ∈ gtbl := gq 72 (by decide +kernel) rfl
theorem q73 : (Jvm.Cond.selects "OwnRainModel" ({ cls := "OwnRainModel", name := "pass", desc := "()I" } : Jvm.MethodName) ({ cls := "OwnRainModel", name := "pass", desc := "()I" } : Jvm.MethodName)) ∈ gtbl := gq 73 (by decide +kernel) rfl
theorem q74 : (Jvm.Cond.selects "OwnRainModel" ({ cls := "OwnRainModel", name := "rainAll", desc := "()I" } : Jvm.MethodName) ({ cls := "OwnRainModel", name := "rainAll", desc := "()I" } : Jvm.MethodName)) ∈ gtbl := gq 74 (by decide +kernel) rfl
theorem q75 : (Jvm.Cond.selects "OwnRainModel" ({ cls := "OwnRainModel", name := "sweatOf", desc := "(II)I" } : Jvm.MethodName) ({ cls := "OwnRainModel", name := "sweatOf", desc := "(II)I" } : Jvm.MethodName)) ∈ gtbl := gq 75 (by decide +kernel) rfl
theorem q76 : (Jvm.Cond.selects "OwnRainModel" ({ cls := "OwnRainModel", name := "says", desc := "(IIIIII)I" } : Jvm.MethodName) ({ cls := "OwnRainModel", name := "says", desc := "(IIIIII)I" } : Jvm.MethodName)) ∈ gtbl := gq 76 (by decide +kernel) rfl
theorem q77 : (Jvm.Cond.selects "OwnRainModel" ({ cls := "OwnRainModel", name := "name", desc := "(I)V" } : Jvm.MethodName) ({ cls := "OwnRainModel", name := "name", desc := "(I)V" } : Jvm.MethodName)) ∈ gtbl := gq 77 (by decide +kernel) rfl
theorem q78 : (Jvm.Cond.selects "OwnRainModel" ({ cls := "OwnRainModel", name := "worked", desc := "(I)I" } : Jvm.MethodName) ({ cls := "OwnRainModel", name := "worked", desc := "(I)I" } : Jvm.MethodName)) ∈ gtbl := gq 78 (by decide +kernel) rfl
theorem q79 : (Jvm.Cond.selects "OwnRainModel" ({ cls := "OwnRainModel", name := "takeNext", desc := "()Z" } : Jvm.MethodName) ({ cls := "OwnRainModel", name := "takeNext", desc := "()Z" } : Jvm.MethodName)) ∈ gtbl := gq 79 (by decide +kernel) rfl
theorem q80 : (Jvm.Cond.selects "OwnRainModel" ({ cls := "OwnRainModel", name := "nextThere", desc := "(I)I" } : Jvm.MethodName) ({ cls := "OwnRainModel", name := "nextThere", desc := "(I)I" } : Jvm.MethodName)) ∈ gtbl := gq 80 (by decide +kernel) rfl
theorem q81 : (Jvm.Cond.selects "OwnRainModel" ({ cls := "OwnRainModel", name := "endEach", desc := "(I)I" } : Jvm.MethodName) ({ cls := "OwnRainModel", name := "endEach", desc := "(I)I" } : Jvm.MethodName)) ∈ gtbl := gq 81 (by decide +kernel) rfl
theorem q82 : (Jvm.Cond.selects "OwnRainModel" ({ cls := "OwnRainModel", name := "addTo", desc := "(II)V" } : Jvm.MethodName) ({ cls := "OwnRainModel", name := "addTo", desc := "(II)V" } : Jvm.MethodName)) ∈ gtbl := gq 82 (by decide +kernel) rfl
theorem q83 : (Jvm.Cond.selects "OwnRainModel" ({ cls := "OwnRainModel", name := "rainOf", desc := "(I)V" } : Jvm.MethodName) ({ cls := "OwnRainModel", name := "rainOf", desc := "(I)V" } : Jvm.MethodName)) ∈ gtbl := gq 83 (by decide +kernel) rfl
theorem q84 : (Jvm.Cond.selects "OwnRainModel" ({ cls := "OwnRainModel", name := "wet", desc := "(II)V" } : Jvm.MethodName) ({ cls := "OwnRainModel", name := "wet", desc := "(II)V" } : Jvm.MethodName)) ∈ gtbl := gq 84 (by decide +kernel) rfl
theorem q85 : (Jvm.Cond.selects "OwnRainModel" ({ cls := "OwnRainModel", name := "write", desc := "(II)V" } : Jvm.MethodName) ({ cls := "OwnRainModel", name := "write", desc := "(II)V" } : Jvm.MethodName)) ∈ gtbl := gq 85 (by decide +kernel) rfl
theorem q86 : (Jvm.Cond.selects "OwnRainModel" ({ cls := "OwnRainModel", name := "dryAll", desc := "()V" } : Jvm.MethodName) ({ cls := "OwnRainModel", name := "dryAll", desc := "()V" } : Jvm.MethodName)) ∈ gtbl := gq 86 (by decide +kernel) rfl
theorem q87 : (Jvm.Cond.selects "OwnRainModel" ({ cls := "OwnRainModel", name := "isPerson", desc := "(I)Z" } : Jvm.MethodName) ({ cls := "OwnRainModel", name := "isPerson", desc := "(I)Z" } : Jvm.MethodName)) ∈ gtbl := gq 87 (by decide +kernel) rfl
theorem q88 : (Jvm.Cond.selects "OwnRainModel" ({ cls := "OwnRainModel", name := "canGo", desc := "(II)Z" } : Jvm.MethodName) ({ cls := "OwnRainModel", name := "canGo", desc := "(II)Z" } : Jvm.MethodName)) ∈ gtbl := gq 88 (by decide +kernel) rfl
theorem q89 : (Jvm.Cond.selects "OwnRainModel" ({ cls := "OwnRainModel", name := "canShake", desc := "(II)Z" } : Jvm.MethodName) ({ cls := "OwnRainModel", name := "canShake", desc := "(II)Z" } : Jvm.MethodName)) ∈ gtbl := gq 89 (by decide +kernel) rfl
theorem q90 : (Jvm.Cond.selects "OwnRainModel" ({ cls := "OwnRainModel", name := "shakeNow", desc := "(II)V" } : Jvm.MethodName) ({ cls := "OwnRainModel", name := "shakeNow", desc := "(II)V" } : Jvm.MethodName)) ∈ gtbl := gq 90 (by decide +kernel) rfl
theorem q91 : (Jvm.Cond.selects "OwnRainModel" ({ cls := "OwnRainModel", name := "canSteal", desc := "(III)Z" } : Jvm.MethodName) ({ cls := "OwnRainModel", name := "canSteal", desc := "(III)Z" } : Jvm.MethodName)) ∈ gtbl := gq 91 (by decide +kernel) rfl
theorem q92 : (Jvm.Cond.selects "OwnRainModel" ({ cls := "OwnRainModel", name := "stealNow", desc := "(III)V" } : Jvm.MethodName) ({ cls := "OwnRainModel", name := "stealNow", desc := "(III)V" } : Jvm.MethodName)) ∈ gtbl := gq 92 (by decide +kernel) rfl
theorem q93 : (Jvm.Cond.selects "OwnRainModel" ({ cls := "OwnRainModel", name := "isPlayed", desc := "(I)Z" } : Jvm.MethodName) ({ cls := "OwnRainModel", name := "isPlayed", desc := "(I)Z" } : Jvm.MethodName)) ∈ gtbl := gq 93 (by decide +kernel) rfl
theorem q94 : (Jvm.Cond.selects "OwnRainModel" ({ cls := "OwnRainModel", name := "areHours", desc := "(I)Z" } : Jvm.MethodName) ({ cls := "OwnRainModel", name := "areHours", desc := "(I)Z" } : Jvm.MethodName)) ∈ gtbl := gq 94 (by decide +kernel) rfl
theorem q95 : (Jvm.Cond.selects "OwnRainModel" ({ cls := "OwnRainModel", name := "happens", desc := "(II)I" } : Jvm.MethodName) ({ cls := "OwnRainModel", name := "happens", desc := "(II)I" } : Jvm.MethodName)) ∈ gtbl := gq 95 (by decide +kernel) rfl
theorem q96 : (Jvm.Cond.selects "OwnRainModel" ({ cls := "OwnRainModel", name := "peopleOn", desc := "(I)I" } : Jvm.MethodName) ({ cls := "OwnRainModel", name := "peopleOn", desc := "(I)I" } : Jvm.MethodName)) ∈ gtbl := gq 96 (by decide +kernel) rfl
theorem q97 : (Jvm.Cond.selects "OwnRainModel" ({ cls := "OwnRainModel", name := "wasAt", desc := "(II)I" } : Jvm.MethodName) ({ cls := "OwnRainModel", name := "wasAt", desc := "(II)I" } : Jvm.MethodName)) ∈ gtbl := gq 97 (by decide +kernel) rfl
theorem q98 : (Jvm.Cond.selects "OwnRainModel" ({ cls := "OwnRainModel", name := "begin", desc := "()V" } : Jvm.MethodName) ({ cls := "OwnRainModel", name := "begin", desc := "()V" } : Jvm.MethodName)) ∈ gtbl := gq 98 (by decide +kernel) rfl
theorem q99 : (Jvm.Cond.selects "OwnRainModel" ({ cls := "OwnRainModel", name := "passOnward", desc := "()V" } : Jvm.MethodName) ({ cls := "OwnRainModel", name := "passOnward", desc := "()V" } : Jvm.MethodName)) ∈ gtbl := gq 99 (by decide +kernel) rfl
theorem q100 : (Jvm.Cond.selects "OwnRainModel" ({ cls := "OwnRainModel", name := "putBack", desc := "()V" } : Jvm.MethodName) ({ cls := "OwnRainModel", name := "putBack", desc := "()V" } : Jvm.MethodName)) ∈ gtbl := gq 100 (by decide +kernel) rfl
theorem q101 : (Jvm.Cond.selects "OwnRainModel" ({ cls := "OwnRainModel", name := "sweatBy", desc := "(III)I" } : Jvm.MethodName) ({ cls := "OwnRainModel", name := "sweatBy", desc := "(III)I" } : Jvm.MethodName)) ∈ gtbl := gq 101 (by decide +kernel) rfl
theorem q102 : (Jvm.Cond.selects "OwnRainModel" ({ cls := "OwnRainModel", name := "sweatAllFor", desc := "(I)I" } : Jvm.MethodName) ({ cls := "OwnRainModel", name := "sweatAllFor", desc := "(I)I" } : Jvm.MethodName)) ∈ gtbl := gq 102 (by decide +kernel) rfl
theorem q103 : (Jvm.Cond.selects "OwnRainModel" ({ cls := "OwnRainModel", name := "layWorkers", desc := "(II)Z" } : Jvm.MethodName) ({ cls := "OwnRainModel", name := "layWorkers", desc := "(II)Z" } : Jvm.MethodName)) ∈ gtbl := gq 103 (by decide +kernel) rfl
theorem q104 : (Jvm.Cond.selects "OwnRainModel" ({ cls := "OwnRainModel", name := "findYields", desc := "(I)V" } : Jvm.MethodName) ({ cls := "OwnRainModel", name := "findYields", desc := "(I)V" } : Jvm.MethodName)) ∈ gtbl := gq 104 (by decide +kernel) rfl
theorem q105 : (Jvm.Cond.selects "OwnRainModel" ({ cls := "OwnRainModel", name := "nextOrder", desc := "(I)Z" } : Jvm.MethodName) ({ cls := "OwnRainModel", name := "nextOrder", desc := "(I)Z" } : Jvm.MethodName)) ∈ gtbl := gq 105 (by decide +kernel) rfl
theorem q106 : (Jvm.Cond.selects "OwnRainModel" ({ cls := "OwnRainModel", name := "findRoads", desc := "(II)V" } : Jvm.MethodName) ({ cls := "OwnRainModel", name := "findRoads", desc := "(II)V" } : Jvm.MethodName)) ∈ gtbl := gq 106 (by decide +kernel) rfl
theorem q107 : (Jvm.Cond.selects "OwnRainModel" ({ cls := "OwnRainModel", name := "canCome", desc := "(II)Z" } : Jvm.MethodName) ({ cls := "OwnRainModel", name := "canCome", desc := "(II)Z" } : Jvm.MethodName)) ∈ gtbl := gq 107 (by decide +kernel) rfl
theorem q108 : (Jvm.Cond.selects "OwnRainModel" ({ cls := "OwnRainModel", name := "nextField", desc := "(II)I" } : Jvm.MethodName) ({ cls := "OwnRainModel", name := "nextField", desc := "(II)I" } : Jvm.MethodName)) ∈ gtbl := gq 108 (by decide +kernel) rfl
theorem q109 : (Jvm.Cond.selects "OwnRainModel" ({ cls := "OwnRainModel", name := "nearOf", desc := "(I)I" } : Jvm.MethodName) ({ cls := "OwnRainModel", name := "nearOf", desc := "(I)I" } : Jvm.MethodName)) ∈ gtbl := gq 109 (by decide +kernel) rfl
theorem q110 : (Jvm.Cond.selects "OwnRainModel" ({ cls := "OwnRainModel", name := "errorsOf", desc := "(IZ)I" } : Jvm.MethodName) ({ cls := "OwnRainModel", name := "errorsOf", desc := "(IZ)I" } : Jvm.MethodName)) ∈ gtbl := gq 110 (by decide +kernel) rfl
theorem q111 : (Jvm.Cond.selects "OwnRainModel" ({ cls := "OwnRainModel", name := "tradedAt", desc := "(I)I" } : Jvm.MethodName) ({ cls := "OwnRainModel", name := "tradedAt", desc := "(I)I" } : Jvm.MethodName)) ∈ gtbl := gq 111 (by decide +kernel) rfl
theorem q112 : (Jvm.Cond.initialized "OwnRainLaw") ∈ gtbl := gq 112 (by decide +kernel) rfl
theorem q113 : (Jvm.Cond.initialized "OwnRain") ∈ gtbl := gq 113 (by decide +kernel) rfl
theorem q114 : (Jvm.Cond.initialized "OwnRain$State") ∈ gtbl := gq 114 (by decide +kernel) rfl
theorem q115 : (Jvm.Cond.initialized "OwnRain$Land") ∈ gtbl := gq 115 (by decide +kernel) rfl
theorem q116 : (Jvm.Cond.initialized "OwnRain$World") ∈ gtbl := gq 116 (by decide +kernel) rfl
theorem q117 : (Jvm.Cond.initialized "OwnRain$Steps") ∈ gtbl := gq 117 (by decide +kernel) rfl
theorem q118 : (Jvm.Cond.initialized "OwnRain$Lists") ∈ gtbl := gq 118 (by decide +kernel) rfl
theorem q119 : (Jvm.Cond.initialized "OwnRain$Tape") ∈ gtbl := gq 119 (by decide +kernel) rfl
theorem q120 : (Jvm.Cond.initialized "OwnRain$Reader") ∈ gtbl := gq 120 (by decide +kernel) rfl
theorem q121 : (Jvm.Cond.initialized "OwnRain$Weather") ∈ gtbl := gq 121 (by decide +kernel) rfl
theorem q122 : (Jvm.Cond.initialized "OwnRain$Planner") ∈ gtbl := gq 122 (by decide +kernel) rfl
theorem q123 : (Jvm.Cond.initialized "OwnRain$Ways") ∈ gtbl := gq 123 (by decide +kernel) rfl
theorem q124 : (Jvm.Cond.initialized "OwnRainModel") ∈ gtbl := gq 124 (by decide +kernel) rfl
theorem q125 : (Jvm.Cond.initialized "OwnRain$Text") ∈ gtbl := gq 125 (by decide +kernel) rfl
theorem q126 : (Jvm.Cond.initialized "java/lang/String") ∈ gtbl := gq 126 (by decide +kernel) rfl
theorem q127 : (Jvm.Cond.initialized "java/lang/StringLatin1") ∈ gtbl := gq 127 (by decide +kernel) rfl
theorem q128 : (Jvm.Cond.initialized "jdk/internal/util/Preconditions") ∈ gtbl := gq 128 (by decide +kernel) rfl
theorem q129 : (Jvm.Cond.initialized "java/lang/StringUTF16") ∈ gtbl := gq 129 (by decide +kernel) rfl
theorem q130 : (Jvm.Cond.initialized "java/lang/Math") ∈ gtbl := gq 130 (by decide +kernel) rfl
theorem q131 : (Jvm.Cond.initialized "java/lang/Character") ∈ gtbl := gq 131 (by decide +kernel) rfl
theorem q132 : (Jvm.Cond.initialized "java/lang/System") ∈ gtbl := gq 132 (by decide +kernel) rfl
theorem q133 : (Jvm.Cond.initialized "java/lang/Integer") ∈ gtbl := gq 133 (by decide +kernel) rfl
theorem q134 : (Jvm.Cond.classLink "OwnRainLaw" (7 : Nat) "OwnRain") ∈ gtbl := gq 134 (by decide +kernel) rfl
theorem q135 : (Jvm.Cond.instantiable "OwnRain" (7 : Nat)) ∈ gtbl := gq 135 (by decide +kernel) rfl
theorem q136 : (Jvm.Cond.methodLink "OwnRainLaw" (9 : Nat) ({ cls := "OwnRain", name := "<init>", desc := "()V" } : Jvm.MethodName)) ∈ gtbl := gq 136 (by decide +kernel) rfl
theorem q137 : (Jvm.Cond.instanceMethod ({ cls := "OwnRain", name := "<init>", desc := "()V" } : Jvm.MethodName)) ∈ gtbl := gq 137 (by decide +kernel) rfl
set_option maxRecDepth 100000 in
theorem q138 : (Jvm.Cond.code ({ cls := "OwnRain", name := "<init>", desc := "()V" } : Jvm.MethodName) prog_1_method_1_code (1 : Nat) (Option.none : Option Jvm.ClassFile.FieldType)) ∈ gtbl := gq 138 rfl rfl
theorem q139 : (Jvm.Cond.methodLink "OwnRain" (1 : Nat) ({ cls := "java/lang/Object", name := "<init>", desc := "()V" } : Jvm.MethodName)) ∈ gtbl := gq 139 (by decide +kernel) rfl
theorem q140 : (Jvm.Cond.instanceMethod ({ cls := "java/lang/Object", name := "<init>", desc := "()V" } : Jvm.MethodName)) ∈ gtbl := gq 140 (by decide +kernel) rfl
set_option maxRecDepth 100000 in
theorem q141 : (Jvm.Cond.code ({ cls := "java/lang/Object", name := "<init>", desc := "()V" } : Jvm.MethodName) object_method_1_code (1 : Nat) (Option.none : Option Jvm.ClassFile.FieldType)) ∈ gtbl := gq 141 rfl rfl
theorem q142 : (Jvm.Cond.classLink "OwnRain" (7 : Nat) "OwnRain$State") ∈ gtbl := gq 142 (by decide +kernel) rfl
theorem q143 : (Jvm.Cond.instantiable "OwnRain$State" (7 : Nat)) ∈ gtbl := gq 143 (by decide +kernel) rfl
theorem q145 : (Jvm.Cond.instanceMethod ({ cls := "OwnRain$State", name := "<init>", desc := "()V" } : Jvm.MethodName)) ∈ gtbl := gq 145 (by decide +kernel) rfl
set_option maxRecDepth 100000 in
theorem q146 : (Jvm.Cond.code ({ cls := "OwnRain$State", name := "<init>", desc := "()V" } : Jvm.MethodName) prog_6_method_1_code (1 : Nat) (Option.none : Option Jvm.ClassFile.FieldType)) ∈ gtbl := gq 146 rfl rfl
theorem q147 : (Jvm.Cond.methodLink "OwnRain$State" (3 : Nat) ({ cls := "java/lang/Object", name := "<init>", desc := "()V" } : Jvm.MethodName)) ∈ gtbl := gq 147 (by decide +kernel) rfl
theorem q148 : (Jvm.Cond.classLink "OwnRain$State" (9 : Nat) "OwnRain$Land") ∈ gtbl := gq 148 (by decide +kernel) rfl
theorem q149 : (Jvm.Cond.instantiable "OwnRain$Land" (10 : Nat)) ∈ gtbl := gq 149 (by decide +kernel) rfl
theorem q151 : (Jvm.Cond.instanceMethod ({ cls := "OwnRain$Land", name := "<init>", desc := "()V" } : Jvm.MethodName)) ∈ gtbl := gq 151 (by decide +kernel) rfl
set_option maxRecDepth 100000 in
theorem q152 : (Jvm.Cond.code ({ cls := "OwnRain$Land", name := "<init>", desc := "()V" } : Jvm.MethodName) prog_2_method_1_code (1 : Nat) (Option.none : Option Jvm.ClassFile.FieldType)) ∈ gtbl := gq 152 rfl rfl
theorem q153 : (Jvm.Cond.methodLink "OwnRain$Land" (3 : Nat) ({ cls := "java/lang/Object", name := "<init>", desc := "()V" } : Jvm.MethodName)) ∈ gtbl := gq 153 (by decide +kernel) rfl
theorem q154 : (Jvm.Cond.fieldLink "OwnRain$Land" (36 : Nat) "OwnRain$Land" "fields" "I") ∈ gtbl := gq 154 (by decide +kernel) rfl
theorem q155 : (Jvm.Cond.fieldLink "OwnRain$Ways" (28 : Nat) "OwnRain$Land" "fields" "I") ∈ gtbl := gq 155 (by decide +kernel) rfl
theorem q156 : (Jvm.Cond.fieldLink "OwnRain" (68 : Nat) "OwnRain$Land" "fields" "I") ∈ gtbl := gq 156 (by decide +kernel) rfl
theorem q157 : (Jvm.Cond.fieldLink "OwnRain$Weather" (65 : Nat) "OwnRain$Land" "fields" "I") ∈ gtbl := gq 157 (by decide +kernel) rfl
theorem q158 : (Jvm.Cond.fieldLink "OwnRain$Planner" (122 : Nat) "OwnRain$Land" "fields" "I") ∈ gtbl := gq 158 (by decide +kernel) rfl
theorem q159 : (Jvm.Cond.fieldLink "OwnRain$Weather" (38 : Nat) "OwnRain$Land" "people" "I") ∈ gtbl := gq 159 (by decide +kernel) rfl
theorem q160 : (Jvm.Cond.fieldLink "OwnRain$Land" (40 : Nat) "OwnRain$Land" "people" "I") ∈ gtbl := gq 160 (by decide +kernel) rfl
theorem q161 : (Jvm.Cond.fieldLink "OwnRain" (90 : Nat) "OwnRain$Land" "people" "I") ∈ gtbl := gq 161 (by decide +kernel) rfl
theorem q162 : (Jvm.Cond.fieldLink "OwnRain$State" (80 : Nat) "OwnRain$Land" "people" "I") ∈ gtbl := gq 162 (by decide +kernel) rfl
theorem q163 : (Jvm.Cond.fieldLink "OwnRain$Land" (9 : Nat) "OwnRain$Land" "heat" "[I") ∈ gtbl := gq 163 (by decide +kernel) rfl
theorem q164 : (Jvm.Cond.fieldLink "OwnRain$Weather" (124 : Nat) "OwnRain$Land" "heat" "[I") ∈ gtbl := gq 164 (by decide +kernel) rfl
theorem q165 : (Jvm.Cond.fieldLink "OwnRain" (249 : Nat) "OwnRain$Land" "heat" "[I") ∈ gtbl := gq 165 (by decide +kernel) rfl
theorem q166 : (Jvm.Cond.fieldLink "OwnRain$Land" (15 : Nat) "OwnRain$Land" "needs" "[I") ∈ gtbl := gq 166 (by decide +kernel) rfl
theorem q167 : (Jvm.Cond.fieldLink "OwnRain$Weather" (118 : Nat) "OwnRain$Land" "needs" "[I") ∈ gtbl := gq 167 (by decide +kernel) rfl
theorem q168 : (Jvm.Cond.fieldLink "OwnRain$Planner" (107 : Nat) "OwnRain$Land" "needs" "[I") ∈ gtbl := gq 168 (by decide +kernel) rfl
theorem q169 : (Jvm.Cond.fieldLink "OwnRain" (252 : Nat) "OwnRain$Land" "needs" "[I") ∈ gtbl := gq 169 (by decide +kernel) rfl
theorem q170 : (Jvm.Cond.fieldLink "OwnRain$Land" (18 : Nat) "OwnRain$Land" "drowns" "[I") ∈ gtbl := gq 170 (by decide +kernel) rfl
theorem q171 : (Jvm.Cond.fieldLink "OwnRain$Weather" (112 : Nat) "OwnRain$Land" "drowns" "[I") ∈ gtbl := gq 171 (by decide +kernel) rfl
theorem q172 : (Jvm.Cond.fieldLink "OwnRain$Planner" (102 : Nat) "OwnRain$Land" "drowns" "[I") ∈ gtbl := gq 172 (by decide +kernel) rfl
theorem q173 : (Jvm.Cond.fieldLink "OwnRain" (255 : Nat) "OwnRain$Land" "drowns" "[I") ∈ gtbl := gq 173 (by decide +kernel) rfl
theorem q174 : (Jvm.Cond.fieldLink "OwnRain$Land" (21 : Nat) "OwnRain$Land" "roads" "[I") ∈ gtbl := gq 174 (by decide +kernel) rfl
theorem q175 : (Jvm.Cond.fieldLink "OwnRain" (267 : Nat) "OwnRain$Land" "roads" "[I") ∈ gtbl := gq 175 (by decide +kernel) rfl
theorem q176 : (Jvm.Cond.fieldLink "OwnRain$Land" (24 : Nat) "OwnRain$Land" "full" "[I") ∈ gtbl := gq 176 (by decide +kernel) rfl
theorem q177 : (Jvm.Cond.fieldLink "OwnRain$Weather" (58 : Nat) "OwnRain$Land" "full" "[I") ∈ gtbl := gq 177 (by decide +kernel) rfl
theorem q178 : (Jvm.Cond.fieldLink "OwnRain" (270 : Nat) "OwnRain$Land" "full" "[I") ∈ gtbl := gq 178 (by decide +kernel) rfl
theorem q179 : (Jvm.Cond.fieldLink "OwnRain$Land" (27 : Nat) "OwnRain$Land" "age" "[I") ∈ gtbl := gq 179 (by decide +kernel) rfl
theorem q180 : (Jvm.Cond.fieldLink "OwnRain$Weather" (198 : Nat) "OwnRain$Land" "age" "[I") ∈ gtbl := gq 180 (by decide +kernel) rfl
theorem q181 : (Jvm.Cond.fieldLink "OwnRain" (273 : Nat) "OwnRain$Land" "age" "[I") ∈ gtbl := gq 181 (by decide +kernel) rfl
theorem q182 : (Jvm.Cond.fieldLink "OwnRain$Land" (30 : Nat) "OwnRain$Land" "home" "[I") ∈ gtbl := gq 182 (by decide +kernel) rfl
theorem q183 : (Jvm.Cond.fieldLink "OwnRain$State" (94 : Nat) "OwnRain$Land" "home" "[I") ∈ gtbl := gq 183 (by decide +kernel) rfl
theorem q184 : (Jvm.Cond.fieldLink "OwnRain$Land" (33 : Nat) "OwnRain$Land" "brought" "[I") ∈ gtbl := gq 184 (by decide +kernel) rfl
theorem q185 : (Jvm.Cond.fieldLink "OwnRain$State" (97 : Nat) "OwnRain$Land" "brought" "[I") ∈ gtbl := gq 185 (by decide +kernel) rfl
theorem q207 : (Jvm.Cond.arrayClass Jvm.ClassFile.FieldType.int) ∈ gtbl := gq 207 (by decide +kernel) rfl
theorem q208 : (Jvm.Cond.classLink "OwnRain$State" (18 : Nat) "OwnRain$World") ∈ gtbl := gq 208 (by decide +kernel) rfl
theorem q209 : (Jvm.Cond.instantiable "OwnRain$World" (15 : Nat)) ∈ gtbl := gq 209 (by decide +kernel) rfl
theorem q211 : (Jvm.Cond.instanceMethod ({ cls := "OwnRain$World", name := "<init>", desc := "()V" } : Jvm.MethodName)) ∈ gtbl := gq 211 (by decide +kernel) rfl
set_option maxRecDepth 100000 in
theorem q212 : (Jvm.Cond.code ({ cls := "OwnRain$World", name := "<init>", desc := "()V" } : Jvm.MethodName) prog_12_method_1_code (1 : Nat) (Option.none : Option Jvm.ClassFile.FieldType)) ∈ gtbl := gq 212 rfl rfl
theorem q213 : (Jvm.Cond.methodLink "OwnRain$World" (3 : Nat) ({ cls := "java/lang/Object", name := "<init>", desc := "()V" } : Jvm.MethodName)) ∈ gtbl := gq 213 (by decide +kernel) rfl
theorem q214 : (Jvm.Cond.fieldLink "OwnRain$World" (9 : Nat) "OwnRain$World" "wet" "[I") ∈ gtbl := gq 214 (by decide +kernel) rfl
theorem q215 : (Jvm.Cond.fieldLink "OwnRain$Weather" (68 : Nat) "OwnRain$World" "wet" "[I") ∈ gtbl := gq 215 (by decide +kernel) rfl
theorem q216 : (Jvm.Cond.fieldLink "OwnRain$Ways" (46 : Nat) "OwnRain$World" "wet" "[I") ∈ gtbl := gq 216 (by decide +kernel) rfl
theorem q217 : (Jvm.Cond.fieldLink "OwnRain" (179 : Nat) "OwnRain$World" "wet" "[I") ∈ gtbl := gq 217 (by decide +kernel) rfl
theorem q218 : (Jvm.Cond.fieldLink "OwnRain$World" (15 : Nat) "OwnRain$World" "grown" "[I") ∈ gtbl := gq 218 (by decide +kernel) rfl
theorem q219 : (Jvm.Cond.fieldLink "OwnRain$Weather" (121 : Nat) "OwnRain$World" "grown" "[I") ∈ gtbl := gq 219 (by decide +kernel) rfl
theorem q220 : (Jvm.Cond.fieldLink "OwnRain$Planner" (117 : Nat) "OwnRain$World" "grown" "[I") ∈ gtbl := gq 220 (by decide +kernel) rfl
theorem q221 : (Jvm.Cond.fieldLink "OwnRain" (258 : Nat) "OwnRain$World" "grown" "[I") ∈ gtbl := gq 221 (by decide +kernel) rfl
theorem q222 : (Jvm.Cond.fieldLink "OwnRain$World" (18 : Nat) "OwnRain$World" "flooded" "[I") ∈ gtbl := gq 222 (by decide +kernel) rfl
theorem q223 : (Jvm.Cond.fieldLink "OwnRain$Weather" (115 : Nat) "OwnRain$World" "flooded" "[I") ∈ gtbl := gq 223 (by decide +kernel) rfl
theorem q224 : (Jvm.Cond.fieldLink "OwnRain" (261 : Nat) "OwnRain$World" "flooded" "[I") ∈ gtbl := gq 224 (by decide +kernel) rfl
theorem q225 : (Jvm.Cond.fieldLink "OwnRain$World" (21 : Nat) "OwnRain$World" "cloud" "[I") ∈ gtbl := gq 225 (by decide +kernel) rfl
theorem q226 : (Jvm.Cond.fieldLink "OwnRain$Weather" (47 : Nat) "OwnRain$World" "cloud" "[I") ∈ gtbl := gq 226 (by decide +kernel) rfl
theorem q227 : (Jvm.Cond.fieldLink "OwnRain$State" (77 : Nat) "OwnRain$World" "cloud" "[I") ∈ gtbl := gq 227 (by decide +kernel) rfl
theorem q228 : (Jvm.Cond.fieldLink "OwnRain" (167 : Nat) "OwnRain$World" "cloud" "[I") ∈ gtbl := gq 228 (by decide +kernel) rfl
theorem q229 : (Jvm.Cond.fieldLink "OwnRain$World" (24 : Nat) "OwnRain$World" "work" "[I") ∈ gtbl := gq 229 (by decide +kernel) rfl
theorem q230 : (Jvm.Cond.fieldLink "OwnRain$Weather" (85 : Nat) "OwnRain$World" "work" "[I") ∈ gtbl := gq 230 (by decide +kernel) rfl
theorem q231 : (Jvm.Cond.fieldLink "OwnRain$Planner" (89 : Nat) "OwnRain$World" "work" "[I") ∈ gtbl := gq 231 (by decide +kernel) rfl
theorem q232 : (Jvm.Cond.fieldLink "OwnRain" (150 : Nat) "OwnRain$World" "work" "[I") ∈ gtbl := gq 232 (by decide +kernel) rfl
theorem q233 : (Jvm.Cond.fieldLink "OwnRain$World" (27 : Nat) "OwnRain$World" "at" "[I") ∈ gtbl := gq 233 (by decide +kernel) rfl
theorem q234 : (Jvm.Cond.fieldLink "OwnRain$Weather" (88 : Nat) "OwnRain$World" "at" "[I") ∈ gtbl := gq 234 (by decide +kernel) rfl
theorem q235 : (Jvm.Cond.fieldLink "OwnRain$State" (62 : Nat) "OwnRain$World" "at" "[I") ∈ gtbl := gq 235 (by decide +kernel) rfl
theorem q236 : (Jvm.Cond.fieldLink "OwnRain$Planner" (86 : Nat) "OwnRain$World" "at" "[I") ∈ gtbl := gq 236 (by decide +kernel) rfl
theorem q237 : (Jvm.Cond.fieldLink "OwnRain" (157 : Nat) "OwnRain$World" "at" "[I") ∈ gtbl := gq 237 (by decide +kernel) rfl
theorem q238 : (Jvm.Cond.fieldLink "OwnRain$World" (46 : Nat) "OwnRain$World" "cistern" "I") ∈ gtbl := gq 238 (by decide +kernel) rfl
theorem q239 : (Jvm.Cond.fieldLink "OwnRain$Weather" (105 : Nat) "OwnRain$World" "cistern" "I") ∈ gtbl := gq 239 (by decide +kernel) rfl
theorem q240 : (Jvm.Cond.fieldLink "OwnRain" (176 : Nat) "OwnRain$World" "cistern" "I") ∈ gtbl := gq 240 (by decide +kernel) rfl
theorem q241 : (Jvm.Cond.fieldLink "OwnRain$Weather" (52 : Nat) "OwnRain$World" "sweated" "I") ∈ gtbl := gq 241 (by decide +kernel) rfl
theorem q242 : (Jvm.Cond.fieldLink "OwnRain$World" (49 : Nat) "OwnRain$World" "sweated" "I") ∈ gtbl := gq 242 (by decide +kernel) rfl
theorem q243 : (Jvm.Cond.fieldLink "OwnRain" (406 : Nat) "OwnRain$World" "sweated" "I") ∈ gtbl := gq 243 (by decide +kernel) rfl
theorem q244 : (Jvm.Cond.fieldLink "OwnRain$World" (52 : Nat) "OwnRain$World" "dried" "I") ∈ gtbl := gq 244 (by decide +kernel) rfl
theorem q245 : (Jvm.Cond.fieldLink "OwnRain$Weather" (127 : Nat) "OwnRain$World" "dried" "I") ∈ gtbl := gq 245 (by decide +kernel) rfl
theorem q246 : (Jvm.Cond.fieldLink "OwnRain" (403 : Nat) "OwnRain$World" "dried" "I") ∈ gtbl := gq 246 (by decide +kernel) rfl
theorem q247 : (Jvm.Cond.fieldLink "OwnRain$World" (55 : Nat) "OwnRain$World" "hour" "I") ∈ gtbl := gq 247 (by decide +kernel) rfl
theorem q248 : (Jvm.Cond.fieldLink "OwnRain$Weather" (76 : Nat) "OwnRain$World" "hour" "I") ∈ gtbl := gq 248 (by decide +kernel) rfl
theorem q249 : (Jvm.Cond.fieldLink "OwnRain" (137 : Nat) "OwnRain$World" "hour" "I") ∈ gtbl := gq 249 (by decide +kernel) rfl
theorem q250 : (Jvm.Cond.fieldLink "OwnRain$World" (30 : Nat) "OwnRain$World" "x" "I") ∈ gtbl := gq 250 (by decide +kernel) rfl
theorem q251 : (Jvm.Cond.fieldLink "OwnRain" (233 : Nat) "OwnRain$World" "x" "I") ∈ gtbl := gq 251 (by decide +kernel) rfl
theorem q252 : (Jvm.Cond.fieldLink "OwnRain$World" (58 : Nat) "OwnRain$World" "rainCount" "I") ∈ gtbl := gq 252 (by decide +kernel) rfl
theorem q253 : (Jvm.Cond.fieldLink "OwnRain" (283 : Nat) "OwnRain$World" "rainCount" "I") ∈ gtbl := gq 253 (by decide +kernel) rfl
theorem q254 : (Jvm.Cond.fieldLink "OwnRain$World" (61 : Nat) "OwnRain$World" "rainNext" "I") ∈ gtbl := gq 254 (by decide +kernel) rfl
theorem q255 : (Jvm.Cond.fieldLink "OwnRain$World" (34 : Nat) "OwnRain$World" "rains" "[I") ∈ gtbl := gq 255 (by decide +kernel) rfl
theorem q256 : (Jvm.Cond.fieldLink "OwnRain$World" (37 : Nat) "OwnRain$World" "where" "[I") ∈ gtbl := gq 256 (by decide +kernel) rfl
theorem q288 : (Jvm.Cond.classLink "OwnRain$State" (25 : Nat) "OwnRain$Steps") ∈ gtbl := gq 288 (by decide +kernel) rfl
theorem q289 : (Jvm.Cond.instantiable "OwnRain$Steps" (4 : Nat)) ∈ gtbl := gq 289 (by decide +kernel) rfl
theorem q290 : (Jvm.Cond.methodLink "OwnRain$State" (27 : Nat) ({ cls := "OwnRain$Steps", name := "<init>", desc := "()V" } : Jvm.MethodName)) ∈ gtbl := gq 290 (by decide +kernel) rfl
theorem q291 : (Jvm.Cond.instanceMethod ({ cls := "OwnRain$Steps", name := "<init>", desc := "()V" } : Jvm.MethodName)) ∈ gtbl := gq 291 (by decide +kernel) rfl
set_option maxRecDepth 100000 in
theorem q292 : (Jvm.Cond.code ({ cls := "OwnRain$Steps", name := "<init>", desc := "()V" } : Jvm.MethodName) prog_7_method_1_code (2 : Nat) (Option.none : Option Jvm.ClassFile.FieldType)) ∈ gtbl := gq 292 rfl rfl
theorem q293 : (Jvm.Cond.methodLink "OwnRain$Steps" (3 : Nat) ({ cls := "java/lang/Object", name := "<init>", desc := "()V" } : Jvm.MethodName)) ∈ gtbl := gq 293 (by decide +kernel) rfl
theorem q294 : (Jvm.Cond.classLink "OwnRain$Steps" (9 : Nat) "OwnRain$World") ∈ gtbl := gq 294 (by decide +kernel) rfl
theorem q297 : (Jvm.Cond.fieldLink "OwnRain$Steps" (30 : Nat) "OwnRain$Steps" "count" "I") ∈ gtbl := gq 297 (by decide +kernel) rfl
theorem q298 : (Jvm.Cond.fieldLink "OwnRain$State" (87 : Nat) "OwnRain$Steps" "count" "I") ∈ gtbl := gq 298 (by decide +kernel) rfl
theorem q299 : (Jvm.Cond.fieldLink "OwnRain" (416 : Nat) "OwnRain$Steps" "count" "I") ∈ gtbl := gq 299 (by decide +kernel) rfl
theorem q300 : (Jvm.Cond.fieldLink "OwnRain$Steps" (22 : Nat) "OwnRain$Steps" "next" "I") ∈ gtbl := gq 300 (by decide +kernel) rfl
theorem q301 : (Jvm.Cond.fieldLink "OwnRain$Steps" (11 : Nat) "OwnRain$Steps" "worlds" "[LOwnRain$World;") ∈ gtbl := gq 301 (by decide +kernel) rfl
theorem q302 : (Jvm.Cond.fieldLink "OwnRain$Steps" (17 : Nat) "OwnRain$Steps" "people" "[I") ∈ gtbl := gq 302 (by decide +kernel) rfl
theorem q312 : (Jvm.Cond.classLink "OwnRain$State" (32 : Nat) "OwnRain$Lists") ∈ gtbl := gq 312 (by decide +kernel) rfl
theorem q313 : (Jvm.Cond.instantiable "OwnRain$Lists" (11 : Nat)) ∈ gtbl := gq 313 (by decide +kernel) rfl
theorem q315 : (Jvm.Cond.instanceMethod ({ cls := "OwnRain$Lists", name := "<init>", desc := "()V" } : Jvm.MethodName)) ∈ gtbl := gq 315 (by decide +kernel) rfl
set_option maxRecDepth 100000 in
theorem q316 : (Jvm.Cond.code ({ cls := "OwnRain$Lists", name := "<init>", desc := "()V" } : Jvm.MethodName) prog_3_method_1_code (1 : Nat) (Option.none : Option Jvm.ClassFile.FieldType)) ∈ gtbl := gq 316 rfl rfl
theorem q317 : (Jvm.Cond.methodLink "OwnRain$Lists" (3 : Nat) ({ cls := "java/lang/Object", name := "<init>", desc := "()V" } : Jvm.MethodName)) ∈ gtbl := gq 317 (by decide +kernel) rfl
theorem q318 : (Jvm.Cond.fieldLink "OwnRain$Lists" (37 : Nat) "OwnRain$Lists" "missing" "I") ∈ gtbl := gq 318 (by decide +kernel) rfl
theorem q319 : (Jvm.Cond.fieldLink "OwnRain" (347 : Nat) "OwnRain$Lists" "missing" "I") ∈ gtbl := gq 319 (by decide +kernel) rfl
theorem q320 : (Jvm.Cond.fieldLink "OwnRain$Lists" (41 : Nat) "OwnRain$Lists" "forecasts" "I") ∈ gtbl := gq 320 (by decide +kernel) rfl
theorem q321 : (Jvm.Cond.fieldLink "OwnRain" (377 : Nat) "OwnRain$Lists" "forecasts" "I") ∈ gtbl := gq 321 (by decide +kernel) rfl
theorem q322 : (Jvm.Cond.fieldLink "OwnRain$Lists" (44 : Nat) "OwnRain$Lists" "offers" "I") ∈ gtbl := gq 322 (by decide +kernel) rfl
theorem q323 : (Jvm.Cond.fieldLink "OwnRain" (390 : Nat) "OwnRain$Lists" "offers" "I") ∈ gtbl := gq 323 (by decide +kernel) rfl
theorem q324 : (Jvm.Cond.fieldLink "OwnRain$Lists" (9 : Nat) "OwnRain$Lists" "victim" "[I") ∈ gtbl := gq 324 (by decide +kernel) rfl
theorem q325 : (Jvm.Cond.fieldLink "OwnRain" (358 : Nat) "OwnRain$Lists" "victim" "[I") ∈ gtbl := gq 325 (by decide +kernel) rfl
theorem q326 : (Jvm.Cond.fieldLink "OwnRain$Lists" (15 : Nat) "OwnRain$Lists" "from" "[I") ∈ gtbl := gq 326 (by decide +kernel) rfl
theorem q327 : (Jvm.Cond.fieldLink "OwnRain" (361 : Nat) "OwnRain$Lists" "from" "[I") ∈ gtbl := gq 327 (by decide +kernel) rfl
theorem q328 : (Jvm.Cond.fieldLink "OwnRain$Lists" (18 : Nat) "OwnRain$Lists" "to" "[I") ∈ gtbl := gq 328 (by decide +kernel) rfl
theorem q329 : (Jvm.Cond.fieldLink "OwnRain" (364 : Nat) "OwnRain$Lists" "to" "[I") ∈ gtbl := gq 329 (by decide +kernel) rfl
theorem q330 : (Jvm.Cond.fieldLink "OwnRain$Lists" (21 : Nat) "OwnRain$Lists" "foretold" "[I") ∈ gtbl := gq 330 (by decide +kernel) rfl
theorem q331 : (Jvm.Cond.fieldLink "OwnRain$Lists" (24 : Nat) "OwnRain$Lists" "hot" "[Z") ∈ gtbl := gq 331 (by decide +kernel) rfl
theorem q332 : (Jvm.Cond.fieldLink "OwnRain$Lists" (28 : Nat) "OwnRain$Lists" "buys" "[Z") ∈ gtbl := gq 332 (by decide +kernel) rfl
theorem q333 : (Jvm.Cond.fieldLink "OwnRain$Lists" (31 : Nat) "OwnRain$Lists" "price" "[I") ∈ gtbl := gq 333 (by decide +kernel) rfl
theorem q334 : (Jvm.Cond.fieldLink "OwnRain$Lists" (34 : Nat) "OwnRain$Lists" "drops" "[I") ∈ gtbl := gq 334 (by decide +kernel) rfl
theorem q358 : (Jvm.Cond.arrayClass Jvm.ClassFile.FieldType.boolean) ∈ gtbl := gq 358 (by decide +kernel) rfl
theorem q359 : (Jvm.Cond.classLink "OwnRain$State" (39 : Nat) "OwnRain$Text") ∈ gtbl := gq 359 (by decide +kernel) rfl
theorem q361 : (Jvm.Cond.fieldLink "OwnRain$State" (12 : Nat) "OwnRain$State" "land" "LOwnRain$Land;") ∈ gtbl := gq 361 (by decide +kernel) rfl
theorem q362 : (Jvm.Cond.fieldLink "OwnRain" (60 : Nat) "OwnRain$State" "land" "LOwnRain$Land;") ∈ gtbl := gq 362 (by decide +kernel) rfl
theorem q363 : (Jvm.Cond.fieldLink "OwnRain$Weather" (32 : Nat) "OwnRain$State" "land" "LOwnRain$Land;") ∈ gtbl := gq 363 (by decide +kernel) rfl
theorem q364 : (Jvm.Cond.fieldLink "OwnRain$Ways" (22 : Nat) "OwnRain$State" "land" "LOwnRain$Land;") ∈ gtbl := gq 364 (by decide +kernel) rfl
theorem q365 : (Jvm.Cond.fieldLink "OwnRain$Planner" (98 : Nat) "OwnRain$State" "land" "LOwnRain$Land;") ∈ gtbl := gq 365 (by decide +kernel) rfl
theorem q366 : (Jvm.Cond.fieldLink "OwnRain$State" (21 : Nat) "OwnRain$State" "world" "LOwnRain$World;") ∈ gtbl := gq 366 (by decide +kernel) rfl
theorem q367 : (Jvm.Cond.fieldLink "OwnRain$Planner" (45 : Nat) "OwnRain$State" "world" "LOwnRain$World;") ∈ gtbl := gq 367 (by decide +kernel) rfl
theorem q368 : (Jvm.Cond.fieldLink "OwnRain$Ways" (42 : Nat) "OwnRain$State" "world" "LOwnRain$World;") ∈ gtbl := gq 368 (by decide +kernel) rfl
theorem q369 : (Jvm.Cond.fieldLink "OwnRain" (97 : Nat) "OwnRain$State" "world" "LOwnRain$World;") ∈ gtbl := gq 369 (by decide +kernel) rfl
theorem q370 : (Jvm.Cond.fieldLink "OwnRain$State" (28 : Nat) "OwnRain$State" "steps" "LOwnRain$Steps;") ∈ gtbl := gq 370 (by decide +kernel) rfl
theorem q371 : (Jvm.Cond.fieldLink "OwnRain" (412 : Nat) "OwnRain$State" "steps" "LOwnRain$Steps;") ∈ gtbl := gq 371 (by decide +kernel) rfl
theorem q372 : (Jvm.Cond.fieldLink "OwnRain$State" (35 : Nat) "OwnRain$State" "lists" "LOwnRain$Lists;") ∈ gtbl := gq 372 (by decide +kernel) rfl
theorem q373 : (Jvm.Cond.fieldLink "OwnRain" (343 : Nat) "OwnRain$State" "lists" "LOwnRain$Lists;") ∈ gtbl := gq 373 (by decide +kernel) rfl
theorem q374 : (Jvm.Cond.fieldLink "OwnRain$State" (41 : Nat) "OwnRain$State" "texts" "[LOwnRain$Text;") ∈ gtbl := gq 374 (by decide +kernel) rfl
theorem q375 : (Jvm.Cond.fieldLink "OwnRain" (182 : Nat) "OwnRain$State" "texts" "[LOwnRain$Text;") ∈ gtbl := gq 375 (by decide +kernel) rfl
theorem q376 : (Jvm.Cond.fieldLink "OwnRain$State" (49 : Nat) "OwnRain$State" "textCount" "I") ∈ gtbl := gq 376 (by decide +kernel) rfl
theorem q377 : (Jvm.Cond.fieldLink "OwnRain" (114 : Nat) "OwnRain$State" "textCount" "I") ∈ gtbl := gq 377 (by decide +kernel) rfl
theorem q378 : (Jvm.Cond.fieldLink "OwnRain$State" (45 : Nat) "OwnRain$State" "ruling" "I") ∈ gtbl := gq 378 (by decide +kernel) rfl
theorem q379 : (Jvm.Cond.fieldLink "OwnRain" (134 : Nat) "OwnRain$State" "ruling" "I") ∈ gtbl := gq 379 (by decide +kernel) rfl
theorem q395 : (Jvm.Cond.classLink "OwnRain" (19 : Nat) "OwnRain$Tape") ∈ gtbl := gq 395 (by decide +kernel) rfl
theorem q396 : (Jvm.Cond.instantiable "OwnRain$Tape" (6 : Nat)) ∈ gtbl := gq 396 (by decide +kernel) rfl
theorem q398 : (Jvm.Cond.instanceMethod ({ cls := "OwnRain$Tape", name := "<init>", desc := "()V" } : Jvm.MethodName)) ∈ gtbl := gq 398 (by decide +kernel) rfl
set_option maxRecDepth 100000 in
theorem q399 : (Jvm.Cond.code ({ cls := "OwnRain$Tape", name := "<init>", desc := "()V" } : Jvm.MethodName) prog_8_method_1_code (1 : Nat) (Option.none : Option Jvm.ClassFile.FieldType)) ∈ gtbl := gq 399 rfl rfl
theorem q400 : (Jvm.Cond.methodLink "OwnRain$Tape" (3 : Nat) ({ cls := "java/lang/Object", name := "<init>", desc := "()V" } : Jvm.MethodName)) ∈ gtbl := gq 400 (by decide +kernel) rfl
theorem q401 : (Jvm.Cond.fieldLink "OwnRain$Tape" (24 : Nat) "OwnRain$Tape" "length" "I") ∈ gtbl := gq 401 (by decide +kernel) rfl
theorem q402 : (Jvm.Cond.fieldLink "OwnRain$Reader" (47 : Nat) "OwnRain$Tape" "length" "I") ∈ gtbl := gq 402 (by decide +kernel) rfl
theorem q403 : (Jvm.Cond.fieldLink "OwnRain" (107 : Nat) "OwnRain$Tape" "length" "I") ∈ gtbl := gq 403 (by decide +kernel) rfl
theorem q404 : (Jvm.Cond.fieldLink "OwnRain$Tape" (28 : Nat) "OwnRain$Tape" "tokens" "I") ∈ gtbl := gq 404 (by decide +kernel) rfl
theorem q405 : (Jvm.Cond.fieldLink "OwnRain$Reader" (50 : Nat) "OwnRain$Tape" "tokens" "I") ∈ gtbl := gq 405 (by decide +kernel) rfl
theorem q406 : (Jvm.Cond.fieldLink "OwnRain$Tape" (9 : Nat) "OwnRain$Tape" "token" "[I") ∈ gtbl := gq 406 (by decide +kernel) rfl
theorem q407 : (Jvm.Cond.fieldLink "OwnRain$Reader" (37 : Nat) "OwnRain$Tape" "token" "[I") ∈ gtbl := gq 407 (by decide +kernel) rfl
theorem q408 : (Jvm.Cond.fieldLink "OwnRain$Tape" (15 : Nat) "OwnRain$Tape" "number" "[I") ∈ gtbl := gq 408 (by decide +kernel) rfl
theorem q409 : (Jvm.Cond.fieldLink "OwnRain$Reader" (112 : Nat) "OwnRain$Tape" "number" "[I") ∈ gtbl := gq 409 (by decide +kernel) rfl
theorem q410 : (Jvm.Cond.fieldLink "OwnRain$Tape" (18 : Nat) "OwnRain$Tape" "place" "[I") ∈ gtbl := gq 410 (by decide +kernel) rfl
theorem q411 : (Jvm.Cond.fieldLink "OwnRain$Reader" (53 : Nat) "OwnRain$Tape" "place" "[I") ∈ gtbl := gq 411 (by decide +kernel) rfl
theorem q412 : (Jvm.Cond.fieldLink "OwnRain$Tape" (21 : Nat) "OwnRain$Tape" "bytes" "[I") ∈ gtbl := gq 412 (by decide +kernel) rfl
theorem q426 : (Jvm.Cond.classLink "OwnRain" (26 : Nat) "OwnRain$Reader") ∈ gtbl := gq 426 (by decide +kernel) rfl
theorem q427 : (Jvm.Cond.instantiable "OwnRain$Reader" (7 : Nat)) ∈ gtbl := gq 427 (by decide +kernel) rfl
theorem q428 : (Jvm.Cond.methodLink "OwnRain" (28 : Nat) ({ cls := "OwnRain$Reader", name := "<init>", desc := "(LOwnRain$Tape;)V" } : Jvm.MethodName)) ∈ gtbl := gq 428 (by decide +kernel) rfl
theorem q429 : (Jvm.Cond.instanceMethod ({ cls := "OwnRain$Reader", name := "<init>", desc := "(LOwnRain$Tape;)V" } : Jvm.MethodName)) ∈ gtbl := gq 429 (by decide +kernel) rfl
set_option maxRecDepth 100000 in
theorem q430 : (Jvm.Cond.code ({ cls := "OwnRain$Reader", name := "<init>", desc := "(LOwnRain$Tape;)V" } : Jvm.MethodName) prog_5_method_1_code (2 : Nat) (Option.none : Option Jvm.ClassFile.FieldType)) ∈ gtbl := gq 430 rfl rfl
theorem q431 : (Jvm.Cond.methodLink "OwnRain$Reader" (3 : Nat) ({ cls := "java/lang/Object", name := "<init>", desc := "()V" } : Jvm.MethodName)) ∈ gtbl := gq 431 (by decide +kernel) rfl
theorem q432 : (Jvm.Cond.fieldLink "OwnRain$Reader" (9 : Nat) "OwnRain$Reader" "fault" "I") ∈ gtbl := gq 432 (by decide +kernel) rfl
theorem q433 : (Jvm.Cond.fieldLink "OwnRain" (125 : Nat) "OwnRain$Reader" "fault" "I") ∈ gtbl := gq 433 (by decide +kernel) rfl
theorem q434 : (Jvm.Cond.fieldLink "OwnRain$Reader" (15 : Nat) "OwnRain$Reader" "place" "I") ∈ gtbl := gq 434 (by decide +kernel) rfl
theorem q435 : (Jvm.Cond.fieldLink "OwnRain" (128 : Nat) "OwnRain$Reader" "place" "I") ∈ gtbl := gq 435 (by decide +kernel) rfl
theorem q436 : (Jvm.Cond.fieldLink "OwnRain$Reader" (18 : Nat) "OwnRain$Reader" "tape" "LOwnRain$Tape;") ∈ gtbl := gq 436 (by decide +kernel) rfl
theorem q437 : (Jvm.Cond.fieldLink "OwnRain$Reader" (25 : Nat) "OwnRain$Reader" "draft" "LOwnRain$Text;") ∈ gtbl := gq 437 (by decide +kernel) rfl
theorem q438 : (Jvm.Cond.fieldLink "OwnRain$Reader" (81 : Nat) "OwnRain$Reader" "law" "I") ∈ gtbl := gq 438 (by decide +kernel) rfl
theorem q439 : (Jvm.Cond.fieldLink "OwnRain$Reader" (34 : Nat) "OwnRain$Reader" "index" "I") ∈ gtbl := gq 439 (by decide +kernel) rfl
theorem q440 : (Jvm.Cond.fieldLink "OwnRain$Reader" (41 : Nat) "OwnRain$Reader" "token" "I") ∈ gtbl := gq 440 (by decide +kernel) rfl
theorem q456 : (Jvm.Cond.classLink "OwnRain" (35 : Nat) "OwnRain$Weather") ∈ gtbl := gq 456 (by decide +kernel) rfl
theorem q457 : (Jvm.Cond.instantiable "OwnRain$Weather" (10 : Nat)) ∈ gtbl := gq 457 (by decide +kernel) rfl
theorem q458 : (Jvm.Cond.methodLink "OwnRain" (37 : Nat) ({ cls := "OwnRain$Weather", name := "<init>", desc := "(LOwnRain$State;)V" } : Jvm.MethodName)) ∈ gtbl := gq 458 (by decide +kernel) rfl
theorem q459 : (Jvm.Cond.instanceMethod ({ cls := "OwnRain$Weather", name := "<init>", desc := "(LOwnRain$State;)V" } : Jvm.MethodName)) ∈ gtbl := gq 459 (by decide +kernel) rfl
set_option maxRecDepth 100000 in
theorem q460 : (Jvm.Cond.code ({ cls := "OwnRain$Weather", name := "<init>", desc := "(LOwnRain$State;)V" } : Jvm.MethodName) prog_11_method_1_code (2 : Nat) (Option.none : Option Jvm.ClassFile.FieldType)) ∈ gtbl := gq 460 rfl rfl
theorem q461 : (Jvm.Cond.methodLink "OwnRain$Weather" (3 : Nat) ({ cls := "java/lang/Object", name := "<init>", desc := "()V" } : Jvm.MethodName)) ∈ gtbl := gq 461 (by decide +kernel) rfl
theorem q462 : (Jvm.Cond.fieldLink "OwnRain$Weather" (9 : Nat) "OwnRain$Weather" "tax" "I") ∈ gtbl := gq 462 (by decide +kernel) rfl
theorem q463 : (Jvm.Cond.fieldLink "OwnRain$Planner" (110 : Nat) "OwnRain$Weather" "tax" "I") ∈ gtbl := gq 463 (by decide +kernel) rfl
theorem q464 : (Jvm.Cond.fieldLink "OwnRain$Weather" (15 : Nat) "OwnRain$Weather" "sweat" "[I") ∈ gtbl := gq 464 (by decide +kernel) rfl
theorem q465 : (Jvm.Cond.fieldLink "OwnRain$Planner" (92 : Nat) "OwnRain$Weather" "sweat" "[I") ∈ gtbl := gq 465 (by decide +kernel) rfl
theorem q466 : (Jvm.Cond.fieldLink "OwnRain$Weather" (19 : Nat) "OwnRain$Weather" "wet" "[I") ∈ gtbl := gq 466 (by decide +kernel) rfl
theorem q467 : (Jvm.Cond.fieldLink "OwnRain$Planner" (95 : Nat) "OwnRain$Weather" "wet" "[I") ∈ gtbl := gq 467 (by decide +kernel) rfl
theorem q468 : (Jvm.Cond.fieldLink "OwnRain$Weather" (55 : Nat) "OwnRain$Weather" "rainers" "I") ∈ gtbl := gq 468 (by decide +kernel) rfl
theorem q469 : (Jvm.Cond.fieldLink "OwnRain$Planner" (65 : Nat) "OwnRain$Weather" "rainers" "I") ∈ gtbl := gq 469 (by decide +kernel) rfl
theorem q470 : (Jvm.Cond.fieldLink "OwnRain$Weather" (28 : Nat) "OwnRain$Weather" "state" "LOwnRain$State;") ∈ gtbl := gq 470 (by decide +kernel) rfl
theorem q471 : (Jvm.Cond.fieldLink "OwnRain$Weather" (22 : Nat) "OwnRain$Weather" "waiting" "[I") ∈ gtbl := gq 471 (by decide +kernel) rfl
theorem q472 : (Jvm.Cond.fieldLink "OwnRain$Weather" (25 : Nat) "OwnRain$Weather" "groups" "[I") ∈ gtbl := gq 472 (by decide +kernel) rfl
theorem q473 : (Jvm.Cond.fieldLink "OwnRain$Weather" (143 : Nat) "OwnRain$Weather" "world" "LOwnRain$World;") ∈ gtbl := gq 473 (by decide +kernel) rfl
theorem q474 : (Jvm.Cond.fieldLink "OwnRain$Weather" (147 : Nat) "OwnRain$Weather" "here" "I") ∈ gtbl := gq 474 (by decide +kernel) rfl
theorem q475 : (Jvm.Cond.fieldLink "OwnRain$Weather" (130 : Nat) "OwnRain$Weather" "both" "I") ∈ gtbl := gq 475 (by decide +kernel) rfl
theorem q497 : (Jvm.Cond.classLink "OwnRain" (44 : Nat) "OwnRain$Planner") ∈ gtbl := gq 497 (by decide +kernel) rfl
theorem q498 : (Jvm.Cond.instantiable "OwnRain$Planner" (10 : Nat)) ∈ gtbl := gq 498 (by decide +kernel) rfl
theorem q499 : (Jvm.Cond.methodLink "OwnRain" (46 : Nat) ({ cls := "OwnRain$Planner", name := "<init>", desc := "(LOwnRain$State;LOwnRain$Weather;)V" } : Jvm.MethodName)) ∈ gtbl := gq 499 (by decide +kernel) rfl
theorem q500 : (Jvm.Cond.instanceMethod ({ cls := "OwnRain$Planner", name := "<init>", desc := "(LOwnRain$State;LOwnRain$Weather;)V" } : Jvm.MethodName)) ∈ gtbl := gq 500 (by decide +kernel) rfl
set_option maxRecDepth 100000 in
theorem q501 : (Jvm.Cond.code ({ cls := "OwnRain$Planner", name := "<init>", desc := "(LOwnRain$State;LOwnRain$Weather;)V" } : Jvm.MethodName) prog_4_method_1_code (4 : Nat) (Option.none : Option Jvm.ClassFile.FieldType)) ∈ gtbl := gq 501 rfl rfl
theorem q502 : (Jvm.Cond.methodLink "OwnRain$Planner" (3 : Nat) ({ cls := "java/lang/Object", name := "<init>", desc := "()V" } : Jvm.MethodName)) ∈ gtbl := gq 502 (by decide +kernel) rfl
theorem q503 : (Jvm.Cond.classLink "OwnRain$Planner" (15 : Nat) "OwnRain$World") ∈ gtbl := gq 503 (by decide +kernel) rfl
theorem q505 : (Jvm.Cond.fieldLink "OwnRain$Planner" (73 : Nat) "OwnRain$Planner" "least" "I") ∈ gtbl := gq 505 (by decide +kernel) rfl
theorem q506 : (Jvm.Cond.fieldLink "OwnRain" (308 : Nat) "OwnRain$Planner" "least" "I") ∈ gtbl := gq 506 (by decide +kernel) rfl
theorem q507 : (Jvm.Cond.fieldLink "OwnRain$Planner" (9 : Nat) "OwnRain$Planner" "best" "[I") ∈ gtbl := gq 507 (by decide +kernel) rfl
theorem q508 : (Jvm.Cond.fieldLink "OwnRain" (311 : Nat) "OwnRain$Planner" "best" "[I") ∈ gtbl := gq 508 (by decide +kernel) rfl
theorem q509 : (Jvm.Cond.fieldLink "OwnRain$Planner" (36 : Nat) "OwnRain$Planner" "state" "LOwnRain$State;") ∈ gtbl := gq 509 (by decide +kernel) rfl
theorem q510 : (Jvm.Cond.fieldLink "OwnRain$Planner" (40 : Nat) "OwnRain$Planner" "weather" "LOwnRain$Weather;") ∈ gtbl := gq 510 (by decide +kernel) rfl
theorem q511 : (Jvm.Cond.fieldLink "OwnRain$Planner" (17 : Nat) "OwnRain$Planner" "worlds" "[LOwnRain$World;") ∈ gtbl := gq 511 (by decide +kernel) rfl
theorem q512 : (Jvm.Cond.fieldLink "OwnRain$Planner" (21 : Nat) "OwnRain$Planner" "tried" "[I") ∈ gtbl := gq 512 (by decide +kernel) rfl
theorem q513 : (Jvm.Cond.fieldLink "OwnRain$Planner" (24 : Nat) "OwnRain$Planner" "grown" "[I") ∈ gtbl := gq 513 (by decide +kernel) rfl
theorem q514 : (Jvm.Cond.fieldLink "OwnRain$Planner" (27 : Nat) "OwnRain$Planner" "places" "[I") ∈ gtbl := gq 514 (by decide +kernel) rfl
theorem q515 : (Jvm.Cond.fieldLink "OwnRain" (328 : Nat) "OwnRain$Planner" "places" "[I") ∈ gtbl := gq 515 (by decide +kernel) rfl
theorem q516 : (Jvm.Cond.fieldLink "OwnRain$Planner" (30 : Nat) "OwnRain$Planner" "sweats" "[I") ∈ gtbl := gq 516 (by decide +kernel) rfl
theorem q517 : (Jvm.Cond.fieldLink "OwnRain$Planner" (33 : Nat) "OwnRain$Planner" "most" "[I") ∈ gtbl := gq 517 (by decide +kernel) rfl
theorem q539 : (Jvm.Cond.classLink "OwnRain" (53 : Nat) "OwnRain$Ways") ∈ gtbl := gq 539 (by decide +kernel) rfl
theorem q540 : (Jvm.Cond.instantiable "OwnRain$Ways" (3 : Nat)) ∈ gtbl := gq 540 (by decide +kernel) rfl
theorem q541 : (Jvm.Cond.methodLink "OwnRain" (55 : Nat) ({ cls := "OwnRain$Ways", name := "<init>", desc := "(LOwnRain$State;)V" } : Jvm.MethodName)) ∈ gtbl := gq 541 (by decide +kernel) rfl
theorem q542 : (Jvm.Cond.instanceMethod ({ cls := "OwnRain$Ways", name := "<init>", desc := "(LOwnRain$State;)V" } : Jvm.MethodName)) ∈ gtbl := gq 542 (by decide +kernel) rfl
set_option maxRecDepth 100000 in
theorem q543 : (Jvm.Cond.code ({ cls := "OwnRain$Ways", name := "<init>", desc := "(LOwnRain$State;)V" } : Jvm.MethodName) prog_10_method_1_code (2 : Nat) (Option.none : Option Jvm.ClassFile.FieldType)) ∈ gtbl := gq 543 rfl rfl
theorem q544 : (Jvm.Cond.methodLink "OwnRain$Ways" (3 : Nat) ({ cls := "java/lang/Object", name := "<init>", desc := "()V" } : Jvm.MethodName)) ∈ gtbl := gq 544 (by decide +kernel) rfl
theorem q545 : (Jvm.Cond.fieldLink "OwnRain$Ways" (9 : Nat) "OwnRain$Ways" "left" "[I") ∈ gtbl := gq 545 (by decide +kernel) rfl
theorem q546 : (Jvm.Cond.fieldLink "OwnRain" (334 : Nat) "OwnRain$Ways" "left" "[I") ∈ gtbl := gq 546 (by decide +kernel) rfl
theorem q547 : (Jvm.Cond.fieldLink "OwnRain$Ways" (15 : Nat) "OwnRain$Ways" "wide" "[I") ∈ gtbl := gq 547 (by decide +kernel) rfl
theorem q548 : (Jvm.Cond.fieldLink "OwnRain$Ways" (18 : Nat) "OwnRain$Ways" "state" "LOwnRain$State;") ∈ gtbl := gq 548 (by decide +kernel) rfl
theorem q556 : (Jvm.Cond.fieldLink "OwnRain" (10 : Nat) "OwnRain" "now" "LOwnRain$State;") ∈ gtbl := gq 556 (by decide +kernel) rfl
theorem q557 : (Jvm.Cond.fieldLink "OwnRain" (16 : Nat) "OwnRain" "kept" "LOwnRain$State;") ∈ gtbl := gq 557 (by decide +kernel) rfl
theorem q558 : (Jvm.Cond.fieldLink "OwnRain" (22 : Nat) "OwnRain" "tape" "LOwnRain$Tape;") ∈ gtbl := gq 558 (by decide +kernel) rfl
theorem q559 : (Jvm.Cond.fieldLink "OwnRain" (31 : Nat) "OwnRain" "reader" "LOwnRain$Reader;") ∈ gtbl := gq 559 (by decide +kernel) rfl
theorem q560 : (Jvm.Cond.fieldLink "OwnRain" (40 : Nat) "OwnRain" "weather" "LOwnRain$Weather;") ∈ gtbl := gq 560 (by decide +kernel) rfl
theorem q561 : (Jvm.Cond.fieldLink "OwnRain" (49 : Nat) "OwnRain" "planner" "LOwnRain$Planner;") ∈ gtbl := gq 561 (by decide +kernel) rfl
theorem q562 : (Jvm.Cond.fieldLink "OwnRain" (56 : Nat) "OwnRain" "ways" "LOwnRain$Ways;") ∈ gtbl := gq 562 (by decide +kernel) rfl
theorem q578 : (Jvm.Cond.methodLink "OwnRainLaw" (13 : Nat) ({ cls := "OwnRain", name := "field", desc := "(III)I" } : Jvm.MethodName)) ∈ gtbl := gq 578 (by decide +kernel) rfl
theorem q579 : (Jvm.Cond.instanceMethod ({ cls := "OwnRain", name := "field", desc := "(III)I" } : Jvm.MethodName)) ∈ gtbl := gq 579 (by decide +kernel) rfl
theorem q580 : (Jvm.Cond.selects "OwnRain" ({ cls := "OwnRain", name := "field", desc := "(III)I" } : Jvm.MethodName) ({ cls := "OwnRain", name := "field", desc := "(III)I" } : Jvm.MethodName)) ∈ gtbl := gq 580 (by decide +kernel) rfl
set_option maxRecDepth 100000 in
theorem q581 : (Jvm.Cond.code ({ cls := "OwnRain", name := "field", desc := "(III)I" } : Jvm.MethodName) prog_1_method_2_code (6 : Nat) (Option.some Jvm.ClassFile.FieldType.int)) ∈ gtbl := gq 581 rfl rfl
theorem q582 : (Jvm.Cond.methodLink "OwnRain" (64 : Nat) ({ cls := "OwnRain", name := "isWithin", desc := "(III)Z" } : Jvm.MethodName)) ∈ gtbl := gq 582 (by decide +kernel) rfl
theorem q583 : (Jvm.Cond.static ({ cls := "OwnRain", name := "isWithin", desc := "(III)Z" } : Jvm.MethodName)) ∈ gtbl := gq 583 (by decide +kernel) rfl
set_option maxRecDepth 100000 in
theorem q584 : (Jvm.Cond.code ({ cls := "OwnRain", name := "isWithin", desc := "(III)Z" } : Jvm.MethodName) prog_1_method_48_code (3 : Nat) (Option.some Jvm.ClassFile.FieldType.boolean)) ∈ gtbl := gq 584 rfl rfl
theorem q585 : (Jvm.Cond.methodLink "OwnRain" (74 : Nat) ({ cls := "OwnRain$Land", name := "addField", desc := "(III)I" } : Jvm.MethodName)) ∈ gtbl := gq 585 (by decide +kernel) rfl
theorem q586 : (Jvm.Cond.instanceMethod ({ cls := "OwnRain$Land", name := "addField", desc := "(III)I" } : Jvm.MethodName)) ∈ gtbl := gq 586 (by decide +kernel) rfl
theorem q587 : (Jvm.Cond.selects "OwnRain$Land" ({ cls := "OwnRain$Land", name := "addField", desc := "(III)I" } : Jvm.MethodName) ({ cls := "OwnRain$Land", name := "addField", desc := "(III)I" } : Jvm.MethodName)) ∈ gtbl := gq 587 (by decide +kernel) rfl
set_option maxRecDepth 100000 in
theorem q588 : (Jvm.Cond.code ({ cls := "OwnRain$Land", name := "addField", desc := "(III)I" } : Jvm.MethodName) prog_2_method_5_code (4 : Nat) (Option.some Jvm.ClassFile.FieldType.int)) ∈ gtbl := gq 588 rfl rfl
theorem q589 : (Jvm.Cond.methodLink "OwnRainLaw" (18 : Nat) ({ cls := "OwnRain", name := "road", desc := "(II)Z" } : Jvm.MethodName)) ∈ gtbl := gq 589 (by decide +kernel) rfl
theorem q590 : (Jvm.Cond.instanceMethod ({ cls := "OwnRain", name := "road", desc := "(II)Z" } : Jvm.MethodName)) ∈ gtbl := gq 590 (by decide +kernel) rfl
theorem q591 : (Jvm.Cond.selects "OwnRain" ({ cls := "OwnRain", name := "road", desc := "(II)Z" } : Jvm.MethodName) ({ cls := "OwnRain", name := "road", desc := "(II)Z" } : Jvm.MethodName)) ∈ gtbl := gq 591 (by decide +kernel) rfl
set_option maxRecDepth 100000 in
theorem q592 : (Jvm.Cond.code ({ cls := "OwnRain", name := "road", desc := "(II)Z" } : Jvm.MethodName) prog_1_method_3_code (4 : Nat) (Option.some Jvm.ClassFile.FieldType.boolean)) ∈ gtbl := gq 592 rfl rfl
theorem q593 : (Jvm.Cond.methodLink "OwnRain" (78 : Nat) ({ cls := "OwnRain$Land", name := "hasField", desc := "(I)Z" } : Jvm.MethodName)) ∈ gtbl := gq 593 (by decide +kernel) rfl
theorem q594 : (Jvm.Cond.instanceMethod ({ cls := "OwnRain$Land", name := "hasField", desc := "(I)Z" } : Jvm.MethodName)) ∈ gtbl := gq 594 (by decide +kernel) rfl
theorem q595 : (Jvm.Cond.selects "OwnRain$Land" ({ cls := "OwnRain$Land", name := "hasField", desc := "(I)Z" } : Jvm.MethodName) ({ cls := "OwnRain$Land", name := "hasField", desc := "(I)Z" } : Jvm.MethodName)) ∈ gtbl := gq 595 (by decide +kernel) rfl
set_option maxRecDepth 100000 in
theorem q596 : (Jvm.Cond.code ({ cls := "OwnRain$Land", name := "hasField", desc := "(I)Z" } : Jvm.MethodName) prog_2_method_2_code (2 : Nat) (Option.some Jvm.ClassFile.FieldType.boolean)) ∈ gtbl := gq 596 rfl rfl
theorem q597 : (Jvm.Cond.methodLink "OwnRain" (82 : Nat) ({ cls := "OwnRain$Land", name := "hasRoad", desc := "(II)Z" } : Jvm.MethodName)) ∈ gtbl := gq 597 (by decide +kernel) rfl
theorem q598 : (Jvm.Cond.instanceMethod ({ cls := "OwnRain$Land", name := "hasRoad", desc := "(II)Z" } : Jvm.MethodName)) ∈ gtbl := gq 598 (by decide +kernel) rfl
theorem q599 : (Jvm.Cond.selects "OwnRain$Land" ({ cls := "OwnRain$Land", name := "hasRoad", desc := "(II)Z" } : Jvm.MethodName) ({ cls := "OwnRain$Land", name := "hasRoad", desc := "(II)Z" } : Jvm.MethodName)) ∈ gtbl := gq 599 (by decide +kernel) rfl
set_option maxRecDepth 100000 in
theorem q600 : (Jvm.Cond.code ({ cls := "OwnRain$Land", name := "hasRoad", desc := "(II)Z" } : Jvm.MethodName) prog_2_method_4_code (3 : Nat) (Option.some Jvm.ClassFile.FieldType.boolean)) ∈ gtbl := gq 600 rfl rfl
theorem q601 : (Jvm.Cond.methodLink "OwnRain" (86 : Nat) ({ cls := "OwnRain$Land", name := "addRoad", desc := "(II)V" } : Jvm.MethodName)) ∈ gtbl := gq 601 (by decide +kernel) rfl
theorem q602 : (Jvm.Cond.instanceMethod ({ cls := "OwnRain$Land", name := "addRoad", desc := "(II)V" } : Jvm.MethodName)) ∈ gtbl := gq 602 (by decide +kernel) rfl
theorem q603 : (Jvm.Cond.selects "OwnRain$Land" ({ cls := "OwnRain$Land", name := "addRoad", desc := "(II)V" } : Jvm.MethodName) ({ cls := "OwnRain$Land", name := "addRoad", desc := "(II)V" } : Jvm.MethodName)) ∈ gtbl := gq 603 (by decide +kernel) rfl
set_option maxRecDepth 100000 in
theorem q604 : (Jvm.Cond.code ({ cls := "OwnRain$Land", name := "addRoad", desc := "(II)V" } : Jvm.MethodName) prog_2_method_6_code (3 : Nat) (Option.none : Option Jvm.ClassFile.FieldType)) ∈ gtbl := gq 604 rfl rfl
theorem q605 : (Jvm.Cond.methodLink "OwnRainLaw" (23 : Nat) ({ cls := "OwnRain", name := "person", desc := "(IIII)I" } : Jvm.MethodName)) ∈ gtbl := gq 605 (by decide +kernel) rfl
theorem q606 : (Jvm.Cond.instanceMethod ({ cls := "OwnRain", name := "person", desc := "(IIII)I" } : Jvm.MethodName)) ∈ gtbl := gq 606 (by decide +kernel) rfl
theorem q607 : (Jvm.Cond.selects "OwnRain" ({ cls := "OwnRain", name := "person", desc := "(IIII)I" } : Jvm.MethodName) ({ cls := "OwnRain", name := "person", desc := "(IIII)I" } : Jvm.MethodName)) ∈ gtbl := gq 607 (by decide +kernel) rfl
set_option maxRecDepth 100000 in
theorem q608 : (Jvm.Cond.code ({ cls := "OwnRain", name := "person", desc := "(IIII)I" } : Jvm.MethodName) prog_1_method_4_code (8 : Nat) (Option.some Jvm.ClassFile.FieldType.int)) ∈ gtbl := gq 608 rfl rfl
theorem q609 : (Jvm.Cond.methodLink "OwnRain" (93 : Nat) ({ cls := "OwnRain$Land", name := "addPerson", desc := "(IIII)I" } : Jvm.MethodName)) ∈ gtbl := gq 609 (by decide +kernel) rfl
theorem q610 : (Jvm.Cond.instanceMethod ({ cls := "OwnRain$Land", name := "addPerson", desc := "(IIII)I" } : Jvm.MethodName)) ∈ gtbl := gq 610 (by decide +kernel) rfl
theorem q611 : (Jvm.Cond.selects "OwnRain$Land" ({ cls := "OwnRain$Land", name := "addPerson", desc := "(IIII)I" } : Jvm.MethodName) ({ cls := "OwnRain$Land", name := "addPerson", desc := "(IIII)I" } : Jvm.MethodName)) ∈ gtbl := gq 611 (by decide +kernel) rfl
set_option maxRecDepth 100000 in
theorem q612 : (Jvm.Cond.code ({ cls := "OwnRain$Land", name := "addPerson", desc := "(IIII)I" } : Jvm.MethodName) prog_2_method_7_code (5 : Nat) (Option.some Jvm.ClassFile.FieldType.int)) ∈ gtbl := gq 612 rfl rfl
theorem q613 : (Jvm.Cond.methodLink "OwnRain" (101 : Nat) ({ cls := "OwnRain$World", name := "settle", desc := "(III)V" } : Jvm.MethodName)) ∈ gtbl := gq 613 (by decide +kernel) rfl
theorem q614 : (Jvm.Cond.instanceMethod ({ cls := "OwnRain$World", name := "settle", desc := "(III)V" } : Jvm.MethodName)) ∈ gtbl := gq 614 (by decide +kernel) rfl
theorem q615 : (Jvm.Cond.selects "OwnRain$World" ({ cls := "OwnRain$World", name := "settle", desc := "(III)V" } : Jvm.MethodName) ({ cls := "OwnRain$World", name := "settle", desc := "(III)V" } : Jvm.MethodName)) ∈ gtbl := gq 615 (by decide +kernel) rfl
set_option maxRecDepth 100000 in
theorem q616 : (Jvm.Cond.code ({ cls := "OwnRain$World", name := "settle", desc := "(III)V" } : Jvm.MethodName) prog_12_method_3_code (4 : Nat) (Option.none : Option Jvm.ClassFile.FieldType)) ∈ gtbl := gq 616 rfl rfl
theorem q617 : (Jvm.Cond.methodLink "OwnRainLaw" (28 : Nat) ({ cls := "OwnRain", name := "feed", desc := "(IIIII)I" } : Jvm.MethodName)) ∈ gtbl := gq 617 (by decide +kernel) rfl
theorem q618 : (Jvm.Cond.instanceMethod ({ cls := "OwnRain", name := "feed", desc := "(IIIII)I" } : Jvm.MethodName)) ∈ gtbl := gq 618 (by decide +kernel) rfl
theorem q619 : (Jvm.Cond.selects "OwnRain" ({ cls := "OwnRain", name := "feed", desc := "(IIIII)I" } : Jvm.MethodName) ({ cls := "OwnRain", name := "feed", desc := "(IIIII)I" } : Jvm.MethodName)) ∈ gtbl := gq 619 (by decide +kernel) rfl
set_option maxRecDepth 100000 in
theorem q620 : (Jvm.Cond.code ({ cls := "OwnRain", name := "feed", desc := "(IIIII)I" } : Jvm.MethodName) prog_1_method_5_code (6 : Nat) (Option.some Jvm.ClassFile.FieldType.int)) ∈ gtbl := gq 620 rfl rfl
theorem q621 : (Jvm.Cond.methodLink "OwnRain" (110 : Nat) ({ cls := "OwnRain$Tape", name := "append", desc := "(I)V" } : Jvm.MethodName)) ∈ gtbl := gq 621 (by decide +kernel) rfl
theorem q622 : (Jvm.Cond.instanceMethod ({ cls := "OwnRain$Tape", name := "append", desc := "(I)V" } : Jvm.MethodName)) ∈ gtbl := gq 622 (by decide +kernel) rfl
theorem q623 : (Jvm.Cond.selects "OwnRain$Tape" ({ cls := "OwnRain$Tape", name := "append", desc := "(I)V" } : Jvm.MethodName) ({ cls := "OwnRain$Tape", name := "append", desc := "(I)V" } : Jvm.MethodName)) ∈ gtbl := gq 623 (by decide +kernel) rfl
set_option maxRecDepth 100000 in
theorem q624 : (Jvm.Cond.code ({ cls := "OwnRain$Tape", name := "append", desc := "(I)V" } : Jvm.MethodName) prog_8_method_2_code (3 : Nat) (Option.none : Option Jvm.ClassFile.FieldType)) ∈ gtbl := gq 624 rfl rfl
theorem q625 : (Jvm.Cond.methodLink "OwnRainLaw" (33 : Nat) ({ cls := "OwnRain", name := "end", desc := "(I)I" } : Jvm.MethodName)) ∈ gtbl := gq 625 (by decide +kernel) rfl
theorem q626 : (Jvm.Cond.instanceMethod ({ cls := "OwnRain", name := "end", desc := "(I)I" } : Jvm.MethodName)) ∈ gtbl := gq 626 (by decide +kernel) rfl
theorem q627 : (Jvm.Cond.selects "OwnRain" ({ cls := "OwnRain", name := "end", desc := "(I)I" } : Jvm.MethodName) ({ cls := "OwnRain", name := "end", desc := "(I)I" } : Jvm.MethodName)) ∈ gtbl := gq 627 (by decide +kernel) rfl
set_option maxRecDepth 100000 in
theorem q628 : (Jvm.Cond.code ({ cls := "OwnRain", name := "end", desc := "(I)I" } : Jvm.MethodName) prog_1_method_6_code (2 : Nat) (Option.some Jvm.ClassFile.FieldType.int)) ∈ gtbl := gq 628 rfl rfl
theorem q629 : (Jvm.Cond.methodLink "OwnRainLaw" (38 : Nat) ({ cls := "OwnRain", name := "text", desc := "()I" } : Jvm.MethodName)) ∈ gtbl := gq 629 (by decide +kernel) rfl
theorem q630 : (Jvm.Cond.instanceMethod ({ cls := "OwnRain", name := "text", desc := "()I" } : Jvm.MethodName)) ∈ gtbl := gq 630 (by decide +kernel) rfl
theorem q631 : (Jvm.Cond.selects "OwnRain" ({ cls := "OwnRain", name := "text", desc := "()I" } : Jvm.MethodName) ({ cls := "OwnRain", name := "text", desc := "()I" } : Jvm.MethodName)) ∈ gtbl := gq 631 (by decide +kernel) rfl
set_option maxRecDepth 100000 in
theorem q632 : (Jvm.Cond.code ({ cls := "OwnRain", name := "text", desc := "()I" } : Jvm.MethodName) prog_1_method_7_code (2 : Nat) (Option.some Jvm.ClassFile.FieldType.int)) ∈ gtbl := gq 632 rfl rfl
theorem q633 : (Jvm.Cond.methodLink "OwnRain" (117 : Nat) ({ cls := "OwnRain$Reader", name := "readTape", desc := "()LOwnRain$Text;" } : Jvm.MethodName)) ∈ gtbl := gq 633 (by decide +kernel) rfl
theorem q634 : (Jvm.Cond.instanceMethod ({ cls := "OwnRain$Reader", name := "readTape", desc := "()LOwnRain$Text;" } : Jvm.MethodName)) ∈ gtbl := gq 634 (by decide +kernel) rfl
theorem q635 : (Jvm.Cond.selects "OwnRain$Reader" ({ cls := "OwnRain$Reader", name := "readTape", desc := "()LOwnRain$Text;" } : Jvm.MethodName) ({ cls := "OwnRain$Reader", name := "readTape", desc := "()LOwnRain$Text;" } : Jvm.MethodName)) ∈ gtbl := gq 635 (by decide +kernel) rfl
set_option maxRecDepth 100000 in
theorem q636 : (Jvm.Cond.code ({ cls := "OwnRain$Reader", name := "readTape", desc := "()LOwnRain$Text;" } : Jvm.MethodName) prog_5_method_2_code (2 : Nat) (Option.some (Jvm.ClassFile.FieldType.object "OwnRain$Text"))) ∈ gtbl := gq 636 rfl rfl
theorem q637 : (Jvm.Cond.classLink "OwnRain$Reader" (22 : Nat) "OwnRain$Text") ∈ gtbl := gq 637 (by decide +kernel) rfl
theorem q638 : (Jvm.Cond.instantiable "OwnRain$Text" (13 : Nat)) ∈ gtbl := gq 638 (by decide +kernel) rfl
theorem q640 : (Jvm.Cond.instanceMethod ({ cls := "OwnRain$Text", name := "<init>", desc := "()V" } : Jvm.MethodName)) ∈ gtbl := gq 640 (by decide +kernel) rfl
set_option maxRecDepth 100000 in
theorem q641 : (Jvm.Cond.code ({ cls := "OwnRain$Text", name := "<init>", desc := "()V" } : Jvm.MethodName) prog_9_method_1_code (1 : Nat) (Option.none : Option Jvm.ClassFile.FieldType)) ∈ gtbl := gq 641 rfl rfl
theorem q642 : (Jvm.Cond.methodLink "OwnRain$Text" (3 : Nat) ({ cls := "java/lang/Object", name := "<init>", desc := "()V" } : Jvm.MethodName)) ∈ gtbl := gq 642 (by decide +kernel) rfl
theorem q643 : (Jvm.Cond.fieldLink "OwnRain$Reader" (65 : Nat) "OwnRain$Text" "clauses" "I") ∈ gtbl := gq 643 (by decide +kernel) rfl
theorem q644 : (Jvm.Cond.fieldLink "OwnRain" (186 : Nat) "OwnRain$Text" "clauses" "I") ∈ gtbl := gq 644 (by decide +kernel) rfl
theorem q645 : (Jvm.Cond.fieldLink "OwnRain$Text" (9 : Nat) "OwnRain$Text" "kinds" "[I") ∈ gtbl := gq 645 (by decide +kernel) rfl
theorem q646 : (Jvm.Cond.fieldLink "OwnRain$Reader" (62 : Nat) "OwnRain$Text" "kinds" "[I") ∈ gtbl := gq 646 (by decide +kernel) rfl
theorem q647 : (Jvm.Cond.fieldLink "OwnRain" (191 : Nat) "OwnRain$Text" "kinds" "[I") ∈ gtbl := gq 647 (by decide +kernel) rfl
theorem q648 : (Jvm.Cond.fieldLink "OwnRain$Text" (15 : Nat) "OwnRain$Text" "parts" "[I") ∈ gtbl := gq 648 (by decide +kernel) rfl
theorem q649 : (Jvm.Cond.fieldLink "OwnRain$Reader" (109 : Nat) "OwnRain$Text" "parts" "[I") ∈ gtbl := gq 649 (by decide +kernel) rfl
theorem q650 : (Jvm.Cond.fieldLink "OwnRain" (198 : Nat) "OwnRain$Text" "parts" "[I") ∈ gtbl := gq 650 (by decide +kernel) rfl
theorem q651 : (Jvm.Cond.fieldLink "OwnRain$Text" (18 : Nat) "OwnRain$Text" "code" "[I") ∈ gtbl := gq 651 (by decide +kernel) rfl
theorem q652 : (Jvm.Cond.fieldLink "OwnRain$Weather" (176 : Nat) "OwnRain$Text" "code" "[I") ∈ gtbl := gq 652 (by decide +kernel) rfl
theorem q653 : (Jvm.Cond.fieldLink "OwnRain$Text" (21 : Nat) "OwnRain$Text" "operand" "[I") ∈ gtbl := gq 653 (by decide +kernel) rfl
theorem q654 : (Jvm.Cond.fieldLink "OwnRain$Weather" (179 : Nat) "OwnRain$Text" "operand" "[I") ∈ gtbl := gq 654 (by decide +kernel) rfl
theorem q655 : (Jvm.Cond.fieldLink "OwnRain$Text" (42 : Nat) "OwnRain$Text" "codeLength" "I") ∈ gtbl := gq 655 (by decide +kernel) rfl
theorem q656 : (Jvm.Cond.fieldLink "OwnRain$Reader" (87 : Nat) "OwnRain$Text" "codeLength" "I") ∈ gtbl := gq 656 (by decide +kernel) rfl
theorem q657 : (Jvm.Cond.fieldLink "OwnRain$Text" (24 : Nat) "OwnRain$Text" "groupFrom" "[I") ∈ gtbl := gq 657 (by decide +kernel) rfl
theorem q658 : (Jvm.Cond.fieldLink "OwnRain$Weather" (156 : Nat) "OwnRain$Text" "groupFrom" "[I") ∈ gtbl := gq 658 (by decide +kernel) rfl
theorem q659 : (Jvm.Cond.fieldLink "OwnRain$Reader" (150 : Nat) "OwnRain$Text" "groupFrom" "[I") ∈ gtbl := gq 659 (by decide +kernel) rfl
theorem q660 : (Jvm.Cond.fieldLink "OwnRain$Text" (27 : Nat) "OwnRain$Text" "groupTo" "[I") ∈ gtbl := gq 660 (by decide +kernel) rfl
theorem q661 : (Jvm.Cond.fieldLink "OwnRain$Weather" (159 : Nat) "OwnRain$Text" "groupTo" "[I") ∈ gtbl := gq 661 (by decide +kernel) rfl
theorem q662 : (Jvm.Cond.fieldLink "OwnRain$Reader" (156 : Nat) "OwnRain$Text" "groupTo" "[I") ∈ gtbl := gq 662 (by decide +kernel) rfl
theorem q663 : (Jvm.Cond.fieldLink "OwnRain$Reader" (93 : Nat) "OwnRain$Text" "groups" "I") ∈ gtbl := gq 663 (by decide +kernel) rfl
theorem q664 : (Jvm.Cond.fieldLink "OwnRain$Text" (30 : Nat) "OwnRain$Text" "lawFrom" "[I") ∈ gtbl := gq 664 (by decide +kernel) rfl
theorem q665 : (Jvm.Cond.fieldLink "OwnRain$Reader" (84 : Nat) "OwnRain$Text" "lawFrom" "[I") ∈ gtbl := gq 665 (by decide +kernel) rfl
theorem q666 : (Jvm.Cond.fieldLink "OwnRain$Weather" (170 : Nat) "OwnRain$Text" "lawFrom" "[I") ∈ gtbl := gq 666 (by decide +kernel) rfl
theorem q667 : (Jvm.Cond.fieldLink "OwnRain$Text" (33 : Nat) "OwnRain$Text" "lawTo" "[I") ∈ gtbl := gq 667 (by decide +kernel) rfl
theorem q668 : (Jvm.Cond.fieldLink "OwnRain$Reader" (100 : Nat) "OwnRain$Text" "lawTo" "[I") ∈ gtbl := gq 668 (by decide +kernel) rfl
theorem q669 : (Jvm.Cond.fieldLink "OwnRain$Weather" (173 : Nat) "OwnRain$Text" "lawTo" "[I") ∈ gtbl := gq 669 (by decide +kernel) rfl
theorem q670 : (Jvm.Cond.fieldLink "OwnRain$Text" (36 : Nat) "OwnRain$Text" "lawGroupsFrom" "[I") ∈ gtbl := gq 670 (by decide +kernel) rfl
theorem q671 : (Jvm.Cond.fieldLink "OwnRain$Reader" (90 : Nat) "OwnRain$Text" "lawGroupsFrom" "[I") ∈ gtbl := gq 671 (by decide +kernel) rfl
theorem q672 : (Jvm.Cond.fieldLink "OwnRain$Weather" (153 : Nat) "OwnRain$Text" "lawGroupsFrom" "[I") ∈ gtbl := gq 672 (by decide +kernel) rfl
theorem q673 : (Jvm.Cond.fieldLink "OwnRain$Text" (39 : Nat) "OwnRain$Text" "lawGroupsTo" "[I") ∈ gtbl := gq 673 (by decide +kernel) rfl
theorem q674 : (Jvm.Cond.fieldLink "OwnRain$Reader" (103 : Nat) "OwnRain$Text" "lawGroupsTo" "[I") ∈ gtbl := gq 674 (by decide +kernel) rfl
theorem q675 : (Jvm.Cond.fieldLink "OwnRain$Weather" (150 : Nat) "OwnRain$Text" "lawGroupsTo" "[I") ∈ gtbl := gq 675 (by decide +kernel) rfl
theorem q703 : (Jvm.Cond.methodLink "OwnRain$Reader" (29 : Nat) ({ cls := "OwnRain$Tape", name := "findTokens", desc := "()V" } : Jvm.MethodName)) ∈ gtbl := gq 703 (by decide +kernel) rfl
theorem q704 : (Jvm.Cond.instanceMethod ({ cls := "OwnRain$Tape", name := "findTokens", desc := "()V" } : Jvm.MethodName)) ∈ gtbl := gq 704 (by decide +kernel) rfl
theorem q705 : (Jvm.Cond.selects "OwnRain$Tape" ({ cls := "OwnRain$Tape", name := "findTokens", desc := "()V" } : Jvm.MethodName) ({ cls := "OwnRain$Tape", name := "findTokens", desc := "()V" } : Jvm.MethodName)) ∈ gtbl := gq 705 (by decide +kernel) rfl
set_option maxRecDepth 100000 in
theorem q706 : (Jvm.Cond.code ({ cls := "OwnRain$Tape", name := "findTokens", desc := "()V" } : Jvm.MethodName) prog_8_method_3_code (3 : Nat) (Option.none : Option Jvm.ClassFile.FieldType)) ∈ gtbl := gq 706 rfl rfl
theorem q707 : (Jvm.Cond.methodLink "OwnRain$Tape" (31 : Nat) ({ cls := "OwnRain$Tape", name := "isLetter", desc := "(I)Z" } : Jvm.MethodName)) ∈ gtbl := gq 707 (by decide +kernel) rfl
theorem q708 : (Jvm.Cond.static ({ cls := "OwnRain$Tape", name := "isLetter", desc := "(I)Z" } : Jvm.MethodName)) ∈ gtbl := gq 708 (by decide +kernel) rfl
set_option maxRecDepth 100000 in
theorem q709 : (Jvm.Cond.code ({ cls := "OwnRain$Tape", name := "isLetter", desc := "(I)Z" } : Jvm.MethodName) prog_8_method_9_code (1 : Nat) (Option.some Jvm.ClassFile.FieldType.boolean)) ∈ gtbl := gq 709 rfl rfl
theorem q711 : (Jvm.Cond.methodLink "OwnRain$Tape" (35 : Nat) ({ cls := "OwnRain$Tape", name := "addWord", desc := "(I)I" } : Jvm.MethodName)) ∈ gtbl := gq 711 (by decide +kernel) rfl
theorem q713 : (Jvm.Cond.instanceMethod ({ cls := "OwnRain$Tape", name := "addWord", desc := "(I)I" } : Jvm.MethodName)) ∈ gtbl := gq 713 (by decide +kernel) rfl
set_option maxRecDepth 100000 in
theorem q714 : (Jvm.Cond.code ({ cls := "OwnRain$Tape", name := "addWord", desc := "(I)I" } : Jvm.MethodName) prog_8_method_5_code (3 : Nat) (Option.some Jvm.ClassFile.FieldType.int)) ∈ gtbl := gq 714 rfl rfl
theorem q715 : (Jvm.Cond.methodLink "OwnRain$Tape" (52 : Nat) ({ cls := "OwnRain$Tape", name := "wordOf", desc := "(II)I" } : Jvm.MethodName)) ∈ gtbl := gq 715 (by decide +kernel) rfl
theorem q717 : (Jvm.Cond.instanceMethod ({ cls := "OwnRain$Tape", name := "wordOf", desc := "(II)I" } : Jvm.MethodName)) ∈ gtbl := gq 717 (by decide +kernel) rfl
set_option maxRecDepth 100000 in
theorem q718 : (Jvm.Cond.code ({ cls := "OwnRain$Tape", name := "wordOf", desc := "(II)I" } : Jvm.MethodName) prog_8_method_8_code (8 : Nat) (Option.some Jvm.ClassFile.FieldType.int)) ∈ gtbl := gq 718 rfl rfl
theorem q720 : (Jvm.Cond.methodLink "OwnRain$Tape" (70 : Nat) ({ cls := "java/lang/String", name := "length", desc := "()I" } : Jvm.MethodName)) ∈ gtbl := gq 720 (by decide +kernel) rfl
theorem q721 : (Jvm.Cond.instanceMethod ({ cls := "java/lang/String", name := "length", desc := "()I" } : Jvm.MethodName)) ∈ gtbl := gq 721 (by decide +kernel) rfl
theorem q722 : (Jvm.Cond.selects "java/lang/String" ({ cls := "java/lang/String", name := "length", desc := "()I" } : Jvm.MethodName) ({ cls := "java/lang/String", name := "length", desc := "()I" } : Jvm.MethodName)) ∈ gtbl := gq 722 (by decide +kernel) rfl
set_option maxRecDepth 100000 in
theorem q723 : (Jvm.Cond.code ({ cls := "java/lang/String", name := "length", desc := "()I" } : Jvm.MethodName) prog_18_method_54_code (1 : Nat) (Option.some Jvm.ClassFile.FieldType.int)) ∈ gtbl := gq 723 rfl rfl
theorem q724 : (Jvm.Cond.methodLink "java/lang/String" (335 : Nat) ({ cls := "java/lang/String", name := "coder", desc := "()B" } : Jvm.MethodName)) ∈ gtbl := gq 724 (by decide +kernel) rfl
theorem q725 : (Jvm.Cond.instanceMethod ({ cls := "java/lang/String", name := "coder", desc := "()B" } : Jvm.MethodName)) ∈ gtbl := gq 725 (by decide +kernel) rfl
theorem q726 : (Jvm.Cond.selects "java/lang/String" ({ cls := "java/lang/String", name := "coder", desc := "()B" } : Jvm.MethodName) ({ cls := "java/lang/String", name := "coder", desc := "()B" } : Jvm.MethodName)) ∈ gtbl := gq 726 (by decide +kernel) rfl
set_option maxRecDepth 100000 in
theorem q727 : (Jvm.Cond.code ({ cls := "java/lang/String", name := "coder", desc := "()B" } : Jvm.MethodName) prog_18_method_152_code (1 : Nat) (Option.some Jvm.ClassFile.FieldType.byte)) ∈ gtbl := gq 727 rfl rfl
theorem q728 : (Jvm.Cond.fieldLink "java/lang/String" (38 : Nat) "java/lang/String" "COMPACT_STRINGS" "Z") ∈ gtbl := gq 728 (by decide +kernel) rfl
theorem q730 : (Jvm.Cond.methodLink "OwnRain$Tape" (73 : Nat) ({ cls := "java/lang/String", name := "charAt", desc := "(I)C" } : Jvm.MethodName)) ∈ gtbl := gq 730 (by decide +kernel) rfl
theorem q731 : (Jvm.Cond.instanceMethod ({ cls := "java/lang/String", name := "charAt", desc := "(I)C" } : Jvm.MethodName)) ∈ gtbl := gq 731 (by decide +kernel) rfl
theorem q732 : (Jvm.Cond.selects "java/lang/String" ({ cls := "java/lang/String", name := "charAt", desc := "(I)C" } : Jvm.MethodName) ({ cls := "java/lang/String", name := "charAt", desc := "(I)C" } : Jvm.MethodName)) ∈ gtbl := gq 732 (by decide +kernel) rfl
set_option maxRecDepth 100000 in
theorem q733 : (Jvm.Cond.code ({ cls := "java/lang/String", name := "charAt", desc := "(I)C" } : Jvm.MethodName) prog_18_method_56_code (2 : Nat) (Option.some Jvm.ClassFile.FieldType.char)) ∈ gtbl := gq 733 rfl rfl
theorem q734 : (Jvm.Cond.methodLink "java/lang/String" (492 : Nat) ({ cls := "java/lang/String", name := "isLatin1", desc := "()Z" } : Jvm.MethodName)) ∈ gtbl := gq 734 (by decide +kernel) rfl
theorem q735 : (Jvm.Cond.instanceMethod ({ cls := "java/lang/String", name := "isLatin1", desc := "()Z" } : Jvm.MethodName)) ∈ gtbl := gq 735 (by decide +kernel) rfl
theorem q736 : (Jvm.Cond.selects "java/lang/String" ({ cls := "java/lang/String", name := "isLatin1", desc := "()Z" } : Jvm.MethodName) ({ cls := "java/lang/String", name := "isLatin1", desc := "()Z" } : Jvm.MethodName)) ∈ gtbl := gq 736 (by decide +kernel) rfl
set_option maxRecDepth 100000 in
theorem q737 : (Jvm.Cond.code ({ cls := "java/lang/String", name := "isLatin1", desc := "()Z" } : Jvm.MethodName) prog_18_method_154_code (1 : Nat) (Option.some Jvm.ClassFile.FieldType.boolean)) ∈ gtbl := gq 737 rfl rfl
theorem q738 : (Jvm.Cond.methodLink "java/lang/String" (495 : Nat) ({ cls := "java/lang/StringLatin1", name := "charAt", desc := "([BI)C" } : Jvm.MethodName)) ∈ gtbl := gq 738 (by decide +kernel) rfl
theorem q739 : (Jvm.Cond.static ({ cls := "java/lang/StringLatin1", name := "charAt", desc := "([BI)C" } : Jvm.MethodName)) ∈ gtbl := gq 739 (by decide +kernel) rfl
set_option maxRecDepth 100000 in
theorem q740 : (Jvm.Cond.code ({ cls := "java/lang/StringLatin1", name := "charAt", desc := "([BI)C" } : Jvm.MethodName) prog_19_method_2_code (2 : Nat) (Option.some Jvm.ClassFile.FieldType.char)) ∈ gtbl := gq 740 rfl rfl
theorem q741 : (Jvm.Cond.methodLink "java/lang/StringLatin1" (9 : Nat) ({ cls := "java/lang/String", name := "checkIndex", desc := "(II)V" } : Jvm.MethodName)) ∈ gtbl := gq 741 (by decide +kernel) rfl
theorem q742 : (Jvm.Cond.static ({ cls := "java/lang/String", name := "checkIndex", desc := "(II)V" } : Jvm.MethodName)) ∈ gtbl := gq 742 (by decide +kernel) rfl
set_option maxRecDepth 100000 in
theorem q743 : (Jvm.Cond.code ({ cls := "java/lang/String", name := "checkIndex", desc := "(II)V" } : Jvm.MethodName) prog_18_method_155_code (2 : Nat) (Option.none : Option Jvm.ClassFile.FieldType)) ∈ gtbl := gq 743 rfl rfl
theorem q744 : (Jvm.Cond.fieldLink "java/lang/String" (1053 : Nat) "jdk/internal/util/Preconditions" "SIOOBE_FORMATTER" "Ljava/util/function/BiFunction;") ∈ gtbl := gq 744 (by decide +kernel) rfl
theorem q746 : (Jvm.Cond.methodLink "java/lang/String" (1059 : Nat) ({ cls := "jdk/internal/util/Preconditions", name := "checkIndex", desc := "(IILjava/util/function/BiFunction;)I" } : Jvm.MethodName)) ∈ gtbl := gq 746 (by decide +kernel) rfl
theorem q747 : (Jvm.Cond.static ({ cls := "jdk/internal/util/Preconditions", name := "checkIndex", desc := "(IILjava/util/function/BiFunction;)I" } : Jvm.MethodName)) ∈ gtbl := gq 747 (by decide +kernel) rfl
set_option maxRecDepth 100000 in
theorem q748 : (Jvm.Cond.code ({ cls := "jdk/internal/util/Preconditions", name := "checkIndex", desc := "(IILjava/util/function/BiFunction;)I" } : Jvm.MethodName) prog_22_method_11_code (3 : Nat) (Option.some Jvm.ClassFile.FieldType.int)) ∈ gtbl := gq 748 rfl rfl
theorem q749 : (Jvm.Cond.methodLink "java/lang/String" (498 : Nat) ({ cls := "java/lang/StringUTF16", name := "charAt", desc := "([BI)C" } : Jvm.MethodName)) ∈ gtbl := gq 749 (by decide +kernel) rfl
theorem q750 : (Jvm.Cond.static ({ cls := "java/lang/StringUTF16", name := "charAt", desc := "([BI)C" } : Jvm.MethodName)) ∈ gtbl := gq 750 (by decide +kernel) rfl
set_option maxRecDepth 100000 in
theorem q751 : (Jvm.Cond.code ({ cls := "java/lang/StringUTF16", name := "charAt", desc := "([BI)C" } : Jvm.MethodName) prog_20_method_83_code (2 : Nat) (Option.some Jvm.ClassFile.FieldType.char)) ∈ gtbl := gq 751 rfl rfl
theorem q752 : (Jvm.Cond.methodLink "java/lang/StringUTF16" (67 : Nat) ({ cls := "java/lang/StringUTF16", name := "checkIndex", desc := "(I[B)V" } : Jvm.MethodName)) ∈ gtbl := gq 752 (by decide +kernel) rfl
theorem q753 : (Jvm.Cond.static ({ cls := "java/lang/StringUTF16", name := "checkIndex", desc := "(I[B)V" } : Jvm.MethodName)) ∈ gtbl := gq 753 (by decide +kernel) rfl
set_option maxRecDepth 100000 in
theorem q754 : (Jvm.Cond.code ({ cls := "java/lang/StringUTF16", name := "checkIndex", desc := "(I[B)V" } : Jvm.MethodName) prog_20_method_91_code (2 : Nat) (Option.none : Option Jvm.ClassFile.FieldType)) ∈ gtbl := gq 754 rfl rfl
theorem q755 : (Jvm.Cond.methodLink "java/lang/StringUTF16" (48 : Nat) ({ cls := "java/lang/StringUTF16", name := "length", desc := "([B)I" } : Jvm.MethodName)) ∈ gtbl := gq 755 (by decide +kernel) rfl
theorem q756 : (Jvm.Cond.static ({ cls := "java/lang/StringUTF16", name := "length", desc := "([B)I" } : Jvm.MethodName)) ∈ gtbl := gq 756 (by decide +kernel) rfl
set_option maxRecDepth 100000 in
theorem q757 : (Jvm.Cond.code ({ cls := "java/lang/StringUTF16", name := "length", desc := "([B)I" } : Jvm.MethodName) prog_20_method_6_code (1 : Nat) (Option.some Jvm.ClassFile.FieldType.int)) ∈ gtbl := gq 757 rfl rfl
theorem q758 : (Jvm.Cond.methodLink "java/lang/StringUTF16" (414 : Nat) ({ cls := "java/lang/String", name := "checkIndex", desc := "(II)V" } : Jvm.MethodName)) ∈ gtbl := gq 758 (by decide +kernel) rfl
theorem q759 : (Jvm.Cond.methodLink "java/lang/StringUTF16" (71 : Nat) ({ cls := "java/lang/StringUTF16", name := "getChar", desc := "([BI)C" } : Jvm.MethodName)) ∈ gtbl := gq 759 (by decide +kernel) rfl
theorem q760 : (Jvm.Cond.static ({ cls := "java/lang/StringUTF16", name := "getChar", desc := "([BI)C" } : Jvm.MethodName)) ∈ gtbl := gq 760 (by decide +kernel) rfl
set_option maxRecDepth 100000 in
theorem q761 : (Jvm.Cond.code ({ cls := "java/lang/StringUTF16", name := "getChar", desc := "([BI)C" } : Jvm.MethodName) prog_20_method_5_code (2 : Nat) (Option.some Jvm.ClassFile.FieldType.char)) ∈ gtbl := gq 761 rfl rfl
theorem q762 : (Jvm.Cond.fieldLink "java/lang/StringUTF16" (44 : Nat) "java/lang/StringUTF16" "$assertionsDisabled" "Z") ∈ gtbl := gq 762 (by decide +kernel) rfl
theorem q764 : (Jvm.Cond.fieldLink "java/lang/StringUTF16" (59 : Nat) "java/lang/StringUTF16" "HI_BYTE_SHIFT" "I") ∈ gtbl := gq 764 (by decide +kernel) rfl
theorem q766 : (Jvm.Cond.fieldLink "java/lang/StringUTF16" (63 : Nat) "java/lang/StringUTF16" "LO_BYTE_SHIFT" "I") ∈ gtbl := gq 766 (by decide +kernel) rfl
theorem q768 : (Jvm.Cond.methodLink "OwnRain$Tape" (48 : Nat) ({ cls := "OwnRain$Tape", name := "addToken", desc := "(II)V" } : Jvm.MethodName)) ∈ gtbl := gq 768 (by decide +kernel) rfl
theorem q770 : (Jvm.Cond.instanceMethod ({ cls := "OwnRain$Tape", name := "addToken", desc := "(II)V" } : Jvm.MethodName)) ∈ gtbl := gq 770 (by decide +kernel) rfl
set_option maxRecDepth 100000 in
theorem q771 : (Jvm.Cond.code ({ cls := "OwnRain$Tape", name := "addToken", desc := "(II)V" } : Jvm.MethodName) prog_8_method_4_code (3 : Nat) (Option.none : Option Jvm.ClassFile.FieldType)) ∈ gtbl := gq 771 rfl rfl
theorem q772 : (Jvm.Cond.methodLink "OwnRain$Tape" (39 : Nat) ({ cls := "OwnRain$Tape", name := "isDigit", desc := "(I)Z" } : Jvm.MethodName)) ∈ gtbl := gq 772 (by decide +kernel) rfl
theorem q773 : (Jvm.Cond.static ({ cls := "OwnRain$Tape", name := "isDigit", desc := "(I)Z" } : Jvm.MethodName)) ∈ gtbl := gq 773 (by decide +kernel) rfl
set_option maxRecDepth 100000 in
theorem q774 : (Jvm.Cond.code ({ cls := "OwnRain$Tape", name := "isDigit", desc := "(I)Z" } : Jvm.MethodName) prog_8_method_10_code (1 : Nat) (Option.some Jvm.ClassFile.FieldType.boolean)) ∈ gtbl := gq 774 rfl rfl
theorem q775 : (Jvm.Cond.methodLink "OwnRain$Tape" (42 : Nat) ({ cls := "OwnRain$Tape", name := "addNumber", desc := "(I)I" } : Jvm.MethodName)) ∈ gtbl := gq 775 (by decide +kernel) rfl
theorem q777 : (Jvm.Cond.instanceMethod ({ cls := "OwnRain$Tape", name := "addNumber", desc := "(I)I" } : Jvm.MethodName)) ∈ gtbl := gq 777 (by decide +kernel) rfl
set_option maxRecDepth 100000 in
theorem q778 : (Jvm.Cond.code ({ cls := "OwnRain$Tape", name := "addNumber", desc := "(I)I" } : Jvm.MethodName) prog_8_method_6_code (4 : Nat) (Option.some Jvm.ClassFile.FieldType.int)) ∈ gtbl := gq 778 rfl rfl
theorem q779 : (Jvm.Cond.methodLink "OwnRain$Tape" (56 : Nat) ({ cls := "java/lang/Math", name := "min", desc := "(II)I" } : Jvm.MethodName)) ∈ gtbl := gq 779 (by decide +kernel) rfl
theorem q780 : (Jvm.Cond.static ({ cls := "java/lang/Math", name := "min", desc := "(II)I" } : Jvm.MethodName)) ∈ gtbl := gq 780 (by decide +kernel) rfl
set_option maxRecDepth 100000 in
theorem q781 : (Jvm.Cond.code ({ cls := "java/lang/Math", name := "min", desc := "(II)I" } : Jvm.MethodName) prog_17_method_69_code (2 : Nat) (Option.some Jvm.ClassFile.FieldType.int)) ∈ gtbl := gq 781 rfl rfl
theorem q782 : (Jvm.Cond.methodLink "OwnRain$Tape" (45 : Nat) ({ cls := "OwnRain$Tape", name := "addSign", desc := "(I)I" } : Jvm.MethodName)) ∈ gtbl := gq 782 (by decide +kernel) rfl
theorem q784 : (Jvm.Cond.instanceMethod ({ cls := "OwnRain$Tape", name := "addSign", desc := "(I)I" } : Jvm.MethodName)) ∈ gtbl := gq 784 (by decide +kernel) rfl
set_option maxRecDepth 100000 in
theorem q785 : (Jvm.Cond.code ({ cls := "OwnRain$Tape", name := "addSign", desc := "(I)I" } : Jvm.MethodName) prog_8_method_7_code (5 : Nat) (Option.some Jvm.ClassFile.FieldType.int)) ∈ gtbl := gq 785 rfl rfl
theorem q787 : (Jvm.Cond.methodLink "OwnRain$Tape" (63 : Nat) ({ cls := "java/lang/String", name := "indexOf", desc := "(I)I" } : Jvm.MethodName)) ∈ gtbl := gq 787 (by decide +kernel) rfl
theorem q788 : (Jvm.Cond.instanceMethod ({ cls := "java/lang/String", name := "indexOf", desc := "(I)I" } : Jvm.MethodName)) ∈ gtbl := gq 788 (by decide +kernel) rfl
theorem q789 : (Jvm.Cond.selects "java/lang/String" ({ cls := "java/lang/String", name := "indexOf", desc := "(I)I" } : Jvm.MethodName) ({ cls := "java/lang/String", name := "indexOf", desc := "(I)I" } : Jvm.MethodName)) ∈ gtbl := gq 789 (by decide +kernel) rfl
set_option maxRecDepth 100000 in
theorem q790 : (Jvm.Cond.code ({ cls := "java/lang/String", name := "indexOf", desc := "(I)I" } : Jvm.MethodName) prog_18_method_79_code (2 : Nat) (Option.some Jvm.ClassFile.FieldType.int)) ∈ gtbl := gq 790 rfl rfl
theorem q791 : (Jvm.Cond.methodLink "java/lang/String" (633 : Nat) ({ cls := "java/lang/String", name := "indexOf", desc := "(II)I" } : Jvm.MethodName)) ∈ gtbl := gq 791 (by decide +kernel) rfl
theorem q792 : (Jvm.Cond.instanceMethod ({ cls := "java/lang/String", name := "indexOf", desc := "(II)I" } : Jvm.MethodName)) ∈ gtbl := gq 792 (by decide +kernel) rfl
theorem q793 : (Jvm.Cond.selects "java/lang/String" ({ cls := "java/lang/String", name := "indexOf", desc := "(II)I" } : Jvm.MethodName) ({ cls := "java/lang/String", name := "indexOf", desc := "(II)I" } : Jvm.MethodName)) ∈ gtbl := gq 793 (by decide +kernel) rfl
set_option maxRecDepth 100000 in
theorem q794 : (Jvm.Cond.code ({ cls := "java/lang/String", name := "indexOf", desc := "(II)I" } : Jvm.MethodName) prog_18_method_80_code (3 : Nat) (Option.some Jvm.ClassFile.FieldType.int)) ∈ gtbl := gq 794 rfl rfl
theorem q795 : (Jvm.Cond.methodLink "java/lang/String" (505 : Nat) ({ cls := "java/lang/String", name := "length", desc := "()I" } : Jvm.MethodName)) ∈ gtbl := gq 795 (by decide +kernel) rfl
theorem q796 : (Jvm.Cond.methodLink "java/lang/String" (637 : Nat) ({ cls := "java/lang/StringLatin1", name := "indexOf", desc := "([BIII)I" } : Jvm.MethodName)) ∈ gtbl := gq 796 (by decide +kernel) rfl
theorem q797 : (Jvm.Cond.static ({ cls := "java/lang/StringLatin1", name := "indexOf", desc := "([BIII)I" } : Jvm.MethodName)) ∈ gtbl := gq 797 (by decide +kernel) rfl
set_option maxRecDepth 100000 in
theorem q798 : (Jvm.Cond.code ({ cls := "java/lang/StringLatin1", name := "indexOf", desc := "([BIII)I" } : Jvm.MethodName) prog_19_method_22_code (4 : Nat) (Option.some Jvm.ClassFile.FieldType.int)) ∈ gtbl := gq 798 rfl rfl
theorem q799 : (Jvm.Cond.methodLink "java/lang/StringLatin1" (88 : Nat) ({ cls := "java/lang/StringLatin1", name := "canEncode", desc := "(I)Z" } : Jvm.MethodName)) ∈ gtbl := gq 799 (by decide +kernel) rfl
theorem q800 : (Jvm.Cond.static ({ cls := "java/lang/StringLatin1", name := "canEncode", desc := "(I)Z" } : Jvm.MethodName)) ∈ gtbl := gq 800 (by decide +kernel) rfl
set_option maxRecDepth 100000 in
theorem q801 : (Jvm.Cond.code ({ cls := "java/lang/StringLatin1", name := "canEncode", desc := "(I)Z" } : Jvm.MethodName) prog_19_method_4_code (1 : Nat) (Option.some Jvm.ClassFile.FieldType.boolean)) ∈ gtbl := gq 801 rfl rfl
theorem q802 : (Jvm.Cond.methodLink "java/lang/StringLatin1" (92 : Nat) ({ cls := "java/lang/Math", name := "max", desc := "(II)I" } : Jvm.MethodName)) ∈ gtbl := gq 802 (by decide +kernel) rfl
theorem q803 : (Jvm.Cond.static ({ cls := "java/lang/Math", name := "max", desc := "(II)I" } : Jvm.MethodName)) ∈ gtbl := gq 803 (by decide +kernel) rfl
set_option maxRecDepth 100000 in
theorem q804 : (Jvm.Cond.code ({ cls := "java/lang/Math", name := "max", desc := "(II)I" } : Jvm.MethodName) prog_17_method_65_code (2 : Nat) (Option.some Jvm.ClassFile.FieldType.int)) ∈ gtbl := gq 804 rfl rfl
theorem q805 : (Jvm.Cond.methodLink "java/lang/StringLatin1" (38 : Nat) ({ cls := "java/lang/Math", name := "min", desc := "(II)I" } : Jvm.MethodName)) ∈ gtbl := gq 805 (by decide +kernel) rfl
theorem q806 : (Jvm.Cond.methodLink "java/lang/StringLatin1" (95 : Nat) ({ cls := "java/lang/StringLatin1", name := "indexOfChar", desc := "([BIII)I" } : Jvm.MethodName)) ∈ gtbl := gq 806 (by decide +kernel) rfl
theorem q807 : (Jvm.Cond.static ({ cls := "java/lang/StringLatin1", name := "indexOfChar", desc := "([BIII)I" } : Jvm.MethodName)) ∈ gtbl := gq 807 (by decide +kernel) rfl
set_option maxRecDepth 100000 in
theorem q808 : (Jvm.Cond.code ({ cls := "java/lang/StringLatin1", name := "indexOfChar", desc := "([BIII)I" } : Jvm.MethodName) prog_19_method_23_code (6 : Nat) (Option.some Jvm.ClassFile.FieldType.int)) ∈ gtbl := gq 808 rfl rfl
theorem q809 : (Jvm.Cond.methodLink "java/lang/String" (640 : Nat) ({ cls := "java/lang/StringUTF16", name := "indexOf", desc := "([BIII)I" } : Jvm.MethodName)) ∈ gtbl := gq 809 (by decide +kernel) rfl
theorem q810 : (Jvm.Cond.static ({ cls := "java/lang/StringUTF16", name := "indexOf", desc := "([BIII)I" } : Jvm.MethodName)) ∈ gtbl := gq 810 (by decide +kernel) rfl
set_option maxRecDepth 100000 in
theorem q811 : (Jvm.Cond.code ({ cls := "java/lang/StringUTF16", name := "indexOf", desc := "([BIII)I" } : Jvm.MethodName) prog_20_method_40_code (4 : Nat) (Option.some Jvm.ClassFile.FieldType.int)) ∈ gtbl := gq 811 rfl rfl
theorem q812 : (Jvm.Cond.methodLink "java/lang/StringUTF16" (224 : Nat) ({ cls := "java/lang/Math", name := "max", desc := "(II)I" } : Jvm.MethodName)) ∈ gtbl := gq 812 (by decide +kernel) rfl
theorem q813 : (Jvm.Cond.methodLink "java/lang/StringUTF16" (183 : Nat) ({ cls := "java/lang/Math", name := "min", desc := "(II)I" } : Jvm.MethodName)) ∈ gtbl := gq 813 (by decide +kernel) rfl
theorem q814 : (Jvm.Cond.constant "java/lang/StringUTF16" (227 : Nat) (65536 : Int32)) ∈ gtbl := gq 814 (by decide +kernel) rfl
theorem q815 : (Jvm.Cond.methodLink "java/lang/StringUTF16" (228 : Nat) ({ cls := "java/lang/StringUTF16", name := "indexOfChar", desc := "([BIII)I" } : Jvm.MethodName)) ∈ gtbl := gq 815 (by decide +kernel) rfl
theorem q816 : (Jvm.Cond.static ({ cls := "java/lang/StringUTF16", name := "indexOfChar", desc := "([BIII)I" } : Jvm.MethodName)) ∈ gtbl := gq 816 (by decide +kernel) rfl
set_option maxRecDepth 100000 in
theorem q817 : (Jvm.Cond.code ({ cls := "java/lang/StringUTF16", name := "indexOfChar", desc := "([BIII)I" } : Jvm.MethodName) prog_20_method_47_code (4 : Nat) (Option.some Jvm.ClassFile.FieldType.int)) ∈ gtbl := gq 817 rfl rfl
theorem q818 : (Jvm.Cond.methodLink "java/lang/StringUTF16" (96 : Nat) ({ cls := "java/lang/StringUTF16", name := "checkBoundsBeginEnd", desc := "(II[B)V" } : Jvm.MethodName)) ∈ gtbl := gq 818 (by decide +kernel) rfl
theorem q819 : (Jvm.Cond.static ({ cls := "java/lang/StringUTF16", name := "checkBoundsBeginEnd", desc := "(II[B)V" } : Jvm.MethodName)) ∈ gtbl := gq 819 (by decide +kernel) rfl
set_option maxRecDepth 100000 in
theorem q820 : (Jvm.Cond.code ({ cls := "java/lang/StringUTF16", name := "checkBoundsBeginEnd", desc := "(II[B)V" } : Jvm.MethodName) prog_20_method_93_code (3 : Nat) (Option.none : Option Jvm.ClassFile.FieldType)) ∈ gtbl := gq 820 rfl rfl
theorem q821 : (Jvm.Cond.methodLink "java/lang/StringUTF16" (241 : Nat) ({ cls := "java/lang/String", name := "checkBoundsBeginEnd", desc := "(III)V" } : Jvm.MethodName)) ∈ gtbl := gq 821 (by decide +kernel) rfl
theorem q822 : (Jvm.Cond.static ({ cls := "java/lang/String", name := "checkBoundsBeginEnd", desc := "(III)V" } : Jvm.MethodName)) ∈ gtbl := gq 822 (by decide +kernel) rfl
set_option maxRecDepth 100000 in
theorem q823 : (Jvm.Cond.code ({ cls := "java/lang/String", name := "checkBoundsBeginEnd", desc := "(III)V" } : Jvm.MethodName) prog_18_method_158_code (3 : Nat) (Option.none : Option Jvm.ClassFile.FieldType)) ∈ gtbl := gq 823 rfl rfl
theorem q824 : (Jvm.Cond.methodLink "java/lang/String" (1062 : Nat) ({ cls := "jdk/internal/util/Preconditions", name := "checkFromToIndex", desc := "(IIILjava/util/function/BiFunction;)I" } : Jvm.MethodName)) ∈ gtbl := gq 824 (by decide +kernel) rfl
theorem q825 : (Jvm.Cond.static ({ cls := "jdk/internal/util/Preconditions", name := "checkFromToIndex", desc := "(IIILjava/util/function/BiFunction;)I" } : Jvm.MethodName)) ∈ gtbl := gq 825 (by decide +kernel) rfl
set_option maxRecDepth 100000 in
theorem q826 : (Jvm.Cond.code ({ cls := "jdk/internal/util/Preconditions", name := "checkFromToIndex", desc := "(IIILjava/util/function/BiFunction;)I" } : Jvm.MethodName) prog_22_method_12_code (4 : Nat) (Option.some Jvm.ClassFile.FieldType.int)) ∈ gtbl := gq 826 rfl rfl
theorem q827 : (Jvm.Cond.methodLink "java/lang/StringUTF16" (244 : Nat) ({ cls := "java/lang/StringUTF16", name := "indexOfCharUnsafe", desc := "([BIII)I" } : Jvm.MethodName)) ∈ gtbl := gq 827 (by decide +kernel) rfl
theorem q828 : (Jvm.Cond.static ({ cls := "java/lang/StringUTF16", name := "indexOfCharUnsafe", desc := "([BIII)I" } : Jvm.MethodName)) ∈ gtbl := gq 828 (by decide +kernel) rfl
set_option maxRecDepth 100000 in
theorem q829 : (Jvm.Cond.code ({ cls := "java/lang/StringUTF16", name := "indexOfCharUnsafe", desc := "([BIII)I" } : Jvm.MethodName) prog_20_method_48_code (5 : Nat) (Option.some Jvm.ClassFile.FieldType.int)) ∈ gtbl := gq 829 rfl rfl
theorem q830 : (Jvm.Cond.methodLink "java/lang/StringUTF16" (232 : Nat) ({ cls := "java/lang/StringUTF16", name := "indexOfSupplementary", desc := "([BIII)I" } : Jvm.MethodName)) ∈ gtbl := gq 830 (by decide +kernel) rfl
theorem q831 : (Jvm.Cond.static ({ cls := "java/lang/StringUTF16", name := "indexOfSupplementary", desc := "([BIII)I" } : Jvm.MethodName)) ∈ gtbl := gq 831 (by decide +kernel) rfl
set_option maxRecDepth 100000 in
theorem q832 : (Jvm.Cond.code ({ cls := "java/lang/StringUTF16", name := "indexOfSupplementary", desc := "([BIII)I" } : Jvm.MethodName) prog_20_method_49_code (7 : Nat) (Option.some Jvm.ClassFile.FieldType.int)) ∈ gtbl := gq 832 rfl rfl
theorem q833 : (Jvm.Cond.methodLink "java/lang/StringUTF16" (164 : Nat) ({ cls := "java/lang/Character", name := "isValidCodePoint", desc := "(I)Z" } : Jvm.MethodName)) ∈ gtbl := gq 833 (by decide +kernel) rfl
theorem q834 : (Jvm.Cond.static ({ cls := "java/lang/Character", name := "isValidCodePoint", desc := "(I)Z" } : Jvm.MethodName)) ∈ gtbl := gq 834 (by decide +kernel) rfl
set_option maxRecDepth 100000 in
theorem q835 : (Jvm.Cond.code ({ cls := "java/lang/Character", name := "isValidCodePoint", desc := "(I)Z" } : Jvm.MethodName) prog_15_method_11_code (2 : Nat) (Option.some Jvm.ClassFile.FieldType.boolean)) ∈ gtbl := gq 835 rfl rfl
theorem q836 : (Jvm.Cond.methodLink "java/lang/StringUTF16" (157 : Nat) ({ cls := "java/lang/Character", name := "highSurrogate", desc := "(I)C" } : Jvm.MethodName)) ∈ gtbl := gq 836 (by decide +kernel) rfl
theorem q837 : (Jvm.Cond.static ({ cls := "java/lang/Character", name := "highSurrogate", desc := "(I)C" } : Jvm.MethodName)) ∈ gtbl := gq 837 (by decide +kernel) rfl
set_option maxRecDepth 100000 in
theorem q838 : (Jvm.Cond.code ({ cls := "java/lang/Character", name := "highSurrogate", desc := "(I)C" } : Jvm.MethodName) prog_15_method_28_code (1 : Nat) (Option.some Jvm.ClassFile.FieldType.char)) ∈ gtbl := gq 838 rfl rfl
theorem q839 : (Jvm.Cond.constant "java/lang/Character" (110 : Nat) (55232 : Int32)) ∈ gtbl := gq 839 (by decide +kernel) rfl
theorem q840 : (Jvm.Cond.methodLink "java/lang/StringUTF16" (161 : Nat) ({ cls := "java/lang/Character", name := "lowSurrogate", desc := "(I)C" } : Jvm.MethodName)) ∈ gtbl := gq 840 (by decide +kernel) rfl
theorem q841 : (Jvm.Cond.static ({ cls := "java/lang/Character", name := "lowSurrogate", desc := "(I)C" } : Jvm.MethodName)) ∈ gtbl := gq 841 (by decide +kernel) rfl
set_option maxRecDepth 100000 in
theorem q842 : (Jvm.Cond.code ({ cls := "java/lang/Character", name := "lowSurrogate", desc := "(I)C" } : Jvm.MethodName) prog_15_method_29_code (1 : Nat) (Option.some Jvm.ClassFile.FieldType.char)) ∈ gtbl := gq 842 rfl rfl
theorem q843 : (Jvm.Cond.constant "java/lang/Character" (76 : Nat) (56320 : Int32)) ∈ gtbl := gq 843 (by decide +kernel) rfl
theorem q844 : (Jvm.Cond.methodLink "OwnRain$Reader" (43 : Nat) ({ cls := "OwnRain$Reader", name := "readClause", desc := "(I)V" } : Jvm.MethodName)) ∈ gtbl := gq 844 (by decide +kernel) rfl
theorem q846 : (Jvm.Cond.instanceMethod ({ cls := "OwnRain$Reader", name := "readClause", desc := "(I)V" } : Jvm.MethodName)) ∈ gtbl := gq 846 (by decide +kernel) rfl
set_option maxRecDepth 100000 in
theorem q847 : (Jvm.Cond.code ({ cls := "OwnRain$Reader", name := "readClause", desc := "(I)V" } : Jvm.MethodName) prog_5_method_5_code (3 : Nat) (Option.none : Option Jvm.ClassFile.FieldType)) ∈ gtbl := gq 847 rfl rfl
theorem q848 : (Jvm.Cond.methodLink "OwnRain$Reader" (55 : Nat) ({ cls := "OwnRain$Reader", name := "fail", desc := "(I)V" } : Jvm.MethodName)) ∈ gtbl := gq 848 (by decide +kernel) rfl
theorem q850 : (Jvm.Cond.instanceMethod ({ cls := "OwnRain$Reader", name := "fail", desc := "(I)V" } : Jvm.MethodName)) ∈ gtbl := gq 850 (by decide +kernel) rfl
set_option maxRecDepth 100000 in
theorem q851 : (Jvm.Cond.code ({ cls := "OwnRain$Reader", name := "fail", desc := "(I)V" } : Jvm.MethodName) prog_5_method_4_code (2 : Nat) (Option.none : Option Jvm.ClassFile.FieldType)) ∈ gtbl := gq 851 rfl rfl
theorem q852 : (Jvm.Cond.methodLink "OwnRain$Reader" (58 : Nat) ({ cls := "OwnRain$Text", name := "hasLaw", desc := "(I)Z" } : Jvm.MethodName)) ∈ gtbl := gq 852 (by decide +kernel) rfl
theorem q853 : (Jvm.Cond.instanceMethod ({ cls := "OwnRain$Text", name := "hasLaw", desc := "(I)Z" } : Jvm.MethodName)) ∈ gtbl := gq 853 (by decide +kernel) rfl
theorem q854 : (Jvm.Cond.selects "OwnRain$Text" ({ cls := "OwnRain$Text", name := "hasLaw", desc := "(I)Z" } : Jvm.MethodName) ({ cls := "OwnRain$Text", name := "hasLaw", desc := "(I)Z" } : Jvm.MethodName)) ∈ gtbl := gq 854 (by decide +kernel) rfl
set_option maxRecDepth 100000 in
theorem q855 : (Jvm.Cond.code ({ cls := "OwnRain$Text", name := "hasLaw", desc := "(I)Z" } : Jvm.MethodName) prog_9_method_2_code (2 : Nat) (Option.some Jvm.ClassFile.FieldType.boolean)) ∈ gtbl := gq 855 rfl rfl
theorem q856 : (Jvm.Cond.methodLink "OwnRain$Reader" (68 : Nat) ({ cls := "OwnRain$Reader", name := "advance", desc := "()V" } : Jvm.MethodName)) ∈ gtbl := gq 856 (by decide +kernel) rfl
theorem q858 : (Jvm.Cond.instanceMethod ({ cls := "OwnRain$Reader", name := "advance", desc := "()V" } : Jvm.MethodName)) ∈ gtbl := gq 858 (by decide +kernel) rfl
set_option maxRecDepth 100000 in
theorem q859 : (Jvm.Cond.code ({ cls := "OwnRain$Reader", name := "advance", desc := "()V" } : Jvm.MethodName) prog_5_method_3_code (1 : Nat) (Option.none : Option Jvm.ClassFile.FieldType)) ∈ gtbl := gq 859 rfl rfl
theorem q860 : (Jvm.Cond.methodLink "OwnRain$Reader" (71 : Nat) ({ cls := "OwnRain$Reader", name := "readLaw", desc := "(I)V" } : Jvm.MethodName)) ∈ gtbl := gq 860 (by decide +kernel) rfl
theorem q862 : (Jvm.Cond.instanceMethod ({ cls := "OwnRain$Reader", name := "readLaw", desc := "(I)V" } : Jvm.MethodName)) ∈ gtbl := gq 862 (by decide +kernel) rfl
set_option maxRecDepth 100000 in
theorem q863 : (Jvm.Cond.code ({ cls := "OwnRain$Reader", name := "readLaw", desc := "(I)V" } : Jvm.MethodName) prog_5_method_6_code (2 : Nat) (Option.none : Option Jvm.ClassFile.FieldType)) ∈ gtbl := gq 863 rfl rfl
theorem q864 : (Jvm.Cond.methodLink "OwnRain$Reader" (96 : Nat) ({ cls := "OwnRain$Reader", name := "readSum", desc := "(IZ)V" } : Jvm.MethodName)) ∈ gtbl := gq 864 (by decide +kernel) rfl
theorem q866 : (Jvm.Cond.instanceMethod ({ cls := "OwnRain$Reader", name := "readSum", desc := "(IZ)V" } : Jvm.MethodName)) ∈ gtbl := gq 866 (by decide +kernel) rfl
set_option maxRecDepth 100000 in
theorem q867 : (Jvm.Cond.code ({ cls := "OwnRain$Reader", name := "readSum", desc := "(IZ)V" } : Jvm.MethodName) prog_5_method_13_code (5 : Nat) (Option.none : Option Jvm.ClassFile.FieldType)) ∈ gtbl := gq 867 rfl rfl
theorem q868 : (Jvm.Cond.methodLink "OwnRain$Reader" (134 : Nat) ({ cls := "OwnRain$Reader", name := "readProduct", desc := "(IZ)V" } : Jvm.MethodName)) ∈ gtbl := gq 868 (by decide +kernel) rfl
theorem q870 : (Jvm.Cond.instanceMethod ({ cls := "OwnRain$Reader", name := "readProduct", desc := "(IZ)V" } : Jvm.MethodName)) ∈ gtbl := gq 870 (by decide +kernel) rfl
set_option maxRecDepth 100000 in
theorem q871 : (Jvm.Cond.code ({ cls := "OwnRain$Reader", name := "readProduct", desc := "(IZ)V" } : Jvm.MethodName) prog_5_method_14_code (5 : Nat) (Option.none : Option Jvm.ClassFile.FieldType)) ∈ gtbl := gq 871 rfl rfl
theorem q872 : (Jvm.Cond.methodLink "OwnRain$Reader" (137 : Nat) ({ cls := "OwnRain$Reader", name := "readOne", desc := "(IZ)V" } : Jvm.MethodName)) ∈ gtbl := gq 872 (by decide +kernel) rfl
theorem q874 : (Jvm.Cond.instanceMethod ({ cls := "OwnRain$Reader", name := "readOne", desc := "(IZ)V" } : Jvm.MethodName)) ∈ gtbl := gq 874 (by decide +kernel) rfl
set_option maxRecDepth 100000 in
theorem q875 : (Jvm.Cond.code ({ cls := "OwnRain$Reader", name := "readOne", desc := "(IZ)V" } : Jvm.MethodName) prog_5_method_15_code (3 : Nat) (Option.none : Option Jvm.ClassFile.FieldType)) ∈ gtbl := gq 875 rfl rfl
theorem q876 : (Jvm.Cond.methodLink "OwnRain$Reader" (125 : Nat) ({ cls := "OwnRain$Text", name := "write", desc := "(II)V" } : Jvm.MethodName)) ∈ gtbl := gq 876 (by decide +kernel) rfl
theorem q877 : (Jvm.Cond.instanceMethod ({ cls := "OwnRain$Text", name := "write", desc := "(II)V" } : Jvm.MethodName)) ∈ gtbl := gq 877 (by decide +kernel) rfl
theorem q878 : (Jvm.Cond.selects "OwnRain$Text" ({ cls := "OwnRain$Text", name := "write", desc := "(II)V" } : Jvm.MethodName) ({ cls := "OwnRain$Text", name := "write", desc := "(II)V" } : Jvm.MethodName)) ∈ gtbl := gq 878 (by decide +kernel) rfl
set_option maxRecDepth 100000 in
theorem q879 : (Jvm.Cond.code ({ cls := "OwnRain$Text", name := "write", desc := "(II)V" } : Jvm.MethodName) prog_9_method_3_code (3 : Nat) (Option.none : Option Jvm.ClassFile.FieldType)) ∈ gtbl := gq 879 rfl rfl
theorem q880 : (Jvm.Cond.methodLink "OwnRain$Reader" (115 : Nat) ({ cls := "OwnRain$Reader", name := "expectNumber", desc := "(II)V" } : Jvm.MethodName)) ∈ gtbl := gq 880 (by decide +kernel) rfl
theorem q882 : (Jvm.Cond.instanceMethod ({ cls := "OwnRain$Reader", name := "expectNumber", desc := "(II)V" } : Jvm.MethodName)) ∈ gtbl := gq 882 (by decide +kernel) rfl
set_option maxRecDepth 100000 in
theorem q883 : (Jvm.Cond.code ({ cls := "OwnRain$Reader", name := "expectNumber", desc := "(II)V" } : Jvm.MethodName) prog_5_method_9_code (3 : Nat) (Option.none : Option Jvm.ClassFile.FieldType)) ∈ gtbl := gq 883 rfl rfl
theorem q885 : (Jvm.Cond.methodLink "OwnRain$Reader" (140 : Nat) ({ cls := "OwnRain$Reader", name := "isName", desc := "(I)Z" } : Jvm.MethodName)) ∈ gtbl := gq 885 (by decide +kernel) rfl
theorem q886 : (Jvm.Cond.static ({ cls := "OwnRain$Reader", name := "isName", desc := "(I)Z" } : Jvm.MethodName)) ∈ gtbl := gq 886 (by decide +kernel) rfl
set_option maxRecDepth 100000 in
theorem q887 : (Jvm.Cond.code ({ cls := "OwnRain$Reader", name := "isName", desc := "(I)Z" } : Jvm.MethodName) prog_5_method_19_code (1 : Nat) (Option.some Jvm.ClassFile.FieldType.boolean)) ∈ gtbl := gq 887 rfl rfl
theorem q888 : (Jvm.Cond.methodLink "OwnRain$Reader" (159 : Nat) ({ cls := "OwnRain$Reader", name := "isOwnName", desc := "(I)Z" } : Jvm.MethodName)) ∈ gtbl := gq 888 (by decide +kernel) rfl
theorem q889 : (Jvm.Cond.static ({ cls := "OwnRain$Reader", name := "isOwnName", desc := "(I)Z" } : Jvm.MethodName)) ∈ gtbl := gq 889 (by decide +kernel) rfl
set_option maxRecDepth 100000 in
theorem q890 : (Jvm.Cond.code ({ cls := "OwnRain$Reader", name := "isOwnName", desc := "(I)Z" } : Jvm.MethodName) prog_5_method_20_code (1 : Nat) (Option.some Jvm.ClassFile.FieldType.boolean)) ∈ gtbl := gq 890 rfl rfl
theorem q891 : (Jvm.Cond.methodLink "OwnRain$Reader" (143 : Nat) ({ cls := "OwnRain$Reader", name := "readName", desc := "(Z)V" } : Jvm.MethodName)) ∈ gtbl := gq 891 (by decide +kernel) rfl
theorem q893 : (Jvm.Cond.instanceMethod ({ cls := "OwnRain$Reader", name := "readName", desc := "(Z)V" } : Jvm.MethodName)) ∈ gtbl := gq 893 (by decide +kernel) rfl
set_option maxRecDepth 100000 in
theorem q894 : (Jvm.Cond.code ({ cls := "OwnRain$Reader", name := "readName", desc := "(Z)V" } : Jvm.MethodName) prog_5_method_17_code (3 : Nat) (Option.none : Option Jvm.ClassFile.FieldType)) ∈ gtbl := gq 894 rfl rfl
theorem q895 : (Jvm.Cond.methodLink "OwnRain$Reader" (131 : Nat) ({ cls := "OwnRain$Reader", name := "opens", desc := "(I)Z" } : Jvm.MethodName)) ∈ gtbl := gq 895 (by decide +kernel) rfl
theorem q897 : (Jvm.Cond.instanceMethod ({ cls := "OwnRain$Reader", name := "opens", desc := "(I)Z" } : Jvm.MethodName)) ∈ gtbl := gq 897 (by decide +kernel) rfl
set_option maxRecDepth 100000 in
theorem q898 : (Jvm.Cond.code ({ cls := "OwnRain$Reader", name := "opens", desc := "(I)Z" } : Jvm.MethodName) prog_5_method_18_code (2 : Nat) (Option.some Jvm.ClassFile.FieldType.boolean)) ∈ gtbl := gq 898 rfl rfl
theorem q899 : (Jvm.Cond.methodLink "OwnRain$Reader" (78 : Nat) ({ cls := "OwnRain$Reader", name := "expect", desc := "(I)V" } : Jvm.MethodName)) ∈ gtbl := gq 899 (by decide +kernel) rfl
theorem q901 : (Jvm.Cond.instanceMethod ({ cls := "OwnRain$Reader", name := "expect", desc := "(I)V" } : Jvm.MethodName)) ∈ gtbl := gq 901 (by decide +kernel) rfl
set_option maxRecDepth 100000 in
theorem q902 : (Jvm.Cond.code ({ cls := "OwnRain$Reader", name := "expect", desc := "(I)V" } : Jvm.MethodName) prog_5_method_8_code (2 : Nat) (Option.none : Option Jvm.ClassFile.FieldType)) ∈ gtbl := gq 902 rfl rfl
theorem q903 : (Jvm.Cond.methodLink "OwnRain$Reader" (147 : Nat) ({ cls := "OwnRain$Reader", name := "readGroup", desc := "(I)V" } : Jvm.MethodName)) ∈ gtbl := gq 903 (by decide +kernel) rfl
theorem q905 : (Jvm.Cond.instanceMethod ({ cls := "OwnRain$Reader", name := "readGroup", desc := "(I)V" } : Jvm.MethodName)) ∈ gtbl := gq 905 (by decide +kernel) rfl
set_option maxRecDepth 100000 in
theorem q906 : (Jvm.Cond.code ({ cls := "OwnRain$Reader", name := "readGroup", desc := "(I)V" } : Jvm.MethodName) prog_5_method_16_code (4 : Nat) (Option.none : Option Jvm.ClassFile.FieldType)) ∈ gtbl := gq 906 rfl rfl
theorem q907 : (Jvm.Cond.methodLink "OwnRain$Reader" (153 : Nat) ({ cls := "OwnRain$Reader", name := "readEither", desc := "(I)V" } : Jvm.MethodName)) ∈ gtbl := gq 907 (by decide +kernel) rfl
theorem q909 : (Jvm.Cond.instanceMethod ({ cls := "OwnRain$Reader", name := "readEither", desc := "(I)V" } : Jvm.MethodName)) ∈ gtbl := gq 909 (by decide +kernel) rfl
set_option maxRecDepth 100000 in
theorem q910 : (Jvm.Cond.code ({ cls := "OwnRain$Reader", name := "readEither", desc := "(I)V" } : Jvm.MethodName) prog_5_method_10_code (3 : Nat) (Option.none : Option Jvm.ClassFile.FieldType)) ∈ gtbl := gq 910 rfl rfl
theorem q911 : (Jvm.Cond.methodLink "OwnRain$Reader" (122 : Nat) ({ cls := "OwnRain$Reader", name := "readBoth", desc := "(I)V" } : Jvm.MethodName)) ∈ gtbl := gq 911 (by decide +kernel) rfl
theorem q913 : (Jvm.Cond.instanceMethod ({ cls := "OwnRain$Reader", name := "readBoth", desc := "(I)V" } : Jvm.MethodName)) ∈ gtbl := gq 913 (by decide +kernel) rfl
set_option maxRecDepth 100000 in
theorem q914 : (Jvm.Cond.code ({ cls := "OwnRain$Reader", name := "readBoth", desc := "(I)V" } : Jvm.MethodName) prog_5_method_11_code (3 : Nat) (Option.none : Option Jvm.ClassFile.FieldType)) ∈ gtbl := gq 914 rfl rfl
theorem q915 : (Jvm.Cond.methodLink "OwnRain$Reader" (128 : Nat) ({ cls := "OwnRain$Reader", name := "readAsk", desc := "(I)V" } : Jvm.MethodName)) ∈ gtbl := gq 915 (by decide +kernel) rfl
theorem q917 : (Jvm.Cond.instanceMethod ({ cls := "OwnRain$Reader", name := "readAsk", desc := "(I)V" } : Jvm.MethodName)) ∈ gtbl := gq 917 (by decide +kernel) rfl
set_option maxRecDepth 100000 in
theorem q918 : (Jvm.Cond.code ({ cls := "OwnRain$Reader", name := "readAsk", desc := "(I)V" } : Jvm.MethodName) prog_5_method_12_code (3 : Nat) (Option.none : Option Jvm.ClassFile.FieldType)) ∈ gtbl := gq 918 rfl rfl
theorem q919 : (Jvm.Cond.methodLink "OwnRain$Reader" (74 : Nat) ({ cls := "OwnRain$Reader", name := "readParts", desc := "(II)V" } : Jvm.MethodName)) ∈ gtbl := gq 919 (by decide +kernel) rfl
theorem q921 : (Jvm.Cond.instanceMethod ({ cls := "OwnRain$Reader", name := "readParts", desc := "(II)V" } : Jvm.MethodName)) ∈ gtbl := gq 921 (by decide +kernel) rfl
set_option maxRecDepth 100000 in
theorem q922 : (Jvm.Cond.code ({ cls := "OwnRain$Reader", name := "readParts", desc := "(II)V" } : Jvm.MethodName) prog_5_method_7_code (5 : Nat) (Option.none : Option Jvm.ClassFile.FieldType)) ∈ gtbl := gq 922 rfl rfl
theorem q925 : (Jvm.Cond.methodLink "OwnRain" (121 : Nat) ({ cls := "OwnRain$State", name := "addText", desc := "(LOwnRain$Text;)I" } : Jvm.MethodName)) ∈ gtbl := gq 925 (by decide +kernel) rfl
theorem q926 : (Jvm.Cond.instanceMethod ({ cls := "OwnRain$State", name := "addText", desc := "(LOwnRain$Text;)I" } : Jvm.MethodName)) ∈ gtbl := gq 926 (by decide +kernel) rfl
theorem q927 : (Jvm.Cond.selects "OwnRain$State" ({ cls := "OwnRain$State", name := "addText", desc := "(LOwnRain$Text;)I" } : Jvm.MethodName) ({ cls := "OwnRain$State", name := "addText", desc := "(LOwnRain$Text;)I" } : Jvm.MethodName)) ∈ gtbl := gq 927 (by decide +kernel) rfl
set_option maxRecDepth 100000 in
theorem q928 : (Jvm.Cond.code ({ cls := "OwnRain$State", name := "addText", desc := "(LOwnRain$Text;)I" } : Jvm.MethodName) prog_6_method_3_code (2 : Nat) (Option.some Jvm.ClassFile.FieldType.int)) ∈ gtbl := gq 928 rfl rfl
theorem q929 : (Jvm.Cond.arrayClass Jvm.ClassFile.FieldType.byte) ∈ gtbl := gq 929 (by decide +kernel) rfl
theorem q930 : (Jvm.Cond.methodLink "OwnRainLaw" (43 : Nat) ({ cls := "OwnRain", name := "fault", desc := "(I)I" } : Jvm.MethodName)) ∈ gtbl := gq 930 (by decide +kernel) rfl
theorem q931 : (Jvm.Cond.instanceMethod ({ cls := "OwnRain", name := "fault", desc := "(I)I" } : Jvm.MethodName)) ∈ gtbl := gq 931 (by decide +kernel) rfl
theorem q932 : (Jvm.Cond.selects "OwnRain" ({ cls := "OwnRain", name := "fault", desc := "(I)I" } : Jvm.MethodName) ({ cls := "OwnRain", name := "fault", desc := "(I)I" } : Jvm.MethodName)) ∈ gtbl := gq 932 (by decide +kernel) rfl
set_option maxRecDepth 100000 in
theorem q933 : (Jvm.Cond.code ({ cls := "OwnRain", name := "fault", desc := "(I)I" } : Jvm.MethodName) prog_1_method_8_code (2 : Nat) (Option.some Jvm.ClassFile.FieldType.int)) ∈ gtbl := gq 933 rfl rfl
theorem q934 : (Jvm.Cond.methodLink "OwnRainLaw" (47 : Nat) ({ cls := "OwnRain", name := "by", desc := "(I)Z" } : Jvm.MethodName)) ∈ gtbl := gq 934 (by decide +kernel) rfl
theorem q935 : (Jvm.Cond.instanceMethod ({ cls := "OwnRain", name := "by", desc := "(I)Z" } : Jvm.MethodName)) ∈ gtbl := gq 935 (by decide +kernel) rfl
theorem q936 : (Jvm.Cond.selects "OwnRain" ({ cls := "OwnRain", name := "by", desc := "(I)Z" } : Jvm.MethodName) ({ cls := "OwnRain", name := "by", desc := "(I)Z" } : Jvm.MethodName)) ∈ gtbl := gq 936 (by decide +kernel) rfl
set_option maxRecDepth 100000 in
theorem q937 : (Jvm.Cond.code ({ cls := "OwnRain", name := "by", desc := "(I)Z" } : Jvm.MethodName) prog_1_method_9_code (2 : Nat) (Option.some Jvm.ClassFile.FieldType.boolean)) ∈ gtbl := gq 937 rfl rfl
theorem q938 : (Jvm.Cond.methodLink "OwnRain" (131 : Nat) ({ cls := "OwnRain$State", name := "hasText", desc := "(I)Z" } : Jvm.MethodName)) ∈ gtbl := gq 938 (by decide +kernel) rfl
theorem q939 : (Jvm.Cond.instanceMethod ({ cls := "OwnRain$State", name := "hasText", desc := "(I)Z" } : Jvm.MethodName)) ∈ gtbl := gq 939 (by decide +kernel) rfl
theorem q940 : (Jvm.Cond.selects "OwnRain$State" ({ cls := "OwnRain$State", name := "hasText", desc := "(I)Z" } : Jvm.MethodName) ({ cls := "OwnRain$State", name := "hasText", desc := "(I)Z" } : Jvm.MethodName)) ∈ gtbl := gq 940 (by decide +kernel) rfl
set_option maxRecDepth 100000 in
theorem q941 : (Jvm.Cond.code ({ cls := "OwnRain$State", name := "hasText", desc := "(I)Z" } : Jvm.MethodName) prog_6_method_2_code (2 : Nat) (Option.some Jvm.ClassFile.FieldType.boolean)) ∈ gtbl := gq 941 rfl rfl
theorem q942 : (Jvm.Cond.methodLink "OwnRainLaw" (52 : Nat) ({ cls := "OwnRain", name := "hour", desc := "(I)I" } : Jvm.MethodName)) ∈ gtbl := gq 942 (by decide +kernel) rfl
theorem q943 : (Jvm.Cond.instanceMethod ({ cls := "OwnRain", name := "hour", desc := "(I)I" } : Jvm.MethodName)) ∈ gtbl := gq 943 (by decide +kernel) rfl
theorem q944 : (Jvm.Cond.selects "OwnRain" ({ cls := "OwnRain", name := "hour", desc := "(I)I" } : Jvm.MethodName) ({ cls := "OwnRain", name := "hour", desc := "(I)I" } : Jvm.MethodName)) ∈ gtbl := gq 944 (by decide +kernel) rfl
set_option maxRecDepth 100000 in
theorem q945 : (Jvm.Cond.code ({ cls := "OwnRain", name := "hour", desc := "(I)I" } : Jvm.MethodName) prog_1_method_10_code (4 : Nat) (Option.some Jvm.ClassFile.FieldType.int)) ∈ gtbl := gq 945 rfl rfl
theorem q946 : (Jvm.Cond.methodLink "OwnRain" (140 : Nat) ({ cls := "OwnRain$State", name := "keepStep", desc := "()V" } : Jvm.MethodName)) ∈ gtbl := gq 946 (by decide +kernel) rfl
theorem q947 : (Jvm.Cond.instanceMethod ({ cls := "OwnRain$State", name := "keepStep", desc := "()V" } : Jvm.MethodName)) ∈ gtbl := gq 947 (by decide +kernel) rfl
theorem q948 : (Jvm.Cond.selects "OwnRain$State" ({ cls := "OwnRain$State", name := "keepStep", desc := "()V" } : Jvm.MethodName) ({ cls := "OwnRain$State", name := "keepStep", desc := "()V" } : Jvm.MethodName)) ∈ gtbl := gq 948 (by decide +kernel) rfl
set_option maxRecDepth 100000 in
theorem q949 : (Jvm.Cond.code ({ cls := "OwnRain$State", name := "keepStep", desc := "()V" } : Jvm.MethodName) prog_6_method_8_code (1 : Nat) (Option.none : Option Jvm.ClassFile.FieldType)) ∈ gtbl := gq 949 rfl rfl
theorem q950 : (Jvm.Cond.methodLink "OwnRain$State" (83 : Nat) ({ cls := "OwnRain$Steps", name := "keep", desc := "(LOwnRain$World;I)V" } : Jvm.MethodName)) ∈ gtbl := gq 950 (by decide +kernel) rfl
theorem q951 : (Jvm.Cond.instanceMethod ({ cls := "OwnRain$Steps", name := "keep", desc := "(LOwnRain$World;I)V" } : Jvm.MethodName)) ∈ gtbl := gq 951 (by decide +kernel) rfl
theorem q952 : (Jvm.Cond.selects "OwnRain$Steps" ({ cls := "OwnRain$Steps", name := "keep", desc := "(LOwnRain$World;I)V" } : Jvm.MethodName) ({ cls := "OwnRain$Steps", name := "keep", desc := "(LOwnRain$World;I)V" } : Jvm.MethodName)) ∈ gtbl := gq 952 (by decide +kernel) rfl
set_option maxRecDepth 100000 in
theorem q953 : (Jvm.Cond.code ({ cls := "OwnRain$Steps", name := "keep", desc := "(LOwnRain$World;I)V" } : Jvm.MethodName) prog_7_method_2_code (3 : Nat) (Option.none : Option Jvm.ClassFile.FieldType)) ∈ gtbl := gq 953 rfl rfl
theorem q954 : (Jvm.Cond.methodLink "OwnRain$Steps" (26 : Nat) ({ cls := "OwnRain$World", name := "copyFrom", desc := "(LOwnRain$World;)V" } : Jvm.MethodName)) ∈ gtbl := gq 954 (by decide +kernel) rfl
theorem q955 : (Jvm.Cond.instanceMethod ({ cls := "OwnRain$World", name := "copyFrom", desc := "(LOwnRain$World;)V" } : Jvm.MethodName)) ∈ gtbl := gq 955 (by decide +kernel) rfl
theorem q956 : (Jvm.Cond.selects "OwnRain$World" ({ cls := "OwnRain$World", name := "copyFrom", desc := "(LOwnRain$World;)V" } : Jvm.MethodName) ({ cls := "OwnRain$World", name := "copyFrom", desc := "(LOwnRain$World;)V" } : Jvm.MethodName)) ∈ gtbl := gq 956 (by decide +kernel) rfl
set_option maxRecDepth 100000 in
theorem q957 : (Jvm.Cond.code ({ cls := "OwnRain$World", name := "copyFrom", desc := "(LOwnRain$World;)V" } : Jvm.MethodName) prog_12_method_2_code (2 : Nat) (Option.none : Option Jvm.ClassFile.FieldType)) ∈ gtbl := gq 957 rfl rfl
theorem q958 : (Jvm.Cond.methodLink "OwnRain$World" (40 : Nat) ({ cls := "java/lang/System", name := "arraycopy", desc := "(Ljava/lang/Object;ILjava/lang/Object;II)V" } : Jvm.MethodName)) ∈ gtbl := gq 958 (by decide +kernel) rfl
theorem q959 : (Jvm.Cond.static ({ cls := "java/lang/System", name := "arraycopy", desc := "(Ljava/lang/Object;ILjava/lang/Object;II)V" } : Jvm.MethodName)) ∈ gtbl := gq 959 (by decide +kernel) rfl
theorem q960 : (Jvm.Cond.native ({ cls := "java/lang/System", name := "arraycopy", desc := "(Ljava/lang/Object;ILjava/lang/Object;II)V" } : Jvm.MethodName)) ∈ gtbl := gq 960 (by decide +kernel) rfl
theorem q961 : (Jvm.Cond.methodLink "OwnRain$Steps" (33 : Nat) ({ cls := "java/lang/Math", name := "min", desc := "(II)I" } : Jvm.MethodName)) ∈ gtbl := gq 961 (by decide +kernel) rfl
theorem q962 : (Jvm.Cond.methodLink "OwnRain" (143 : Nat) ({ cls := "OwnRain$Weather", name := "pass", desc := "(LOwnRain$World;)I" } : Jvm.MethodName)) ∈ gtbl := gq 962 (by decide +kernel) rfl
theorem q963 : (Jvm.Cond.instanceMethod ({ cls := "OwnRain$Weather", name := "pass", desc := "(LOwnRain$World;)I" } : Jvm.MethodName)) ∈ gtbl := gq 963 (by decide +kernel) rfl
theorem q964 : (Jvm.Cond.selects "OwnRain$Weather" ({ cls := "OwnRain$Weather", name := "pass", desc := "(LOwnRain$World;)I" } : Jvm.MethodName) ({ cls := "OwnRain$Weather", name := "pass", desc := "(LOwnRain$World;)I" } : Jvm.MethodName)) ∈ gtbl := gq 964 (by decide +kernel) rfl
set_option maxRecDepth 100000 in
theorem q965 : (Jvm.Cond.code ({ cls := "OwnRain$Weather", name := "pass", desc := "(LOwnRain$World;)I" } : Jvm.MethodName) prog_11_method_2_code (4 : Nat) (Option.some Jvm.ClassFile.FieldType.int)) ∈ gtbl := gq 965 rfl rfl
theorem q966 : (Jvm.Cond.methodLink "OwnRain$Weather" (43 : Nat) ({ cls := "OwnRain$Weather", name := "sweatOf", desc := "(LOwnRain$World;I)I" } : Jvm.MethodName)) ∈ gtbl := gq 966 (by decide +kernel) rfl
theorem q967 : (Jvm.Cond.instanceMethod ({ cls := "OwnRain$Weather", name := "sweatOf", desc := "(LOwnRain$World;I)I" } : Jvm.MethodName)) ∈ gtbl := gq 967 (by decide +kernel) rfl
theorem q968 : (Jvm.Cond.selects "OwnRain$Weather" ({ cls := "OwnRain$Weather", name := "sweatOf", desc := "(LOwnRain$World;I)I" } : Jvm.MethodName) ({ cls := "OwnRain$Weather", name := "sweatOf", desc := "(LOwnRain$World;I)I" } : Jvm.MethodName)) ∈ gtbl := gq 968 (by decide +kernel) rfl
set_option maxRecDepth 100000 in
theorem q969 : (Jvm.Cond.code ({ cls := "OwnRain$Weather", name := "sweatOf", desc := "(LOwnRain$World;I)I" } : Jvm.MethodName) prog_11_method_3_code (4 : Nat) (Option.some Jvm.ClassFile.FieldType.int)) ∈ gtbl := gq 969 rfl rfl
theorem q970 : (Jvm.Cond.methodLink "OwnRain$Weather" (91 : Nat) ({ cls := "OwnRain$Weather", name := "law", desc := "(IILOwnRain$World;II)I" } : Jvm.MethodName)) ∈ gtbl := gq 970 (by decide +kernel) rfl
theorem q972 : (Jvm.Cond.instanceMethod ({ cls := "OwnRain$Weather", name := "law", desc := "(IILOwnRain$World;II)I" } : Jvm.MethodName)) ∈ gtbl := gq 972 (by decide +kernel) rfl
set_option maxRecDepth 100000 in
theorem q973 : (Jvm.Cond.code ({ cls := "OwnRain$Weather", name := "law", desc := "(IILOwnRain$World;II)I" } : Jvm.MethodName) prog_11_method_7_code (10 : Nat) (Option.some Jvm.ClassFile.FieldType.int)) ∈ gtbl := gq 973 rfl rfl
theorem q974 : (Jvm.Cond.methodLink "OwnRain$Weather" (133 : Nat) ({ cls := "OwnRain$State", name := "rules", desc := "()LOwnRain$Text;" } : Jvm.MethodName)) ∈ gtbl := gq 974 (by decide +kernel) rfl
theorem q975 : (Jvm.Cond.instanceMethod ({ cls := "OwnRain$State", name := "rules", desc := "()LOwnRain$Text;" } : Jvm.MethodName)) ∈ gtbl := gq 975 (by decide +kernel) rfl
theorem q976 : (Jvm.Cond.selects "OwnRain$State" ({ cls := "OwnRain$State", name := "rules", desc := "()LOwnRain$Text;" } : Jvm.MethodName) ({ cls := "OwnRain$State", name := "rules", desc := "()LOwnRain$Text;" } : Jvm.MethodName)) ∈ gtbl := gq 976 (by decide +kernel) rfl
set_option maxRecDepth 100000 in
theorem q977 : (Jvm.Cond.code ({ cls := "OwnRain$State", name := "rules", desc := "()LOwnRain$Text;" } : Jvm.MethodName) prog_6_method_4_code (1 : Nat) (Option.some (Jvm.ClassFile.FieldType.object "OwnRain$Text"))) ∈ gtbl := gq 977 rfl rfl
theorem q978 : (Jvm.Cond.methodLink "OwnRain$State" (52 : Nat) ({ cls := "OwnRain$State", name := "hasText", desc := "(I)Z" } : Jvm.MethodName)) ∈ gtbl := gq 978 (by decide +kernel) rfl
theorem q979 : (Jvm.Cond.methodLink "OwnRain$Weather" (137 : Nat) ({ cls := "OwnRain$Text", name := "hasLaw", desc := "(I)Z" } : Jvm.MethodName)) ∈ gtbl := gq 979 (by decide +kernel) rfl
theorem q980 : (Jvm.Cond.methodLink "OwnRain$Weather" (162 : Nat) ({ cls := "OwnRain$Weather", name := "run", desc := "(LOwnRain$Text;III)I" } : Jvm.MethodName)) ∈ gtbl := gq 980 (by decide +kernel) rfl
theorem q982 : (Jvm.Cond.instanceMethod ({ cls := "OwnRain$Weather", name := "run", desc := "(LOwnRain$Text;III)I" } : Jvm.MethodName)) ∈ gtbl := gq 982 (by decide +kernel) rfl
set_option maxRecDepth 100000 in
theorem q983 : (Jvm.Cond.code ({ cls := "OwnRain$Weather", name := "run", desc := "(LOwnRain$Text;III)I" } : Jvm.MethodName) prog_11_method_8_code (9 : Nat) (Option.some Jvm.ClassFile.FieldType.int)) ∈ gtbl := gq 983 rfl rfl
theorem q984 : (Jvm.Cond.methodLink "OwnRain$Weather" (182 : Nat) ({ cls := "OwnRain$Weather", name := "named", desc := "(II)I" } : Jvm.MethodName)) ∈ gtbl := gq 984 (by decide +kernel) rfl
theorem q986 : (Jvm.Cond.instanceMethod ({ cls := "OwnRain$Weather", name := "named", desc := "(II)I" } : Jvm.MethodName)) ∈ gtbl := gq 986 (by decide +kernel) rfl
set_option maxRecDepth 100000 in
theorem q987 : (Jvm.Cond.code ({ cls := "OwnRain$Weather", name := "named", desc := "(II)I" } : Jvm.MethodName) prog_11_method_11_code (4 : Nat) (Option.some Jvm.ClassFile.FieldType.int)) ∈ gtbl := gq 987 rfl rfl
theorem q988 : (Jvm.Cond.methodLink "OwnRain$Weather" (185 : Nat) ({ cls := "java/lang/Math", name := "max", desc := "(II)I" } : Jvm.MethodName)) ∈ gtbl := gq 988 (by decide +kernel) rfl
theorem q989 : (Jvm.Cond.methodLink "OwnRain$Weather" (188 : Nat) ({ cls := "OwnRain$Weather", name := "joined", desc := "(IJJ)J" } : Jvm.MethodName)) ∈ gtbl := gq 989 (by decide +kernel) rfl
theorem q990 : (Jvm.Cond.static ({ cls := "OwnRain$Weather", name := "joined", desc := "(IJJ)J" } : Jvm.MethodName)) ∈ gtbl := gq 990 (by decide +kernel) rfl
set_option maxRecDepth 100000 in
theorem q991 : (Jvm.Cond.code ({ cls := "OwnRain$Weather", name := "joined", desc := "(IJJ)J" } : Jvm.MethodName) prog_11_method_10_code (5 : Nat) (Option.some Jvm.ClassFile.FieldType.long)) ∈ gtbl := gq 991 rfl rfl
theorem q992 : (Jvm.Cond.methodLink "OwnRain$Weather" (166 : Nat) ({ cls := "OwnRain$Weather", name := "bounded", desc := "(J)I" } : Jvm.MethodName)) ∈ gtbl := gq 992 (by decide +kernel) rfl
theorem q993 : (Jvm.Cond.static ({ cls := "OwnRain$Weather", name := "bounded", desc := "(J)I" } : Jvm.MethodName)) ∈ gtbl := gq 993 (by decide +kernel) rfl
set_option maxRecDepth 100000 in
theorem q994 : (Jvm.Cond.code ({ cls := "OwnRain$Weather", name := "bounded", desc := "(J)I" } : Jvm.MethodName) prog_11_method_9_code (2 : Nat) (Option.some Jvm.ClassFile.FieldType.int)) ∈ gtbl := gq 994 rfl rfl
theorem q995 : (Jvm.Cond.constantLong "OwnRain$Weather" (192 : Nat) (1000000 : Int64)) ∈ gtbl := gq 995 (by decide +kernel) rfl
theorem q996 : (Jvm.Cond.constant "OwnRain$Weather" (194 : Nat) (1000000 : Int32)) ∈ gtbl := gq 996 (by decide +kernel) rfl
theorem q997 : (Jvm.Cond.constantLong "OwnRain$Weather" (195 : Nat) (-1000000 : Int64)) ∈ gtbl := gq 997 (by decide +kernel) rfl
theorem q998 : (Jvm.Cond.constant "OwnRain$Weather" (197 : Nat) (-1000000 : Int32)) ∈ gtbl := gq 998 (by decide +kernel) rfl
theorem q1000 : (Jvm.Cond.static ({ cls := "OwnRain", name := "bring", desc := "(III)I" } : Jvm.MethodName)) ∈ gtbl := gq 1000 (by decide +kernel) rfl
set_option maxRecDepth 100000 in
theorem q1001 : (Jvm.Cond.code ({ cls := "OwnRain", name := "bring", desc := "(III)I" } : Jvm.MethodName) prog_1_method_49_code (3 : Nat) (Option.some Jvm.ClassFile.FieldType.int)) ∈ gtbl := gq 1001 rfl rfl
theorem q1002 : (Jvm.Cond.methodLink "OwnRain" (225 : Nat) ({ cls := "java/lang/Math", name := "min", desc := "(II)I" } : Jvm.MethodName)) ∈ gtbl := gq 1002 (by decide +kernel) rfl
theorem q1003 : (Jvm.Cond.methodLink "OwnRain" (240 : Nat) ({ cls := "java/lang/Math", name := "max", desc := "(II)I" } : Jvm.MethodName)) ∈ gtbl := gq 1003 (by decide +kernel) rfl
theorem q1004 : (Jvm.Cond.methodLink "OwnRain$Weather" (99 : Nat) ({ cls := "java/lang/Math", name := "min", desc := "(II)I" } : Jvm.MethodName)) ∈ gtbl := gq 1004 (by decide +kernel) rfl
theorem q1005 : (Jvm.Cond.methodLink "OwnRain$Weather" (61 : Nat) ({ cls := "OwnRain$Weather", name := "rainFrom", desc := "(LOwnRain$World;I)V" } : Jvm.MethodName)) ∈ gtbl := gq 1005 (by decide +kernel) rfl
theorem q1007 : (Jvm.Cond.instanceMethod ({ cls := "OwnRain$Weather", name := "rainFrom", desc := "(LOwnRain$World;I)V" } : Jvm.MethodName)) ∈ gtbl := gq 1007 (by decide +kernel) rfl
set_option maxRecDepth 100000 in
theorem q1008 : (Jvm.Cond.code ({ cls := "OwnRain$Weather", name := "rainFrom", desc := "(LOwnRain$World;I)V" } : Jvm.MethodName) prog_11_method_4_code (8 : Nat) (Option.none : Option Jvm.ClassFile.FieldType)) ∈ gtbl := gq 1008 rfl rfl
theorem q1009 : (Jvm.Cond.methodLink "OwnRain$Weather" (108 : Nat) ({ cls := "OwnRain$World", name := "writeRain", desc := "(III)V" } : Jvm.MethodName)) ∈ gtbl := gq 1009 (by decide +kernel) rfl
theorem q1010 : (Jvm.Cond.instanceMethod ({ cls := "OwnRain$World", name := "writeRain", desc := "(III)V" } : Jvm.MethodName)) ∈ gtbl := gq 1010 (by decide +kernel) rfl
theorem q1011 : (Jvm.Cond.selects "OwnRain$World" ({ cls := "OwnRain$World", name := "writeRain", desc := "(III)V" } : Jvm.MethodName) ({ cls := "OwnRain$World", name := "writeRain", desc := "(III)V" } : Jvm.MethodName)) ∈ gtbl := gq 1011 (by decide +kernel) rfl
set_option maxRecDepth 100000 in
theorem q1012 : (Jvm.Cond.code ({ cls := "OwnRain$World", name := "writeRain", desc := "(III)V" } : Jvm.MethodName) prog_12_method_7_code (4 : Nat) (Option.none : Option Jvm.ClassFile.FieldType)) ∈ gtbl := gq 1012 rfl rfl
theorem q1013 : (Jvm.Cond.methodLink "OwnRain$World" (64 : Nat) ({ cls := "java/lang/Math", name := "min", desc := "(II)I" } : Jvm.MethodName)) ∈ gtbl := gq 1013 (by decide +kernel) rfl
theorem q1014 : (Jvm.Cond.methodLink "OwnRain$Weather" (69 : Nat) ({ cls := "OwnRain$Weather", name := "closeHour", desc := "(LOwnRain$World;I)V" } : Jvm.MethodName)) ∈ gtbl := gq 1014 (by decide +kernel) rfl
theorem q1016 : (Jvm.Cond.instanceMethod ({ cls := "OwnRain$Weather", name := "closeHour", desc := "(LOwnRain$World;I)V" } : Jvm.MethodName)) ∈ gtbl := gq 1016 (by decide +kernel) rfl
set_option maxRecDepth 100000 in
theorem q1017 : (Jvm.Cond.code ({ cls := "OwnRain$Weather", name := "closeHour", desc := "(LOwnRain$World;I)V" } : Jvm.MethodName) prog_11_method_5_code (6 : Nat) (Option.none : Option Jvm.ClassFile.FieldType)) ∈ gtbl := gq 1017 rfl rfl
theorem q1018 : (Jvm.Cond.methodLink "OwnRain$Weather" (72 : Nat) ({ cls := "OwnRain$World", name := "writeWhere", desc := "(I)V" } : Jvm.MethodName)) ∈ gtbl := gq 1018 (by decide +kernel) rfl
theorem q1019 : (Jvm.Cond.instanceMethod ({ cls := "OwnRain$World", name := "writeWhere", desc := "(I)V" } : Jvm.MethodName)) ∈ gtbl := gq 1019 (by decide +kernel) rfl
theorem q1020 : (Jvm.Cond.selects "OwnRain$World" ({ cls := "OwnRain$World", name := "writeWhere", desc := "(I)V" } : Jvm.MethodName) ({ cls := "OwnRain$World", name := "writeWhere", desc := "(I)V" } : Jvm.MethodName)) ∈ gtbl := gq 1020 (by decide +kernel) rfl
set_option maxRecDepth 100000 in
theorem q1021 : (Jvm.Cond.code ({ cls := "OwnRain$World", name := "writeWhere", desc := "(I)V" } : Jvm.MethodName) prog_12_method_13_code (4 : Nat) (Option.none : Option Jvm.ClassFile.FieldType)) ∈ gtbl := gq 1021 rfl rfl
theorem q1022 : (Jvm.Cond.methodLink "OwnRain$Weather" (79 : Nat) ({ cls := "java/lang/Integer", name := "bitCount", desc := "(I)I" } : Jvm.MethodName)) ∈ gtbl := gq 1022 (by decide +kernel) rfl
theorem q1023 : (Jvm.Cond.static ({ cls := "java/lang/Integer", name := "bitCount", desc := "(I)I" } : Jvm.MethodName)) ∈ gtbl := gq 1023 (by decide +kernel) rfl
set_option maxRecDepth 100000 in
theorem q1024 : (Jvm.Cond.code ({ cls := "java/lang/Integer", name := "bitCount", desc := "(I)I" } : Jvm.MethodName) prog_16_method_49_code (1 : Nat) (Option.some Jvm.ClassFile.FieldType.int)) ∈ gtbl := gq 1024 rfl rfl
theorem q1025 : (Jvm.Cond.constant "java/lang/Integer" (265 : Nat) (1431655765 : Int32)) ∈ gtbl := gq 1025 (by decide +kernel) rfl
theorem q1026 : (Jvm.Cond.constant "java/lang/Integer" (266 : Nat) (858993459 : Int32)) ∈ gtbl := gq 1026 (by decide +kernel) rfl
theorem q1027 : (Jvm.Cond.constant "java/lang/Integer" (267 : Nat) (252645135 : Int32)) ∈ gtbl := gq 1027 (by decide +kernel) rfl
theorem q1028 : (Jvm.Cond.methodLink "OwnRainLaw" (56 : Nat) ({ cls := "OwnRain", name := "work", desc := "(II)Z" } : Jvm.MethodName)) ∈ gtbl := gq 1028 (by decide +kernel) rfl
theorem q1029 : (Jvm.Cond.instanceMethod ({ cls := "OwnRain", name := "work", desc := "(II)Z" } : Jvm.MethodName)) ∈ gtbl := gq 1029 (by decide +kernel) rfl
theorem q1030 : (Jvm.Cond.selects "OwnRain" ({ cls := "OwnRain", name := "work", desc := "(II)Z" } : Jvm.MethodName) ({ cls := "OwnRain", name := "work", desc := "(II)Z" } : Jvm.MethodName)) ∈ gtbl := gq 1030 (by decide +kernel) rfl
set_option maxRecDepth 100000 in
theorem q1031 : (Jvm.Cond.code ({ cls := "OwnRain", name := "work", desc := "(II)Z" } : Jvm.MethodName) prog_1_method_11_code (3 : Nat) (Option.some Jvm.ClassFile.FieldType.boolean)) ∈ gtbl := gq 1031 rfl rfl
theorem q1032 : (Jvm.Cond.methodLink "OwnRain" (147 : Nat) ({ cls := "OwnRain$Land", name := "hasPerson", desc := "(I)Z" } : Jvm.MethodName)) ∈ gtbl := gq 1032 (by decide +kernel) rfl
theorem q1033 : (Jvm.Cond.instanceMethod ({ cls := "OwnRain$Land", name := "hasPerson", desc := "(I)Z" } : Jvm.MethodName)) ∈ gtbl := gq 1033 (by decide +kernel) rfl
theorem q1034 : (Jvm.Cond.selects "OwnRain$Land" ({ cls := "OwnRain$Land", name := "hasPerson", desc := "(I)Z" } : Jvm.MethodName) ({ cls := "OwnRain$Land", name := "hasPerson", desc := "(I)Z" } : Jvm.MethodName)) ∈ gtbl := gq 1034 (by decide +kernel) rfl
set_option maxRecDepth 100000 in
theorem q1035 : (Jvm.Cond.code ({ cls := "OwnRain$Land", name := "hasPerson", desc := "(I)Z" } : Jvm.MethodName) prog_2_method_3_code (2 : Nat) (Option.some Jvm.ClassFile.FieldType.boolean)) ∈ gtbl := gq 1035 rfl rfl
theorem q1036 : (Jvm.Cond.methodLink "OwnRainLaw" (60 : Nat) ({ cls := "OwnRain", name := "go", desc := "(II)Z" } : Jvm.MethodName)) ∈ gtbl := gq 1036 (by decide +kernel) rfl
theorem q1037 : (Jvm.Cond.instanceMethod ({ cls := "OwnRain", name := "go", desc := "(II)Z" } : Jvm.MethodName)) ∈ gtbl := gq 1037 (by decide +kernel) rfl
theorem q1038 : (Jvm.Cond.selects "OwnRain" ({ cls := "OwnRain", name := "go", desc := "(II)Z" } : Jvm.MethodName) ({ cls := "OwnRain", name := "go", desc := "(II)Z" } : Jvm.MethodName)) ∈ gtbl := gq 1038 (by decide +kernel) rfl
set_option maxRecDepth 100000 in
theorem q1039 : (Jvm.Cond.code ({ cls := "OwnRain", name := "go", desc := "(II)Z" } : Jvm.MethodName) prog_1_method_12_code (3 : Nat) (Option.some Jvm.ClassFile.FieldType.boolean)) ∈ gtbl := gq 1039 rfl rfl
theorem q1040 : (Jvm.Cond.methodLink "OwnRain" (154 : Nat) ({ cls := "OwnRain$State", name := "canGo", desc := "(II)Z" } : Jvm.MethodName)) ∈ gtbl := gq 1040 (by decide +kernel) rfl
theorem q1041 : (Jvm.Cond.instanceMethod ({ cls := "OwnRain$State", name := "canGo", desc := "(II)Z" } : Jvm.MethodName)) ∈ gtbl := gq 1041 (by decide +kernel) rfl
theorem q1042 : (Jvm.Cond.selects "OwnRain$State" ({ cls := "OwnRain$State", name := "canGo", desc := "(II)Z" } : Jvm.MethodName) ({ cls := "OwnRain$State", name := "canGo", desc := "(II)Z" } : Jvm.MethodName)) ∈ gtbl := gq 1042 (by decide +kernel) rfl
set_option maxRecDepth 100000 in
theorem q1043 : (Jvm.Cond.code ({ cls := "OwnRain$State", name := "canGo", desc := "(II)Z" } : Jvm.MethodName) prog_6_method_5_code (3 : Nat) (Option.some Jvm.ClassFile.FieldType.boolean)) ∈ gtbl := gq 1043 rfl rfl
theorem q1044 : (Jvm.Cond.methodLink "OwnRain$State" (56 : Nat) ({ cls := "OwnRain$Land", name := "hasPerson", desc := "(I)Z" } : Jvm.MethodName)) ∈ gtbl := gq 1044 (by decide +kernel) rfl
theorem q1045 : (Jvm.Cond.methodLink "OwnRain$State" (59 : Nat) ({ cls := "OwnRain$Land", name := "hasField", desc := "(I)Z" } : Jvm.MethodName)) ∈ gtbl := gq 1045 (by decide +kernel) rfl
theorem q1046 : (Jvm.Cond.methodLink "OwnRain$State" (66 : Nat) ({ cls := "OwnRain$Land", name := "hasRoad", desc := "(II)Z" } : Jvm.MethodName)) ∈ gtbl := gq 1046 (by decide +kernel) rfl
theorem q1047 : (Jvm.Cond.methodLink "OwnRainLaw" (64 : Nat) ({ cls := "OwnRain", name := "shake", desc := "(II)I" } : Jvm.MethodName)) ∈ gtbl := gq 1047 (by decide +kernel) rfl
theorem q1048 : (Jvm.Cond.instanceMethod ({ cls := "OwnRain", name := "shake", desc := "(II)I" } : Jvm.MethodName)) ∈ gtbl := gq 1048 (by decide +kernel) rfl
theorem q1049 : (Jvm.Cond.selects "OwnRain" ({ cls := "OwnRain", name := "shake", desc := "(II)I" } : Jvm.MethodName) ({ cls := "OwnRain", name := "shake", desc := "(II)I" } : Jvm.MethodName)) ∈ gtbl := gq 1049 (by decide +kernel) rfl
set_option maxRecDepth 100000 in
theorem q1050 : (Jvm.Cond.code ({ cls := "OwnRain", name := "shake", desc := "(II)I" } : Jvm.MethodName) prog_1_method_13_code (3 : Nat) (Option.some Jvm.ClassFile.FieldType.int)) ∈ gtbl := gq 1050 rfl rfl
theorem q1051 : (Jvm.Cond.methodLink "OwnRain" (160 : Nat) ({ cls := "OwnRain$State", name := "canMeet", desc := "(II)Z" } : Jvm.MethodName)) ∈ gtbl := gq 1051 (by decide +kernel) rfl
theorem q1052 : (Jvm.Cond.instanceMethod ({ cls := "OwnRain$State", name := "canMeet", desc := "(II)Z" } : Jvm.MethodName)) ∈ gtbl := gq 1052 (by decide +kernel) rfl
theorem q1053 : (Jvm.Cond.selects "OwnRain$State" ({ cls := "OwnRain$State", name := "canMeet", desc := "(II)Z" } : Jvm.MethodName) ({ cls := "OwnRain$State", name := "canMeet", desc := "(II)Z" } : Jvm.MethodName)) ∈ gtbl := gq 1053 (by decide +kernel) rfl
set_option maxRecDepth 100000 in
theorem q1054 : (Jvm.Cond.code ({ cls := "OwnRain$State", name := "canMeet", desc := "(II)Z" } : Jvm.MethodName) prog_6_method_6_code (3 : Nat) (Option.some Jvm.ClassFile.FieldType.boolean)) ∈ gtbl := gq 1054 rfl rfl
theorem q1055 : (Jvm.Cond.methodLink "OwnRain" (163 : Nat) ({ cls := "OwnRain$Weather", name := "merge", desc := "(LOwnRain$World;II)V" } : Jvm.MethodName)) ∈ gtbl := gq 1055 (by decide +kernel) rfl
theorem q1056 : (Jvm.Cond.instanceMethod ({ cls := "OwnRain$Weather", name := "merge", desc := "(LOwnRain$World;II)V" } : Jvm.MethodName)) ∈ gtbl := gq 1056 (by decide +kernel) rfl
theorem q1057 : (Jvm.Cond.selects "OwnRain$Weather" ({ cls := "OwnRain$Weather", name := "merge", desc := "(LOwnRain$World;II)V" } : Jvm.MethodName) ({ cls := "OwnRain$Weather", name := "merge", desc := "(LOwnRain$World;II)V" } : Jvm.MethodName)) ∈ gtbl := gq 1057 (by decide +kernel) rfl
set_option maxRecDepth 100000 in
theorem q1058 : (Jvm.Cond.code ({ cls := "OwnRain$Weather", name := "merge", desc := "(LOwnRain$World;II)V" } : Jvm.MethodName) prog_11_method_6_code (5 : Nat) (Option.none : Option Jvm.ClassFile.FieldType)) ∈ gtbl := gq 1058 rfl rfl
theorem q1059 : (Jvm.Cond.methodLink "OwnRainLaw" (69 : Nat) ({ cls := "OwnRain", name := "steal", desc := "(III)I" } : Jvm.MethodName)) ∈ gtbl := gq 1059 (by decide +kernel) rfl
theorem q1060 : (Jvm.Cond.instanceMethod ({ cls := "OwnRain", name := "steal", desc := "(III)I" } : Jvm.MethodName)) ∈ gtbl := gq 1060 (by decide +kernel) rfl
theorem q1061 : (Jvm.Cond.selects "OwnRain" ({ cls := "OwnRain", name := "steal", desc := "(III)I" } : Jvm.MethodName) ({ cls := "OwnRain", name := "steal", desc := "(III)I" } : Jvm.MethodName)) ∈ gtbl := gq 1061 (by decide +kernel) rfl
set_option maxRecDepth 100000 in
theorem q1062 : (Jvm.Cond.code ({ cls := "OwnRain", name := "steal", desc := "(III)I" } : Jvm.MethodName) prog_1_method_14_code (4 : Nat) (Option.some Jvm.ClassFile.FieldType.int)) ∈ gtbl := gq 1062 rfl rfl
theorem q1063 : (Jvm.Cond.methodLink "OwnRain" (170 : Nat) ({ cls := "OwnRain$State", name := "canTake", desc := "(III)Z" } : Jvm.MethodName)) ∈ gtbl := gq 1063 (by decide +kernel) rfl
theorem q1064 : (Jvm.Cond.instanceMethod ({ cls := "OwnRain$State", name := "canTake", desc := "(III)Z" } : Jvm.MethodName)) ∈ gtbl := gq 1064 (by decide +kernel) rfl
theorem q1065 : (Jvm.Cond.selects "OwnRain$State" ({ cls := "OwnRain$State", name := "canTake", desc := "(III)Z" } : Jvm.MethodName) ({ cls := "OwnRain$State", name := "canTake", desc := "(III)Z" } : Jvm.MethodName)) ∈ gtbl := gq 1065 (by decide +kernel) rfl
set_option maxRecDepth 100000 in
theorem q1066 : (Jvm.Cond.code ({ cls := "OwnRain$State", name := "canTake", desc := "(III)Z" } : Jvm.MethodName) prog_6_method_7_code (4 : Nat) (Option.some Jvm.ClassFile.FieldType.boolean)) ∈ gtbl := gq 1066 rfl rfl
theorem q1067 : (Jvm.Cond.methodLink "OwnRain$State" (70 : Nat) ({ cls := "OwnRain$State", name := "canMeet", desc := "(II)Z" } : Jvm.MethodName)) ∈ gtbl := gq 1067 (by decide +kernel) rfl
theorem q1069 : (Jvm.Cond.methodLink "OwnRain" (173 : Nat) ({ cls := "OwnRain$World", name := "take", desc := "(III)V" } : Jvm.MethodName)) ∈ gtbl := gq 1069 (by decide +kernel) rfl
theorem q1070 : (Jvm.Cond.instanceMethod ({ cls := "OwnRain$World", name := "take", desc := "(III)V" } : Jvm.MethodName)) ∈ gtbl := gq 1070 (by decide +kernel) rfl
theorem q1071 : (Jvm.Cond.selects "OwnRain$World" ({ cls := "OwnRain$World", name := "take", desc := "(III)V" } : Jvm.MethodName) ({ cls := "OwnRain$World", name := "take", desc := "(III)V" } : Jvm.MethodName)) ∈ gtbl := gq 1071 (by decide +kernel) rfl
set_option maxRecDepth 100000 in
theorem q1072 : (Jvm.Cond.code ({ cls := "OwnRain$World", name := "take", desc := "(III)V" } : Jvm.MethodName) prog_12_method_4_code (4 : Nat) (Option.none : Option Jvm.ClassFile.FieldType)) ∈ gtbl := gq 1072 rfl rfl
theorem q1073 : (Jvm.Cond.methodLink "OwnRainLaw" (73 : Nat) ({ cls := "OwnRain", name := "pour", desc := "(II)I" } : Jvm.MethodName)) ∈ gtbl := gq 1073 (by decide +kernel) rfl
theorem q1074 : (Jvm.Cond.instanceMethod ({ cls := "OwnRain", name := "pour", desc := "(II)I" } : Jvm.MethodName)) ∈ gtbl := gq 1074 (by decide +kernel) rfl
theorem q1075 : (Jvm.Cond.selects "OwnRain" ({ cls := "OwnRain", name := "pour", desc := "(II)I" } : Jvm.MethodName) ({ cls := "OwnRain", name := "pour", desc := "(II)I" } : Jvm.MethodName)) ∈ gtbl := gq 1075 (by decide +kernel) rfl
set_option maxRecDepth 100000 in
theorem q1076 : (Jvm.Cond.code ({ cls := "OwnRain", name := "pour", desc := "(II)I" } : Jvm.MethodName) prog_1_method_15_code (4 : Nat) (Option.some Jvm.ClassFile.FieldType.int)) ∈ gtbl := gq 1076 rfl rfl
theorem q1077 : (Jvm.Cond.methodLink "OwnRainLaw" (77 : Nat) ({ cls := "OwnRain", name := "played", desc := "(I)I" } : Jvm.MethodName)) ∈ gtbl := gq 1077 (by decide +kernel) rfl
theorem q1078 : (Jvm.Cond.instanceMethod ({ cls := "OwnRain", name := "played", desc := "(I)I" } : Jvm.MethodName)) ∈ gtbl := gq 1078 (by decide +kernel) rfl
theorem q1079 : (Jvm.Cond.selects "OwnRain" ({ cls := "OwnRain", name := "played", desc := "(I)I" } : Jvm.MethodName) ({ cls := "OwnRain", name := "played", desc := "(I)I" } : Jvm.MethodName)) ∈ gtbl := gq 1079 (by decide +kernel) rfl
set_option maxRecDepth 100000 in
theorem q1080 : (Jvm.Cond.code ({ cls := "OwnRain", name := "played", desc := "(I)I" } : Jvm.MethodName) prog_1_method_16_code (4 : Nat) (Option.some Jvm.ClassFile.FieldType.int)) ∈ gtbl := gq 1080 rfl rfl
theorem q1081 : (Jvm.Cond.methodLink "OwnRain" (194 : Nat) ({ cls := "OwnRain", name := "canDo", desc := "(LOwnRain$Text;I)Z" } : Jvm.MethodName)) ∈ gtbl := gq 1081 (by decide +kernel) rfl
theorem q1083 : (Jvm.Cond.instanceMethod ({ cls := "OwnRain", name := "canDo", desc := "(LOwnRain$Text;I)Z" } : Jvm.MethodName)) ∈ gtbl := gq 1083 (by decide +kernel) rfl
set_option maxRecDepth 100000 in
theorem q1084 : (Jvm.Cond.code ({ cls := "OwnRain", name := "canDo", desc := "(LOwnRain$Text;I)Z" } : Jvm.MethodName) prog_1_method_17_code (7 : Nat) (Option.some Jvm.ClassFile.FieldType.boolean)) ∈ gtbl := gq 1084 rfl rfl
theorem q1085 : (Jvm.Cond.methodLink "OwnRain" (201 : Nat) ({ cls := "OwnRain", name := "field", desc := "(III)I" } : Jvm.MethodName)) ∈ gtbl := gq 1085 (by decide +kernel) rfl
theorem q1086 : (Jvm.Cond.methodLink "OwnRain" (204 : Nat) ({ cls := "OwnRain", name := "road", desc := "(II)Z" } : Jvm.MethodName)) ∈ gtbl := gq 1086 (by decide +kernel) rfl
theorem q1087 : (Jvm.Cond.methodLink "OwnRain" (207 : Nat) ({ cls := "OwnRain", name := "person", desc := "(IIII)I" } : Jvm.MethodName)) ∈ gtbl := gq 1087 (by decide +kernel) rfl
theorem q1088 : (Jvm.Cond.methodLink "OwnRain" (210 : Nat) ({ cls := "OwnRain", name := "work", desc := "(II)Z" } : Jvm.MethodName)) ∈ gtbl := gq 1088 (by decide +kernel) rfl
theorem q1089 : (Jvm.Cond.methodLink "OwnRain" (212 : Nat) ({ cls := "OwnRain", name := "go", desc := "(II)Z" } : Jvm.MethodName)) ∈ gtbl := gq 1089 (by decide +kernel) rfl
theorem q1090 : (Jvm.Cond.methodLink "OwnRain" (215 : Nat) ({ cls := "OwnRain", name := "shake", desc := "(II)I" } : Jvm.MethodName)) ∈ gtbl := gq 1090 (by decide +kernel) rfl
theorem q1091 : (Jvm.Cond.methodLink "OwnRain" (219 : Nat) ({ cls := "OwnRain", name := "steal", desc := "(III)I" } : Jvm.MethodName)) ∈ gtbl := gq 1091 (by decide +kernel) rfl
theorem q1092 : (Jvm.Cond.methodLink "OwnRain" (222 : Nat) ({ cls := "OwnRain", name := "pour", desc := "(II)I" } : Jvm.MethodName)) ∈ gtbl := gq 1092 (by decide +kernel) rfl
theorem q1093 : (Jvm.Cond.methodLink "OwnRain" (230 : Nat) ({ cls := "OwnRain", name := "hour", desc := "(I)I" } : Jvm.MethodName)) ∈ gtbl := gq 1093 (by decide +kernel) rfl
theorem q1094 : (Jvm.Cond.methodLink "OwnRainLaw" (81 : Nat) ({ cls := "OwnRain", name := "year", desc := "(II)I" } : Jvm.MethodName)) ∈ gtbl := gq 1094 (by decide +kernel) rfl
theorem q1095 : (Jvm.Cond.instanceMethod ({ cls := "OwnRain", name := "year", desc := "(II)I" } : Jvm.MethodName)) ∈ gtbl := gq 1095 (by decide +kernel) rfl
theorem q1096 : (Jvm.Cond.selects "OwnRain" ({ cls := "OwnRain", name := "year", desc := "(II)I" } : Jvm.MethodName) ({ cls := "OwnRain", name := "year", desc := "(II)I" } : Jvm.MethodName)) ∈ gtbl := gq 1096 (by decide +kernel) rfl
set_option maxRecDepth 100000 in
theorem q1097 : (Jvm.Cond.code ({ cls := "OwnRain", name := "year", desc := "(II)I" } : Jvm.MethodName) prog_1_method_18_code (5 : Nat) (Option.some Jvm.ClassFile.FieldType.int)) ∈ gtbl := gq 1097 rfl rfl
theorem q1098 : (Jvm.Cond.methodLink "OwnRain" (236 : Nat) ({ cls := "OwnRain", name := "draw", desc := "()I" } : Jvm.MethodName)) ∈ gtbl := gq 1098 (by decide +kernel) rfl
theorem q1100 : (Jvm.Cond.instanceMethod ({ cls := "OwnRain", name := "draw", desc := "()I" } : Jvm.MethodName)) ∈ gtbl := gq 1100 (by decide +kernel) rfl
set_option maxRecDepth 100000 in
theorem q1101 : (Jvm.Cond.code ({ cls := "OwnRain", name := "draw", desc := "()I" } : Jvm.MethodName) prog_1_method_19_code (9 : Nat) (Option.some Jvm.ClassFile.FieldType.int)) ∈ gtbl := gq 1101 rfl rfl
theorem q1102 : (Jvm.Cond.methodLink "OwnRain" (243 : Nat) ({ cls := "OwnRain$World", name := "drawAnew", desc := "()V" } : Jvm.MethodName)) ∈ gtbl := gq 1102 (by decide +kernel) rfl
theorem q1103 : (Jvm.Cond.instanceMethod ({ cls := "OwnRain$World", name := "drawAnew", desc := "()V" } : Jvm.MethodName)) ∈ gtbl := gq 1103 (by decide +kernel) rfl
theorem q1104 : (Jvm.Cond.selects "OwnRain$World" ({ cls := "OwnRain$World", name := "drawAnew", desc := "()V" } : Jvm.MethodName) ({ cls := "OwnRain$World", name := "drawAnew", desc := "()V" } : Jvm.MethodName)) ∈ gtbl := gq 1104 (by decide +kernel) rfl
set_option maxRecDepth 100000 in
theorem q1105 : (Jvm.Cond.code ({ cls := "OwnRain$World", name := "drawAnew", desc := "()V" } : Jvm.MethodName) prog_12_method_5_code (1 : Nat) (Option.none : Option Jvm.ClassFile.FieldType)) ∈ gtbl := gq 1105 rfl rfl
theorem q1106 : (Jvm.Cond.methodLink "OwnRainLaw" (85 : Nat) ({ cls := "OwnRain", name := "undo", desc := "()I" } : Jvm.MethodName)) ∈ gtbl := gq 1106 (by decide +kernel) rfl
theorem q1107 : (Jvm.Cond.instanceMethod ({ cls := "OwnRain", name := "undo", desc := "()I" } : Jvm.MethodName)) ∈ gtbl := gq 1107 (by decide +kernel) rfl
theorem q1108 : (Jvm.Cond.selects "OwnRain" ({ cls := "OwnRain", name := "undo", desc := "()I" } : Jvm.MethodName) ({ cls := "OwnRain", name := "undo", desc := "()I" } : Jvm.MethodName)) ∈ gtbl := gq 1108 (by decide +kernel) rfl
set_option maxRecDepth 100000 in
theorem q1109 : (Jvm.Cond.code ({ cls := "OwnRain", name := "undo", desc := "()I" } : Jvm.MethodName) prog_1_method_20_code (1 : Nat) (Option.some Jvm.ClassFile.FieldType.int)) ∈ gtbl := gq 1109 rfl rfl
theorem q1110 : (Jvm.Cond.methodLink "OwnRain" (246 : Nat) ({ cls := "OwnRain$State", name := "takeBack", desc := "()I" } : Jvm.MethodName)) ∈ gtbl := gq 1110 (by decide +kernel) rfl
theorem q1111 : (Jvm.Cond.instanceMethod ({ cls := "OwnRain$State", name := "takeBack", desc := "()I" } : Jvm.MethodName)) ∈ gtbl := gq 1111 (by decide +kernel) rfl
theorem q1112 : (Jvm.Cond.selects "OwnRain$State" ({ cls := "OwnRain$State", name := "takeBack", desc := "()I" } : Jvm.MethodName) ({ cls := "OwnRain$State", name := "takeBack", desc := "()I" } : Jvm.MethodName)) ∈ gtbl := gq 1112 (by decide +kernel) rfl
set_option maxRecDepth 100000 in
theorem q1113 : (Jvm.Cond.code ({ cls := "OwnRain$State", name := "takeBack", desc := "()I" } : Jvm.MethodName) prog_6_method_9_code (3 : Nat) (Option.some Jvm.ClassFile.FieldType.int)) ∈ gtbl := gq 1113 rfl rfl
theorem q1114 : (Jvm.Cond.methodLink "OwnRain$State" (90 : Nat) ({ cls := "OwnRain$Steps", name := "takeBack", desc := "(LOwnRain$World;)I" } : Jvm.MethodName)) ∈ gtbl := gq 1114 (by decide +kernel) rfl
theorem q1115 : (Jvm.Cond.instanceMethod ({ cls := "OwnRain$Steps", name := "takeBack", desc := "(LOwnRain$World;)I" } : Jvm.MethodName)) ∈ gtbl := gq 1115 (by decide +kernel) rfl
theorem q1116 : (Jvm.Cond.selects "OwnRain$Steps" ({ cls := "OwnRain$Steps", name := "takeBack", desc := "(LOwnRain$World;)I" } : Jvm.MethodName) ({ cls := "OwnRain$Steps", name := "takeBack", desc := "(LOwnRain$World;)I" } : Jvm.MethodName)) ∈ gtbl := gq 1116 (by decide +kernel) rfl
set_option maxRecDepth 100000 in
theorem q1117 : (Jvm.Cond.code ({ cls := "OwnRain$Steps", name := "takeBack", desc := "(LOwnRain$World;)I" } : Jvm.MethodName) prog_7_method_3_code (2 : Nat) (Option.some Jvm.ClassFile.FieldType.int)) ∈ gtbl := gq 1117 rfl rfl
theorem q1118 : (Jvm.Cond.methodLink "OwnRain$State" (100 : Nat) ({ cls := "OwnRain$World", name := "settle", desc := "(III)V" } : Jvm.MethodName)) ∈ gtbl := gq 1118 (by decide +kernel) rfl
theorem q1119 : (Jvm.Cond.methodLink "OwnRainLaw" (89 : Nat) ({ cls := "OwnRain", name := "ofField", desc := "(II)I" } : Jvm.MethodName)) ∈ gtbl := gq 1119 (by decide +kernel) rfl
theorem q1120 : (Jvm.Cond.instanceMethod ({ cls := "OwnRain", name := "ofField", desc := "(II)I" } : Jvm.MethodName)) ∈ gtbl := gq 1120 (by decide +kernel) rfl
theorem q1121 : (Jvm.Cond.selects "OwnRain" ({ cls := "OwnRain", name := "ofField", desc := "(II)I" } : Jvm.MethodName) ({ cls := "OwnRain", name := "ofField", desc := "(II)I" } : Jvm.MethodName)) ∈ gtbl := gq 1121 (by decide +kernel) rfl
set_option maxRecDepth 100000 in
theorem q1122 : (Jvm.Cond.code ({ cls := "OwnRain", name := "ofField", desc := "(II)I" } : Jvm.MethodName) prog_1_method_21_code (5 : Nat) (Option.some Jvm.ClassFile.FieldType.int)) ∈ gtbl := gq 1122 rfl rfl
theorem q1123 : (Jvm.Cond.methodLink "OwnRain" (264 : Nat) ({ cls := "OwnRain$World", name := "peopleOn", desc := "(II)I" } : Jvm.MethodName)) ∈ gtbl := gq 1123 (by decide +kernel) rfl
theorem q1124 : (Jvm.Cond.instanceMethod ({ cls := "OwnRain$World", name := "peopleOn", desc := "(II)I" } : Jvm.MethodName)) ∈ gtbl := gq 1124 (by decide +kernel) rfl
theorem q1125 : (Jvm.Cond.selects "OwnRain$World" ({ cls := "OwnRain$World", name := "peopleOn", desc := "(II)I" } : Jvm.MethodName) ({ cls := "OwnRain$World", name := "peopleOn", desc := "(II)I" } : Jvm.MethodName)) ∈ gtbl := gq 1125 (by decide +kernel) rfl
set_option maxRecDepth 100000 in
theorem q1126 : (Jvm.Cond.code ({ cls := "OwnRain$World", name := "peopleOn", desc := "(II)I" } : Jvm.MethodName) prog_12_method_6_code (5 : Nat) (Option.some Jvm.ClassFile.FieldType.int)) ∈ gtbl := gq 1126 rfl rfl
theorem q1127 : (Jvm.Cond.methodLink "OwnRainLaw" (93 : Nat) ({ cls := "OwnRain", name := "ofPerson", desc := "(II)I" } : Jvm.MethodName)) ∈ gtbl := gq 1127 (by decide +kernel) rfl
theorem q1128 : (Jvm.Cond.instanceMethod ({ cls := "OwnRain", name := "ofPerson", desc := "(II)I" } : Jvm.MethodName)) ∈ gtbl := gq 1128 (by decide +kernel) rfl
theorem q1129 : (Jvm.Cond.selects "OwnRain" ({ cls := "OwnRain", name := "ofPerson", desc := "(II)I" } : Jvm.MethodName) ({ cls := "OwnRain", name := "ofPerson", desc := "(II)I" } : Jvm.MethodName)) ∈ gtbl := gq 1129 (by decide +kernel) rfl
set_option maxRecDepth 100000 in
theorem q1130 : (Jvm.Cond.code ({ cls := "OwnRain", name := "ofPerson", desc := "(II)I" } : Jvm.MethodName) prog_1_method_22_code (5 : Nat) (Option.some Jvm.ClassFile.FieldType.int)) ∈ gtbl := gq 1130 rfl rfl
theorem q1131 : (Jvm.Cond.methodLink "OwnRain" (276 : Nat) ({ cls := "OwnRain$Weather", name := "sweatOf", desc := "(LOwnRain$World;I)I" } : Jvm.MethodName)) ∈ gtbl := gq 1131 (by decide +kernel) rfl
theorem q1132 : (Jvm.Cond.methodLink "OwnRain" (280 : Nat) ({ cls := "OwnRain$World", name := "whereWas", desc := "(II)I" } : Jvm.MethodName)) ∈ gtbl := gq 1132 (by decide +kernel) rfl
theorem q1133 : (Jvm.Cond.instanceMethod ({ cls := "OwnRain$World", name := "whereWas", desc := "(II)I" } : Jvm.MethodName)) ∈ gtbl := gq 1133 (by decide +kernel) rfl
theorem q1134 : (Jvm.Cond.selects "OwnRain$World" ({ cls := "OwnRain$World", name := "whereWas", desc := "(II)I" } : Jvm.MethodName) ({ cls := "OwnRain$World", name := "whereWas", desc := "(II)I" } : Jvm.MethodName)) ∈ gtbl := gq 1134 (by decide +kernel) rfl
set_option maxRecDepth 100000 in
theorem q1135 : (Jvm.Cond.code ({ cls := "OwnRain$World", name := "whereWas", desc := "(II)I" } : Jvm.MethodName) prog_12_method_14_code (4 : Nat) (Option.some Jvm.ClassFile.FieldType.int)) ∈ gtbl := gq 1135 rfl rfl
theorem q1136 : (Jvm.Cond.methodLink "OwnRainLaw" (97 : Nat) ({ cls := "OwnRain", name := "rained", desc := "(II)I" } : Jvm.MethodName)) ∈ gtbl := gq 1136 (by decide +kernel) rfl
theorem q1137 : (Jvm.Cond.instanceMethod ({ cls := "OwnRain", name := "rained", desc := "(II)I" } : Jvm.MethodName)) ∈ gtbl := gq 1137 (by decide +kernel) rfl
theorem q1138 : (Jvm.Cond.selects "OwnRain" ({ cls := "OwnRain", name := "rained", desc := "(II)I" } : Jvm.MethodName) ({ cls := "OwnRain", name := "rained", desc := "(II)I" } : Jvm.MethodName)) ∈ gtbl := gq 1138 (by decide +kernel) rfl
set_option maxRecDepth 100000 in
theorem q1139 : (Jvm.Cond.code ({ cls := "OwnRain", name := "rained", desc := "(II)I" } : Jvm.MethodName) prog_1_method_23_code (4 : Nat) (Option.some Jvm.ClassFile.FieldType.int)) ∈ gtbl := gq 1139 rfl rfl
theorem q1140 : (Jvm.Cond.methodLink "OwnRain" (286 : Nat) ({ cls := "OwnRain$World", name := "rainPerson", desc := "(I)I" } : Jvm.MethodName)) ∈ gtbl := gq 1140 (by decide +kernel) rfl
theorem q1141 : (Jvm.Cond.instanceMethod ({ cls := "OwnRain$World", name := "rainPerson", desc := "(I)I" } : Jvm.MethodName)) ∈ gtbl := gq 1141 (by decide +kernel) rfl
theorem q1142 : (Jvm.Cond.selects "OwnRain$World" ({ cls := "OwnRain$World", name := "rainPerson", desc := "(I)I" } : Jvm.MethodName) ({ cls := "OwnRain$World", name := "rainPerson", desc := "(I)I" } : Jvm.MethodName)) ∈ gtbl := gq 1142 (by decide +kernel) rfl
set_option maxRecDepth 100000 in
theorem q1143 : (Jvm.Cond.code ({ cls := "OwnRain$World", name := "rainPerson", desc := "(I)I" } : Jvm.MethodName) prog_12_method_11_code (2 : Nat) (Option.some Jvm.ClassFile.FieldType.int)) ∈ gtbl := gq 1143 rfl rfl
theorem q1144 : (Jvm.Cond.methodLink "OwnRain$World" (70 : Nat) ({ cls := "OwnRain$World", name := "rain", desc := "(I)I" } : Jvm.MethodName)) ∈ gtbl := gq 1144 (by decide +kernel) rfl
theorem q1146 : (Jvm.Cond.instanceMethod ({ cls := "OwnRain$World", name := "rain", desc := "(I)I" } : Jvm.MethodName)) ∈ gtbl := gq 1146 (by decide +kernel) rfl
set_option maxRecDepth 100000 in
theorem q1147 : (Jvm.Cond.code ({ cls := "OwnRain$World", name := "rain", desc := "(I)I" } : Jvm.MethodName) prog_12_method_8_code (2 : Nat) (Option.some Jvm.ClassFile.FieldType.int)) ∈ gtbl := gq 1147 rfl rfl
theorem q1148 : (Jvm.Cond.methodLink "OwnRain" (289 : Nat) ({ cls := "OwnRain$World", name := "rainHour", desc := "(I)I" } : Jvm.MethodName)) ∈ gtbl := gq 1148 (by decide +kernel) rfl
theorem q1149 : (Jvm.Cond.instanceMethod ({ cls := "OwnRain$World", name := "rainHour", desc := "(I)I" } : Jvm.MethodName)) ∈ gtbl := gq 1149 (by decide +kernel) rfl
theorem q1150 : (Jvm.Cond.selects "OwnRain$World" ({ cls := "OwnRain$World", name := "rainHour", desc := "(I)I" } : Jvm.MethodName) ({ cls := "OwnRain$World", name := "rainHour", desc := "(I)I" } : Jvm.MethodName)) ∈ gtbl := gq 1150 (by decide +kernel) rfl
set_option maxRecDepth 100000 in
theorem q1151 : (Jvm.Cond.code ({ cls := "OwnRain$World", name := "rainHour", desc := "(I)I" } : Jvm.MethodName) prog_12_method_12_code (2 : Nat) (Option.some Jvm.ClassFile.FieldType.int)) ∈ gtbl := gq 1151 rfl rfl
theorem q1152 : (Jvm.Cond.methodLink "OwnRain" (292 : Nat) ({ cls := "OwnRain$World", name := "rainField", desc := "(I)I" } : Jvm.MethodName)) ∈ gtbl := gq 1152 (by decide +kernel) rfl
theorem q1153 : (Jvm.Cond.instanceMethod ({ cls := "OwnRain$World", name := "rainField", desc := "(I)I" } : Jvm.MethodName)) ∈ gtbl := gq 1153 (by decide +kernel) rfl
theorem q1154 : (Jvm.Cond.selects "OwnRain$World" ({ cls := "OwnRain$World", name := "rainField", desc := "(I)I" } : Jvm.MethodName) ({ cls := "OwnRain$World", name := "rainField", desc := "(I)I" } : Jvm.MethodName)) ∈ gtbl := gq 1154 (by decide +kernel) rfl
set_option maxRecDepth 100000 in
theorem q1155 : (Jvm.Cond.code ({ cls := "OwnRain$World", name := "rainField", desc := "(I)I" } : Jvm.MethodName) prog_12_method_10_code (2 : Nat) (Option.some Jvm.ClassFile.FieldType.int)) ∈ gtbl := gq 1155 rfl rfl
theorem q1156 : (Jvm.Cond.methodLink "OwnRain" (295 : Nat) ({ cls := "OwnRain$World", name := "rainDrops", desc := "(I)I" } : Jvm.MethodName)) ∈ gtbl := gq 1156 (by decide +kernel) rfl
theorem q1157 : (Jvm.Cond.instanceMethod ({ cls := "OwnRain$World", name := "rainDrops", desc := "(I)I" } : Jvm.MethodName)) ∈ gtbl := gq 1157 (by decide +kernel) rfl
theorem q1158 : (Jvm.Cond.selects "OwnRain$World" ({ cls := "OwnRain$World", name := "rainDrops", desc := "(I)I" } : Jvm.MethodName) ({ cls := "OwnRain$World", name := "rainDrops", desc := "(I)I" } : Jvm.MethodName)) ∈ gtbl := gq 1158 (by decide +kernel) rfl
set_option maxRecDepth 100000 in
theorem q1159 : (Jvm.Cond.code ({ cls := "OwnRain$World", name := "rainDrops", desc := "(I)I" } : Jvm.MethodName) prog_12_method_9_code (2 : Nat) (Option.some Jvm.ClassFile.FieldType.int)) ∈ gtbl := gq 1159 rfl rfl
theorem q1160 : (Jvm.Cond.methodLink "OwnRainLaw" (101 : Nat) ({ cls := "OwnRain", name := "foretoldWet", desc := "(II)I" } : Jvm.MethodName)) ∈ gtbl := gq 1160 (by decide +kernel) rfl
theorem q1161 : (Jvm.Cond.instanceMethod ({ cls := "OwnRain", name := "foretoldWet", desc := "(II)I" } : Jvm.MethodName)) ∈ gtbl := gq 1161 (by decide +kernel) rfl
theorem q1162 : (Jvm.Cond.selects "OwnRain" ({ cls := "OwnRain", name := "foretoldWet", desc := "(II)I" } : Jvm.MethodName) ({ cls := "OwnRain", name := "foretoldWet", desc := "(II)I" } : Jvm.MethodName)) ∈ gtbl := gq 1162 (by decide +kernel) rfl
set_option maxRecDepth 100000 in
theorem q1163 : (Jvm.Cond.code ({ cls := "OwnRain", name := "foretoldWet", desc := "(II)I" } : Jvm.MethodName) prog_1_method_24_code (3 : Nat) (Option.some Jvm.ClassFile.FieldType.int)) ∈ gtbl := gq 1163 rfl rfl
theorem q1164 : (Jvm.Cond.methodLink "OwnRain" (298 : Nat) ({ cls := "OwnRain$Planner", name := "foretell", desc := "(I)LOwnRain$World;" } : Jvm.MethodName)) ∈ gtbl := gq 1164 (by decide +kernel) rfl
theorem q1165 : (Jvm.Cond.instanceMethod ({ cls := "OwnRain$Planner", name := "foretell", desc := "(I)LOwnRain$World;" } : Jvm.MethodName)) ∈ gtbl := gq 1165 (by decide +kernel) rfl
theorem q1166 : (Jvm.Cond.selects "OwnRain$Planner" ({ cls := "OwnRain$Planner", name := "foretell", desc := "(I)LOwnRain$World;" } : Jvm.MethodName) ({ cls := "OwnRain$Planner", name := "foretell", desc := "(I)LOwnRain$World;" } : Jvm.MethodName)) ∈ gtbl := gq 1166 (by decide +kernel) rfl
set_option maxRecDepth 100000 in
theorem q1167 : (Jvm.Cond.code ({ cls := "OwnRain$Planner", name := "foretell", desc := "(I)LOwnRain$World;" } : Jvm.MethodName) prog_4_method_3_code (4 : Nat) (Option.some (Jvm.ClassFile.FieldType.object "OwnRain$World"))) ∈ gtbl := gq 1167 rfl rfl
theorem q1168 : (Jvm.Cond.methodLink "OwnRain$Planner" (55 : Nat) ({ cls := "OwnRain$Planner", name := "freshWorld", desc := "()LOwnRain$World;" } : Jvm.MethodName)) ∈ gtbl := gq 1168 (by decide +kernel) rfl
theorem q1170 : (Jvm.Cond.instanceMethod ({ cls := "OwnRain$Planner", name := "freshWorld", desc := "()LOwnRain$World;" } : Jvm.MethodName)) ∈ gtbl := gq 1170 (by decide +kernel) rfl
set_option maxRecDepth 100000 in
theorem q1171 : (Jvm.Cond.code ({ cls := "OwnRain$Planner", name := "freshWorld", desc := "()LOwnRain$World;" } : Jvm.MethodName) prog_4_method_2_code (1 : Nat) (Option.some (Jvm.ClassFile.FieldType.object "OwnRain$World"))) ∈ gtbl := gq 1171 rfl rfl
theorem q1172 : (Jvm.Cond.methodLink "OwnRain$Planner" (51 : Nat) ({ cls := "OwnRain$World", name := "copyFrom", desc := "(LOwnRain$World;)V" } : Jvm.MethodName)) ∈ gtbl := gq 1172 (by decide +kernel) rfl
theorem q1173 : (Jvm.Cond.methodLink "OwnRain$Planner" (59 : Nat) ({ cls := "OwnRain$Weather", name := "pass", desc := "(LOwnRain$World;)I" } : Jvm.MethodName)) ∈ gtbl := gq 1173 (by decide +kernel) rfl
theorem q1174 : (Jvm.Cond.methodLink "OwnRainLaw" (105 : Nat) ({ cls := "OwnRain", name := "foretoldCloud", desc := "(IIZ)I" } : Jvm.MethodName)) ∈ gtbl := gq 1174 (by decide +kernel) rfl
theorem q1175 : (Jvm.Cond.instanceMethod ({ cls := "OwnRain", name := "foretoldCloud", desc := "(IIZ)I" } : Jvm.MethodName)) ∈ gtbl := gq 1175 (by decide +kernel) rfl
theorem q1176 : (Jvm.Cond.selects "OwnRain" ({ cls := "OwnRain", name := "foretoldCloud", desc := "(IIZ)I" } : Jvm.MethodName) ({ cls := "OwnRain", name := "foretoldCloud", desc := "(IIZ)I" } : Jvm.MethodName)) ∈ gtbl := gq 1176 (by decide +kernel) rfl
set_option maxRecDepth 100000 in
theorem q1177 : (Jvm.Cond.code ({ cls := "OwnRain", name := "foretoldCloud", desc := "(IIZ)I" } : Jvm.MethodName) prog_1_method_25_code (4 : Nat) (Option.some Jvm.ClassFile.FieldType.int)) ∈ gtbl := gq 1177 rfl rfl
theorem q1178 : (Jvm.Cond.methodLink "OwnRain" (302 : Nat) ({ cls := "OwnRain$Planner", name := "firstRain", desc := "(II)I" } : Jvm.MethodName)) ∈ gtbl := gq 1178 (by decide +kernel) rfl
theorem q1179 : (Jvm.Cond.instanceMethod ({ cls := "OwnRain$Planner", name := "firstRain", desc := "(II)I" } : Jvm.MethodName)) ∈ gtbl := gq 1179 (by decide +kernel) rfl
theorem q1180 : (Jvm.Cond.selects "OwnRain$Planner" ({ cls := "OwnRain$Planner", name := "firstRain", desc := "(II)I" } : Jvm.MethodName) ({ cls := "OwnRain$Planner", name := "firstRain", desc := "(II)I" } : Jvm.MethodName)) ∈ gtbl := gq 1180 (by decide +kernel) rfl
set_option maxRecDepth 100000 in
theorem q1181 : (Jvm.Cond.code ({ cls := "OwnRain$Planner", name := "firstRain", desc := "(II)I" } : Jvm.MethodName) prog_4_method_4_code (5 : Nat) (Option.some Jvm.ClassFile.FieldType.int)) ∈ gtbl := gq 1181 rfl rfl
theorem q1183 : (Jvm.Cond.static ({ cls := "OwnRain", name := "isOf", desc := "(II)Z" } : Jvm.MethodName)) ∈ gtbl := gq 1183 (by decide +kernel) rfl
set_option maxRecDepth 100000 in
theorem q1184 : (Jvm.Cond.code ({ cls := "OwnRain", name := "isOf", desc := "(II)Z" } : Jvm.MethodName) prog_1_method_51_code (2 : Nat) (Option.some Jvm.ClassFile.FieldType.boolean)) ∈ gtbl := gq 1184 rfl rfl
theorem q1185 : (Jvm.Cond.methodLink "OwnRainLaw" (110 : Nat) ({ cls := "OwnRain", name := "plan", desc := "(III)I" } : Jvm.MethodName)) ∈ gtbl := gq 1185 (by decide +kernel) rfl
theorem q1186 : (Jvm.Cond.instanceMethod ({ cls := "OwnRain", name := "plan", desc := "(III)I" } : Jvm.MethodName)) ∈ gtbl := gq 1186 (by decide +kernel) rfl
theorem q1187 : (Jvm.Cond.selects "OwnRain" ({ cls := "OwnRain", name := "plan", desc := "(III)I" } : Jvm.MethodName) ({ cls := "OwnRain", name := "plan", desc := "(III)I" } : Jvm.MethodName)) ∈ gtbl := gq 1187 (by decide +kernel) rfl
set_option maxRecDepth 100000 in
theorem q1188 : (Jvm.Cond.code ({ cls := "OwnRain", name := "plan", desc := "(III)I" } : Jvm.MethodName) prog_1_method_26_code (4 : Nat) (Option.some Jvm.ClassFile.FieldType.int)) ∈ gtbl := gq 1188 rfl rfl
theorem q1189 : (Jvm.Cond.methodLink "OwnRain" (305 : Nat) ({ cls := "OwnRain$Planner", name := "planWork", desc := "(II)V" } : Jvm.MethodName)) ∈ gtbl := gq 1189 (by decide +kernel) rfl
theorem q1190 : (Jvm.Cond.instanceMethod ({ cls := "OwnRain$Planner", name := "planWork", desc := "(II)V" } : Jvm.MethodName)) ∈ gtbl := gq 1190 (by decide +kernel) rfl
theorem q1191 : (Jvm.Cond.selects "OwnRain$Planner" ({ cls := "OwnRain$Planner", name := "planWork", desc := "(II)V" } : Jvm.MethodName) ({ cls := "OwnRain$Planner", name := "planWork", desc := "(II)V" } : Jvm.MethodName)) ∈ gtbl := gq 1191 (by decide +kernel) rfl
set_option maxRecDepth 100000 in
theorem q1192 : (Jvm.Cond.code ({ cls := "OwnRain$Planner", name := "planWork", desc := "(II)V" } : Jvm.MethodName) prog_4_method_5_code (3 : Nat) (Option.none : Option Jvm.ClassFile.FieldType)) ∈ gtbl := gq 1192 rfl rfl
theorem q1193 : (Jvm.Cond.methodLink "OwnRain$Planner" (76 : Nat) ({ cls := "OwnRain$Planner", name := "tryWork", desc := "(IIIIZ)V" } : Jvm.MethodName)) ∈ gtbl := gq 1193 (by decide +kernel) rfl
theorem q1195 : (Jvm.Cond.instanceMethod ({ cls := "OwnRain$Planner", name := "tryWork", desc := "(IIIIZ)V" } : Jvm.MethodName)) ∈ gtbl := gq 1195 (by decide +kernel) rfl
set_option maxRecDepth 100000 in
theorem q1196 : (Jvm.Cond.code ({ cls := "OwnRain$Planner", name := "tryWork", desc := "(IIIIZ)V" } : Jvm.MethodName) prog_4_method_6_code (11 : Nat) (Option.none : Option Jvm.ClassFile.FieldType)) ∈ gtbl := gq 1196 rfl rfl
theorem q1197 : (Jvm.Cond.methodLink "OwnRain$Planner" (80 : Nat) ({ cls := "java/lang/System", name := "arraycopy", desc := "(Ljava/lang/Object;ILjava/lang/Object;II)V" } : Jvm.MethodName)) ∈ gtbl := gq 1197 (by decide +kernel) rfl
theorem q1198 : (Jvm.Cond.methodLink "OwnRainLaw" (114 : Nat) ({ cls := "OwnRain", name := "match", desc := "(III)I" } : Jvm.MethodName)) ∈ gtbl := gq 1198 (by decide +kernel) rfl
theorem q1199 : (Jvm.Cond.instanceMethod ({ cls := "OwnRain", name := "match", desc := "(III)I" } : Jvm.MethodName)) ∈ gtbl := gq 1199 (by decide +kernel) rfl
theorem q1200 : (Jvm.Cond.selects "OwnRain" ({ cls := "OwnRain", name := "match", desc := "(III)I" } : Jvm.MethodName) ({ cls := "OwnRain", name := "match", desc := "(III)I" } : Jvm.MethodName)) ∈ gtbl := gq 1200 (by decide +kernel) rfl
set_option maxRecDepth 100000 in
theorem q1201 : (Jvm.Cond.code ({ cls := "OwnRain", name := "match", desc := "(III)I" } : Jvm.MethodName) prog_1_method_27_code (6 : Nat) (Option.some Jvm.ClassFile.FieldType.int)) ∈ gtbl := gq 1201 rfl rfl
theorem q1202 : (Jvm.Cond.methodLink "OwnRain" (314 : Nat) ({ cls := "java/lang/Integer", name := "bitCount", desc := "(I)I" } : Jvm.MethodName)) ∈ gtbl := gq 1202 (by decide +kernel) rfl
theorem q1203 : (Jvm.Cond.methodLink "OwnRain" (319 : Nat) ({ cls := "OwnRain", name := "isSet", desc := "(II)Z" } : Jvm.MethodName)) ∈ gtbl := gq 1203 (by decide +kernel) rfl
theorem q1204 : (Jvm.Cond.static ({ cls := "OwnRain", name := "isSet", desc := "(II)Z" } : Jvm.MethodName)) ∈ gtbl := gq 1204 (by decide +kernel) rfl
set_option maxRecDepth 100000 in
theorem q1205 : (Jvm.Cond.code ({ cls := "OwnRain", name := "isSet", desc := "(II)Z" } : Jvm.MethodName) prog_1_method_50_code (2 : Nat) (Option.some Jvm.ClassFile.FieldType.boolean)) ∈ gtbl := gq 1205 rfl rfl
theorem q1206 : (Jvm.Cond.methodLink "OwnRain" (322 : Nat) ({ cls := "OwnRain$Planner", name := "assign", desc := "(II)I" } : Jvm.MethodName)) ∈ gtbl := gq 1206 (by decide +kernel) rfl
theorem q1207 : (Jvm.Cond.instanceMethod ({ cls := "OwnRain$Planner", name := "assign", desc := "(II)I" } : Jvm.MethodName)) ∈ gtbl := gq 1207 (by decide +kernel) rfl
theorem q1208 : (Jvm.Cond.selects "OwnRain$Planner" ({ cls := "OwnRain$Planner", name := "assign", desc := "(II)I" } : Jvm.MethodName) ({ cls := "OwnRain$Planner", name := "assign", desc := "(II)I" } : Jvm.MethodName)) ∈ gtbl := gq 1208 (by decide +kernel) rfl
set_option maxRecDepth 100000 in
theorem q1209 : (Jvm.Cond.code ({ cls := "OwnRain$Planner", name := "assign", desc := "(II)I" } : Jvm.MethodName) prog_4_method_9_code (5 : Nat) (Option.some Jvm.ClassFile.FieldType.int)) ∈ gtbl := gq 1209 rfl rfl
theorem q1210 : (Jvm.Cond.methodLink "OwnRain$Planner" (125 : Nat) ({ cls := "OwnRain$Planner", name := "sweatAt", desc := "(II)I" } : Jvm.MethodName)) ∈ gtbl := gq 1210 (by decide +kernel) rfl
theorem q1212 : (Jvm.Cond.instanceMethod ({ cls := "OwnRain$Planner", name := "sweatAt", desc := "(II)I" } : Jvm.MethodName)) ∈ gtbl := gq 1212 (by decide +kernel) rfl
set_option maxRecDepth 100000 in
theorem q1213 : (Jvm.Cond.code ({ cls := "OwnRain$Planner", name := "sweatAt", desc := "(II)I" } : Jvm.MethodName) prog_4_method_10_code (5 : Nat) (Option.some Jvm.ClassFile.FieldType.int)) ∈ gtbl := gq 1213 rfl rfl
theorem q1214 : (Jvm.Cond.methodLink "OwnRain$Planner" (136 : Nat) ({ cls := "OwnRain$Weather", name := "sweatOf", desc := "(LOwnRain$World;I)I" } : Jvm.MethodName)) ∈ gtbl := gq 1214 (by decide +kernel) rfl
theorem q1215 : (Jvm.Cond.methodLink "OwnRain$Planner" (129 : Nat) ({ cls := "OwnRain$Planner", name := "mostBeyond", desc := "(III)I" } : Jvm.MethodName)) ∈ gtbl := gq 1215 (by decide +kernel) rfl
theorem q1217 : (Jvm.Cond.instanceMethod ({ cls := "OwnRain$Planner", name := "mostBeyond", desc := "(III)I" } : Jvm.MethodName)) ∈ gtbl := gq 1217 (by decide +kernel) rfl
set_option maxRecDepth 100000 in
theorem q1218 : (Jvm.Cond.code ({ cls := "OwnRain$Planner", name := "mostBeyond", desc := "(III)I" } : Jvm.MethodName) prog_4_method_11_code (7 : Nat) (Option.some Jvm.ClassFile.FieldType.int)) ∈ gtbl := gq 1218 rfl rfl
theorem q1219 : (Jvm.Cond.methodLink "OwnRain$Planner" (140 : Nat) ({ cls := "java/lang/Integer", name := "bitCount", desc := "(I)I" } : Jvm.MethodName)) ∈ gtbl := gq 1219 (by decide +kernel) rfl
theorem q1220 : (Jvm.Cond.methodLink "OwnRain$Planner" (146 : Nat) ({ cls := "OwnRain$Planner", name := "nextOf", desc := "(II)I" } : Jvm.MethodName)) ∈ gtbl := gq 1220 (by decide +kernel) rfl
theorem q1221 : (Jvm.Cond.static ({ cls := "OwnRain$Planner", name := "nextOf", desc := "(II)I" } : Jvm.MethodName)) ∈ gtbl := gq 1221 (by decide +kernel) rfl
set_option maxRecDepth 100000 in
theorem q1222 : (Jvm.Cond.code ({ cls := "OwnRain$Planner", name := "nextOf", desc := "(II)I" } : Jvm.MethodName) prog_4_method_12_code (4 : Nat) (Option.some Jvm.ClassFile.FieldType.int)) ∈ gtbl := gq 1222 rfl rfl
theorem q1223 : (Jvm.Cond.methodLink "OwnRain$Planner" (149 : Nat) ({ cls := "java/lang/Math", name := "max", desc := "(II)I" } : Jvm.MethodName)) ∈ gtbl := gq 1223 (by decide +kernel) rfl
theorem q1224 : (Jvm.Cond.methodLink "OwnRain$Planner" (133 : Nat) ({ cls := "OwnRain$Planner", name := "lowestPlace", desc := "(III)I" } : Jvm.MethodName)) ∈ gtbl := gq 1224 (by decide +kernel) rfl
theorem q1226 : (Jvm.Cond.instanceMethod ({ cls := "OwnRain$Planner", name := "lowestPlace", desc := "(III)I" } : Jvm.MethodName)) ∈ gtbl := gq 1226 (by decide +kernel) rfl
set_option maxRecDepth 100000 in
theorem q1227 : (Jvm.Cond.code ({ cls := "OwnRain$Planner", name := "lowestPlace", desc := "(III)I" } : Jvm.MethodName) prog_4_method_13_code (5 : Nat) (Option.some Jvm.ClassFile.FieldType.int)) ∈ gtbl := gq 1227 rfl rfl
theorem q1228 : (Jvm.Cond.methodLink "OwnRain" (325 : Nat) ({ cls := "OwnRain", name := "isOf", desc := "(II)Z" } : Jvm.MethodName)) ∈ gtbl := gq 1228 (by decide +kernel) rfl
theorem q1229 : (Jvm.Cond.methodLink "OwnRainLaw" (118 : Nat) ({ cls := "OwnRain", name := "shares", desc := "(III)I" } : Jvm.MethodName)) ∈ gtbl := gq 1229 (by decide +kernel) rfl
theorem q1230 : (Jvm.Cond.instanceMethod ({ cls := "OwnRain", name := "shares", desc := "(III)I" } : Jvm.MethodName)) ∈ gtbl := gq 1230 (by decide +kernel) rfl
theorem q1231 : (Jvm.Cond.selects "OwnRain" ({ cls := "OwnRain", name := "shares", desc := "(III)I" } : Jvm.MethodName) ({ cls := "OwnRain", name := "shares", desc := "(III)I" } : Jvm.MethodName)) ∈ gtbl := gq 1231 (by decide +kernel) rfl
set_option maxRecDepth 100000 in
theorem q1232 : (Jvm.Cond.code ({ cls := "OwnRain", name := "shares", desc := "(III)I" } : Jvm.MethodName) prog_1_method_28_code (11 : Nat) (Option.some Jvm.ClassFile.FieldType.int)) ∈ gtbl := gq 1232 rfl rfl
theorem q1233 : (Jvm.Cond.methodLink "OwnRainLaw" (122 : Nat) ({ cls := "OwnRain", name := "cross", desc := "(IIII)I" } : Jvm.MethodName)) ∈ gtbl := gq 1233 (by decide +kernel) rfl
theorem q1234 : (Jvm.Cond.instanceMethod ({ cls := "OwnRain", name := "cross", desc := "(IIII)I" } : Jvm.MethodName)) ∈ gtbl := gq 1234 (by decide +kernel) rfl
theorem q1235 : (Jvm.Cond.selects "OwnRain" ({ cls := "OwnRain", name := "cross", desc := "(IIII)I" } : Jvm.MethodName) ({ cls := "OwnRain", name := "cross", desc := "(IIII)I" } : Jvm.MethodName)) ∈ gtbl := gq 1235 (by decide +kernel) rfl
set_option maxRecDepth 100000 in
theorem q1236 : (Jvm.Cond.code ({ cls := "OwnRain", name := "cross", desc := "(IIII)I" } : Jvm.MethodName) prog_1_method_29_code (6 : Nat) (Option.some Jvm.ClassFile.FieldType.int)) ∈ gtbl := gq 1236 rfl rfl
theorem q1237 : (Jvm.Cond.methodLink "OwnRain" (331 : Nat) ({ cls := "OwnRain$Ways", name := "measure", desc := "(II)V" } : Jvm.MethodName)) ∈ gtbl := gq 1237 (by decide +kernel) rfl
theorem q1238 : (Jvm.Cond.instanceMethod ({ cls := "OwnRain$Ways", name := "measure", desc := "(II)V" } : Jvm.MethodName)) ∈ gtbl := gq 1238 (by decide +kernel) rfl
theorem q1239 : (Jvm.Cond.selects "OwnRain$Ways" ({ cls := "OwnRain$Ways", name := "measure", desc := "(II)V" } : Jvm.MethodName) ({ cls := "OwnRain$Ways", name := "measure", desc := "(II)V" } : Jvm.MethodName)) ∈ gtbl := gq 1239 (by decide +kernel) rfl
set_option maxRecDepth 100000 in
theorem q1240 : (Jvm.Cond.code ({ cls := "OwnRain$Ways", name := "measure", desc := "(II)V" } : Jvm.MethodName) prog_10_method_2_code (6 : Nat) (Option.none : Option Jvm.ClassFile.FieldType)) ∈ gtbl := gq 1240 rfl rfl
theorem q1241 : (Jvm.Cond.methodLink "OwnRain$Ways" (34 : Nat) ({ cls := "OwnRain$Ways", name := "nextField", desc := "(III)I" } : Jvm.MethodName)) ∈ gtbl := gq 1241 (by decide +kernel) rfl
theorem q1243 : (Jvm.Cond.instanceMethod ({ cls := "OwnRain$Ways", name := "nextField", desc := "(III)I" } : Jvm.MethodName)) ∈ gtbl := gq 1243 (by decide +kernel) rfl
set_option maxRecDepth 100000 in
theorem q1244 : (Jvm.Cond.code ({ cls := "OwnRain$Ways", name := "nextField", desc := "(III)I" } : Jvm.MethodName) prog_10_method_3_code (5 : Nat) (Option.some Jvm.ClassFile.FieldType.int)) ∈ gtbl := gq 1244 rfl rfl
theorem q1245 : (Jvm.Cond.methodLink "OwnRain$Ways" (38 : Nat) ({ cls := "OwnRain$Land", name := "hasRoad", desc := "(II)Z" } : Jvm.MethodName)) ∈ gtbl := gq 1245 (by decide +kernel) rfl
theorem q1246 : (Jvm.Cond.methodLink "OwnRain" (337 : Nat) ({ cls := "OwnRain$Ways", name := "comeTo", desc := "(III)I" } : Jvm.MethodName)) ∈ gtbl := gq 1246 (by decide +kernel) rfl
theorem q1247 : (Jvm.Cond.instanceMethod ({ cls := "OwnRain$Ways", name := "comeTo", desc := "(III)I" } : Jvm.MethodName)) ∈ gtbl := gq 1247 (by decide +kernel) rfl
theorem q1248 : (Jvm.Cond.selects "OwnRain$Ways" ({ cls := "OwnRain$Ways", name := "comeTo", desc := "(III)I" } : Jvm.MethodName) ({ cls := "OwnRain$Ways", name := "comeTo", desc := "(III)I" } : Jvm.MethodName)) ∈ gtbl := gq 1248 (by decide +kernel) rfl
set_option maxRecDepth 100000 in
theorem q1249 : (Jvm.Cond.code ({ cls := "OwnRain$Ways", name := "comeTo", desc := "(III)I" } : Jvm.MethodName) prog_10_method_4_code (6 : Nat) (Option.some Jvm.ClassFile.FieldType.int)) ∈ gtbl := gq 1249 rfl rfl
theorem q1250 : (Jvm.Cond.methodLink "OwnRainLaw" (126 : Nat) ({ cls := "OwnRain", name := "widest", desc := "(II)I" } : Jvm.MethodName)) ∈ gtbl := gq 1250 (by decide +kernel) rfl
theorem q1251 : (Jvm.Cond.instanceMethod ({ cls := "OwnRain", name := "widest", desc := "(II)I" } : Jvm.MethodName)) ∈ gtbl := gq 1251 (by decide +kernel) rfl
theorem q1252 : (Jvm.Cond.selects "OwnRain" ({ cls := "OwnRain", name := "widest", desc := "(II)I" } : Jvm.MethodName) ({ cls := "OwnRain", name := "widest", desc := "(II)I" } : Jvm.MethodName)) ∈ gtbl := gq 1252 (by decide +kernel) rfl
set_option maxRecDepth 100000 in
theorem q1253 : (Jvm.Cond.code ({ cls := "OwnRain", name := "widest", desc := "(II)I" } : Jvm.MethodName) prog_1_method_30_code (3 : Nat) (Option.some Jvm.ClassFile.FieldType.int)) ∈ gtbl := gq 1253 rfl rfl
theorem q1254 : (Jvm.Cond.methodLink "OwnRain" (340 : Nat) ({ cls := "OwnRain$Ways", name := "width", desc := "(II)I" } : Jvm.MethodName)) ∈ gtbl := gq 1254 (by decide +kernel) rfl
theorem q1255 : (Jvm.Cond.instanceMethod ({ cls := "OwnRain$Ways", name := "width", desc := "(II)I" } : Jvm.MethodName)) ∈ gtbl := gq 1255 (by decide +kernel) rfl
theorem q1256 : (Jvm.Cond.selects "OwnRain$Ways" ({ cls := "OwnRain$Ways", name := "width", desc := "(II)I" } : Jvm.MethodName) ({ cls := "OwnRain$Ways", name := "width", desc := "(II)I" } : Jvm.MethodName)) ∈ gtbl := gq 1256 (by decide +kernel) rfl
set_option maxRecDepth 100000 in
theorem q1257 : (Jvm.Cond.code ({ cls := "OwnRain$Ways", name := "width", desc := "(II)I" } : Jvm.MethodName) prog_10_method_5_code (6 : Nat) (Option.some Jvm.ClassFile.FieldType.int)) ∈ gtbl := gq 1257 rfl rfl
theorem q1258 : (Jvm.Cond.methodLink "OwnRain$Ways" (51 : Nat) ({ cls := "OwnRain$Ways", name := "widen", desc := "(I)V" } : Jvm.MethodName)) ∈ gtbl := gq 1258 (by decide +kernel) rfl
theorem q1260 : (Jvm.Cond.instanceMethod ({ cls := "OwnRain$Ways", name := "widen", desc := "(I)V" } : Jvm.MethodName)) ∈ gtbl := gq 1260 (by decide +kernel) rfl
set_option maxRecDepth 100000 in
theorem q1261 : (Jvm.Cond.code ({ cls := "OwnRain$Ways", name := "widen", desc := "(I)V" } : Jvm.MethodName) prog_10_method_6_code (3 : Nat) (Option.none : Option Jvm.ClassFile.FieldType)) ∈ gtbl := gq 1261 rfl rfl
theorem q1262 : (Jvm.Cond.methodLink "OwnRain$Ways" (55 : Nat) ({ cls := "java/lang/Math", name := "min", desc := "(II)I" } : Jvm.MethodName)) ∈ gtbl := gq 1262 (by decide +kernel) rfl
theorem q1263 : (Jvm.Cond.methodLink "OwnRain$Ways" (61 : Nat) ({ cls := "java/lang/Math", name := "max", desc := "(II)I" } : Jvm.MethodName)) ∈ gtbl := gq 1263 (by decide +kernel) rfl
theorem q1264 : (Jvm.Cond.methodLink "OwnRainLaw" (130 : Nat) ({ cls := "OwnRain", name := "missing", desc := "(III)I" } : Jvm.MethodName)) ∈ gtbl := gq 1264 (by decide +kernel) rfl
theorem q1265 : (Jvm.Cond.instanceMethod ({ cls := "OwnRain", name := "missing", desc := "(III)I" } : Jvm.MethodName)) ∈ gtbl := gq 1265 (by decide +kernel) rfl
theorem q1266 : (Jvm.Cond.selects "OwnRain" ({ cls := "OwnRain", name := "missing", desc := "(III)I" } : Jvm.MethodName) ({ cls := "OwnRain", name := "missing", desc := "(III)I" } : Jvm.MethodName)) ∈ gtbl := gq 1266 (by decide +kernel) rfl
set_option maxRecDepth 100000 in
theorem q1267 : (Jvm.Cond.code ({ cls := "OwnRain", name := "missing", desc := "(III)I" } : Jvm.MethodName) prog_1_method_31_code (5 : Nat) (Option.some Jvm.ClassFile.FieldType.int)) ∈ gtbl := gq 1267 rfl rfl
theorem q1268 : (Jvm.Cond.methodLink "OwnRain" (352 : Nat) ({ cls := "OwnRain$Lists", name := "addMissing", desc := "(III)I" } : Jvm.MethodName)) ∈ gtbl := gq 1268 (by decide +kernel) rfl
theorem q1269 : (Jvm.Cond.instanceMethod ({ cls := "OwnRain$Lists", name := "addMissing", desc := "(III)I" } : Jvm.MethodName)) ∈ gtbl := gq 1269 (by decide +kernel) rfl
theorem q1270 : (Jvm.Cond.selects "OwnRain$Lists" ({ cls := "OwnRain$Lists", name := "addMissing", desc := "(III)I" } : Jvm.MethodName) ({ cls := "OwnRain$Lists", name := "addMissing", desc := "(III)I" } : Jvm.MethodName)) ∈ gtbl := gq 1270 (by decide +kernel) rfl
set_option maxRecDepth 100000 in
theorem q1271 : (Jvm.Cond.code ({ cls := "OwnRain$Lists", name := "addMissing", desc := "(III)I" } : Jvm.MethodName) prog_3_method_2_code (4 : Nat) (Option.some Jvm.ClassFile.FieldType.int)) ∈ gtbl := gq 1271 rfl rfl
theorem q1272 : (Jvm.Cond.methodLink "OwnRainLaw" (134 : Nat) ({ cls := "OwnRain", name := "near", desc := "(I)I" } : Jvm.MethodName)) ∈ gtbl := gq 1272 (by decide +kernel) rfl
theorem q1273 : (Jvm.Cond.instanceMethod ({ cls := "OwnRain", name := "near", desc := "(I)I" } : Jvm.MethodName)) ∈ gtbl := gq 1273 (by decide +kernel) rfl
theorem q1274 : (Jvm.Cond.selects "OwnRain" ({ cls := "OwnRain", name := "near", desc := "(I)I" } : Jvm.MethodName) ({ cls := "OwnRain", name := "near", desc := "(I)I" } : Jvm.MethodName)) ∈ gtbl := gq 1274 (by decide +kernel) rfl
set_option maxRecDepth 100000 in
theorem q1275 : (Jvm.Cond.code ({ cls := "OwnRain", name := "near", desc := "(I)I" } : Jvm.MethodName) prog_1_method_32_code (4 : Nat) (Option.some Jvm.ClassFile.FieldType.int)) ∈ gtbl := gq 1275 rfl rfl
theorem q1276 : (Jvm.Cond.methodLink "OwnRain" (355 : Nat) ({ cls := "OwnRain", name := "nearOnes", desc := "(I)I" } : Jvm.MethodName)) ∈ gtbl := gq 1276 (by decide +kernel) rfl
theorem q1278 : (Jvm.Cond.instanceMethod ({ cls := "OwnRain", name := "nearOnes", desc := "(I)I" } : Jvm.MethodName)) ∈ gtbl := gq 1278 (by decide +kernel) rfl
set_option maxRecDepth 100000 in
theorem q1279 : (Jvm.Cond.code ({ cls := "OwnRain", name := "nearOnes", desc := "(I)I" } : Jvm.MethodName) prog_1_method_33_code (10 : Nat) (Option.some Jvm.ClassFile.FieldType.int)) ∈ gtbl := gq 1279 rfl rfl
theorem q1280 : (Jvm.Cond.methodLink "OwnRainLaw" (138 : Nat) ({ cls := "OwnRain", name := "thieves", desc := "()I" } : Jvm.MethodName)) ∈ gtbl := gq 1280 (by decide +kernel) rfl
theorem q1281 : (Jvm.Cond.instanceMethod ({ cls := "OwnRain", name := "thieves", desc := "()I" } : Jvm.MethodName)) ∈ gtbl := gq 1281 (by decide +kernel) rfl
theorem q1282 : (Jvm.Cond.selects "OwnRain" ({ cls := "OwnRain", name := "thieves", desc := "()I" } : Jvm.MethodName) ({ cls := "OwnRain", name := "thieves", desc := "()I" } : Jvm.MethodName)) ∈ gtbl := gq 1282 (by decide +kernel) rfl
set_option maxRecDepth 100000 in
theorem q1283 : (Jvm.Cond.code ({ cls := "OwnRain", name := "thieves", desc := "()I" } : Jvm.MethodName) prog_1_method_34_code (6 : Nat) (Option.some Jvm.ClassFile.FieldType.int)) ∈ gtbl := gq 1283 rfl rfl
theorem q1284 : (Jvm.Cond.methodLink "OwnRainLaw" (142 : Nat) ({ cls := "OwnRain", name := "filling", desc := "(IIIIIZ)J" } : Jvm.MethodName)) ∈ gtbl := gq 1284 (by decide +kernel) rfl
theorem q1285 : (Jvm.Cond.instanceMethod ({ cls := "OwnRain", name := "filling", desc := "(IIIIIZ)J" } : Jvm.MethodName)) ∈ gtbl := gq 1285 (by decide +kernel) rfl
theorem q1286 : (Jvm.Cond.selects "OwnRain" ({ cls := "OwnRain", name := "filling", desc := "(IIIIIZ)J" } : Jvm.MethodName) ({ cls := "OwnRain", name := "filling", desc := "(IIIIIZ)J" } : Jvm.MethodName)) ∈ gtbl := gq 1286 (by decide +kernel) rfl
set_option maxRecDepth 100000 in
theorem q1287 : (Jvm.Cond.code ({ cls := "OwnRain", name := "filling", desc := "(IIIIIZ)J" } : Jvm.MethodName) prog_1_method_35_code (15 : Nat) (Option.some Jvm.ClassFile.FieldType.long)) ∈ gtbl := gq 1287 rfl rfl
theorem q1288 : (Jvm.Cond.constantLong "OwnRain" (367 : Nat) (-1 : Int64)) ∈ gtbl := gq 1288 (by decide +kernel) rfl
theorem q1289 : (Jvm.Cond.methodLink "OwnRain" (369 : Nat) ({ cls := "OwnRain", name := "hotHours", desc := "(II)[J" } : Jvm.MethodName)) ∈ gtbl := gq 1289 (by decide +kernel) rfl
theorem q1290 : (Jvm.Cond.static ({ cls := "OwnRain", name := "hotHours", desc := "(II)[J" } : Jvm.MethodName)) ∈ gtbl := gq 1290 (by decide +kernel) rfl
set_option maxRecDepth 100000 in
theorem q1291 : (Jvm.Cond.code ({ cls := "OwnRain", name := "hotHours", desc := "(II)[J" } : Jvm.MethodName) prog_1_method_36_code (5 : Nat) (Option.some (Jvm.ClassFile.FieldType.array Jvm.ClassFile.FieldType.long))) ∈ gtbl := gq 1291 rfl rfl
theorem q1292 : (Jvm.Cond.methodLink "OwnRain" (373 : Nat) ({ cls := "OwnRain", name := "commonDivisor", desc := "(JJ)J" } : Jvm.MethodName)) ∈ gtbl := gq 1292 (by decide +kernel) rfl
theorem q1293 : (Jvm.Cond.static ({ cls := "OwnRain", name := "commonDivisor", desc := "(JJ)J" } : Jvm.MethodName)) ∈ gtbl := gq 1293 (by decide +kernel) rfl
set_option maxRecDepth 100000 in
theorem q1294 : (Jvm.Cond.code ({ cls := "OwnRain", name := "commonDivisor", desc := "(JJ)J" } : Jvm.MethodName) prog_1_method_37_code (11 : Nat) (Option.some Jvm.ClassFile.FieldType.long)) ∈ gtbl := gq 1294 rfl rfl
theorem q1295 : (Jvm.Cond.arrayClass Jvm.ClassFile.FieldType.long) ∈ gtbl := gq 1295 (by decide +kernel) rfl
theorem q1296 : (Jvm.Cond.methodLink "OwnRainLaw" (147 : Nat) ({ cls := "OwnRain", name := "forecast", desc := "(IZ)I" } : Jvm.MethodName)) ∈ gtbl := gq 1296 (by decide +kernel) rfl
theorem q1297 : (Jvm.Cond.instanceMethod ({ cls := "OwnRain", name := "forecast", desc := "(IZ)I" } : Jvm.MethodName)) ∈ gtbl := gq 1297 (by decide +kernel) rfl
theorem q1298 : (Jvm.Cond.selects "OwnRain" ({ cls := "OwnRain", name := "forecast", desc := "(IZ)I" } : Jvm.MethodName) ({ cls := "OwnRain", name := "forecast", desc := "(IZ)I" } : Jvm.MethodName)) ∈ gtbl := gq 1298 (by decide +kernel) rfl
set_option maxRecDepth 100000 in
theorem q1299 : (Jvm.Cond.code ({ cls := "OwnRain", name := "forecast", desc := "(IZ)I" } : Jvm.MethodName) prog_1_method_38_code (4 : Nat) (Option.some Jvm.ClassFile.FieldType.int)) ∈ gtbl := gq 1299 rfl rfl
theorem q1300 : (Jvm.Cond.methodLink "OwnRain" (380 : Nat) ({ cls := "OwnRain$Lists", name := "addForecast", desc := "(IZ)I" } : Jvm.MethodName)) ∈ gtbl := gq 1300 (by decide +kernel) rfl
theorem q1301 : (Jvm.Cond.instanceMethod ({ cls := "OwnRain$Lists", name := "addForecast", desc := "(IZ)I" } : Jvm.MethodName)) ∈ gtbl := gq 1301 (by decide +kernel) rfl
theorem q1302 : (Jvm.Cond.selects "OwnRain$Lists" ({ cls := "OwnRain$Lists", name := "addForecast", desc := "(IZ)I" } : Jvm.MethodName) ({ cls := "OwnRain$Lists", name := "addForecast", desc := "(IZ)I" } : Jvm.MethodName)) ∈ gtbl := gq 1302 (by decide +kernel) rfl
set_option maxRecDepth 100000 in
theorem q1303 : (Jvm.Cond.code ({ cls := "OwnRain$Lists", name := "addForecast", desc := "(IZ)I" } : Jvm.MethodName) prog_3_method_3_code (3 : Nat) (Option.some Jvm.ClassFile.FieldType.int)) ∈ gtbl := gq 1303 rfl rfl
theorem q1304 : (Jvm.Cond.methodLink "OwnRainLaw" (152 : Nat) ({ cls := "OwnRain", name := "errors", desc := "(IZ)I" } : Jvm.MethodName)) ∈ gtbl := gq 1304 (by decide +kernel) rfl
theorem q1305 : (Jvm.Cond.instanceMethod ({ cls := "OwnRain", name := "errors", desc := "(IZ)I" } : Jvm.MethodName)) ∈ gtbl := gq 1305 (by decide +kernel) rfl
theorem q1306 : (Jvm.Cond.selects "OwnRain" ({ cls := "OwnRain", name := "errors", desc := "(IZ)I" } : Jvm.MethodName) ({ cls := "OwnRain", name := "errors", desc := "(IZ)I" } : Jvm.MethodName)) ∈ gtbl := gq 1306 (by decide +kernel) rfl
set_option maxRecDepth 100000 in
theorem q1307 : (Jvm.Cond.code ({ cls := "OwnRain", name := "errors", desc := "(IZ)I" } : Jvm.MethodName) prog_1_method_39_code (3 : Nat) (Option.some Jvm.ClassFile.FieldType.int)) ∈ gtbl := gq 1307 rfl rfl
theorem q1308 : (Jvm.Cond.methodLink "OwnRain" (384 : Nat) ({ cls := "OwnRain$Lists", name := "misses", desc := "(I)I" } : Jvm.MethodName)) ∈ gtbl := gq 1308 (by decide +kernel) rfl
theorem q1309 : (Jvm.Cond.instanceMethod ({ cls := "OwnRain$Lists", name := "misses", desc := "(I)I" } : Jvm.MethodName)) ∈ gtbl := gq 1309 (by decide +kernel) rfl
theorem q1310 : (Jvm.Cond.selects "OwnRain$Lists" ({ cls := "OwnRain$Lists", name := "misses", desc := "(I)I" } : Jvm.MethodName) ({ cls := "OwnRain$Lists", name := "misses", desc := "(I)I" } : Jvm.MethodName)) ∈ gtbl := gq 1310 (by decide +kernel) rfl
set_option maxRecDepth 100000 in
theorem q1311 : (Jvm.Cond.code ({ cls := "OwnRain$Lists", name := "misses", desc := "(I)I" } : Jvm.MethodName) prog_3_method_5_code (4 : Nat) (Option.some Jvm.ClassFile.FieldType.int)) ∈ gtbl := gq 1311 rfl rfl
theorem q1312 : (Jvm.Cond.methodLink "OwnRain" (387 : Nat) ({ cls := "OwnRain$Lists", name := "falseAlarms", desc := "(I)I" } : Jvm.MethodName)) ∈ gtbl := gq 1312 (by decide +kernel) rfl
theorem q1313 : (Jvm.Cond.instanceMethod ({ cls := "OwnRain$Lists", name := "falseAlarms", desc := "(I)I" } : Jvm.MethodName)) ∈ gtbl := gq 1313 (by decide +kernel) rfl
theorem q1314 : (Jvm.Cond.selects "OwnRain$Lists" ({ cls := "OwnRain$Lists", name := "falseAlarms", desc := "(I)I" } : Jvm.MethodName) ({ cls := "OwnRain$Lists", name := "falseAlarms", desc := "(I)I" } : Jvm.MethodName)) ∈ gtbl := gq 1314 (by decide +kernel) rfl
set_option maxRecDepth 100000 in
theorem q1315 : (Jvm.Cond.code ({ cls := "OwnRain$Lists", name := "falseAlarms", desc := "(I)I" } : Jvm.MethodName) prog_3_method_6_code (4 : Nat) (Option.some Jvm.ClassFile.FieldType.int)) ∈ gtbl := gq 1315 rfl rfl
theorem q1316 : (Jvm.Cond.methodLink "OwnRainLaw" (156 : Nat) ({ cls := "OwnRain", name := "bound", desc := "()I" } : Jvm.MethodName)) ∈ gtbl := gq 1316 (by decide +kernel) rfl
theorem q1317 : (Jvm.Cond.instanceMethod ({ cls := "OwnRain", name := "bound", desc := "()I" } : Jvm.MethodName)) ∈ gtbl := gq 1317 (by decide +kernel) rfl
theorem q1318 : (Jvm.Cond.selects "OwnRain" ({ cls := "OwnRain", name := "bound", desc := "()I" } : Jvm.MethodName) ({ cls := "OwnRain", name := "bound", desc := "()I" } : Jvm.MethodName)) ∈ gtbl := gq 1318 (by decide +kernel) rfl
set_option maxRecDepth 100000 in
theorem q1319 : (Jvm.Cond.code ({ cls := "OwnRain", name := "bound", desc := "()I" } : Jvm.MethodName) prog_1_method_40_code (4 : Nat) (Option.some Jvm.ClassFile.FieldType.int)) ∈ gtbl := gq 1319 rfl rfl
theorem q1320 : (Jvm.Cond.methodLink "OwnRainLaw" (160 : Nat) ({ cls := "OwnRain", name := "offer", desc := "(ZII)I" } : Jvm.MethodName)) ∈ gtbl := gq 1320 (by decide +kernel) rfl
theorem q1321 : (Jvm.Cond.instanceMethod ({ cls := "OwnRain", name := "offer", desc := "(ZII)I" } : Jvm.MethodName)) ∈ gtbl := gq 1321 (by decide +kernel) rfl
theorem q1322 : (Jvm.Cond.selects "OwnRain" ({ cls := "OwnRain", name := "offer", desc := "(ZII)I" } : Jvm.MethodName) ({ cls := "OwnRain", name := "offer", desc := "(ZII)I" } : Jvm.MethodName)) ∈ gtbl := gq 1322 (by decide +kernel) rfl
set_option maxRecDepth 100000 in
theorem q1323 : (Jvm.Cond.code ({ cls := "OwnRain", name := "offer", desc := "(ZII)I" } : Jvm.MethodName) prog_1_method_41_code (5 : Nat) (Option.some Jvm.ClassFile.FieldType.int)) ∈ gtbl := gq 1323 rfl rfl
theorem q1324 : (Jvm.Cond.methodLink "OwnRain" (393 : Nat) ({ cls := "OwnRain$Lists", name := "addOffer", desc := "(ZII)I" } : Jvm.MethodName)) ∈ gtbl := gq 1324 (by decide +kernel) rfl
theorem q1325 : (Jvm.Cond.instanceMethod ({ cls := "OwnRain$Lists", name := "addOffer", desc := "(ZII)I" } : Jvm.MethodName)) ∈ gtbl := gq 1325 (by decide +kernel) rfl
theorem q1326 : (Jvm.Cond.selects "OwnRain$Lists" ({ cls := "OwnRain$Lists", name := "addOffer", desc := "(ZII)I" } : Jvm.MethodName) ({ cls := "OwnRain$Lists", name := "addOffer", desc := "(ZII)I" } : Jvm.MethodName)) ∈ gtbl := gq 1326 (by decide +kernel) rfl
set_option maxRecDepth 100000 in
theorem q1327 : (Jvm.Cond.code ({ cls := "OwnRain$Lists", name := "addOffer", desc := "(ZII)I" } : Jvm.MethodName) prog_3_method_4_code (4 : Nat) (Option.some Jvm.ClassFile.FieldType.int)) ∈ gtbl := gq 1327 rfl rfl
theorem q1328 : (Jvm.Cond.methodLink "OwnRainLaw" (165 : Nat) ({ cls := "OwnRain", name := "market", desc := "(I)I" } : Jvm.MethodName)) ∈ gtbl := gq 1328 (by decide +kernel) rfl
theorem q1329 : (Jvm.Cond.instanceMethod ({ cls := "OwnRain", name := "market", desc := "(I)I" } : Jvm.MethodName)) ∈ gtbl := gq 1329 (by decide +kernel) rfl
theorem q1330 : (Jvm.Cond.selects "OwnRain" ({ cls := "OwnRain", name := "market", desc := "(I)I" } : Jvm.MethodName) ({ cls := "OwnRain", name := "market", desc := "(I)I" } : Jvm.MethodName)) ∈ gtbl := gq 1330 (by decide +kernel) rfl
set_option maxRecDepth 100000 in
theorem q1331 : (Jvm.Cond.code ({ cls := "OwnRain", name := "market", desc := "(I)I" } : Jvm.MethodName) prog_1_method_42_code (4 : Nat) (Option.some Jvm.ClassFile.FieldType.int)) ∈ gtbl := gq 1331 rfl rfl
theorem q1332 : (Jvm.Cond.methodLink "OwnRain" (397 : Nat) ({ cls := "OwnRain$Lists", name := "traded", desc := "(I)I" } : Jvm.MethodName)) ∈ gtbl := gq 1332 (by decide +kernel) rfl
theorem q1333 : (Jvm.Cond.instanceMethod ({ cls := "OwnRain$Lists", name := "traded", desc := "(I)I" } : Jvm.MethodName)) ∈ gtbl := gq 1333 (by decide +kernel) rfl
theorem q1334 : (Jvm.Cond.selects "OwnRain$Lists" ({ cls := "OwnRain$Lists", name := "traded", desc := "(I)I" } : Jvm.MethodName) ({ cls := "OwnRain$Lists", name := "traded", desc := "(I)I" } : Jvm.MethodName)) ∈ gtbl := gq 1334 (by decide +kernel) rfl
set_option maxRecDepth 100000 in
theorem q1335 : (Jvm.Cond.code ({ cls := "OwnRain$Lists", name := "traded", desc := "(I)I" } : Jvm.MethodName) prog_3_method_7_code (5 : Nat) (Option.some Jvm.ClassFile.FieldType.int)) ∈ gtbl := gq 1335 rfl rfl
theorem q1336 : (Jvm.Cond.methodLink "OwnRain$Lists" (47 : Nat) ({ cls := "java/lang/Math", name := "min", desc := "(II)I" } : Jvm.MethodName)) ∈ gtbl := gq 1336 (by decide +kernel) rfl
theorem q1337 : (Jvm.Cond.methodLink "OwnRainLaw" (169 : Nat) ({ cls := "OwnRain", name := "greatestTax", desc := "(I)I" } : Jvm.MethodName)) ∈ gtbl := gq 1337 (by decide +kernel) rfl
theorem q1338 : (Jvm.Cond.instanceMethod ({ cls := "OwnRain", name := "greatestTax", desc := "(I)I" } : Jvm.MethodName)) ∈ gtbl := gq 1338 (by decide +kernel) rfl
theorem q1339 : (Jvm.Cond.selects "OwnRain" ({ cls := "OwnRain", name := "greatestTax", desc := "(I)I" } : Jvm.MethodName) ({ cls := "OwnRain", name := "greatestTax", desc := "(I)I" } : Jvm.MethodName)) ∈ gtbl := gq 1339 (by decide +kernel) rfl
set_option maxRecDepth 100000 in
theorem q1340 : (Jvm.Cond.code ({ cls := "OwnRain", name := "greatestTax", desc := "(I)I" } : Jvm.MethodName) prog_1_method_43_code (2 : Nat) (Option.some Jvm.ClassFile.FieldType.int)) ∈ gtbl := gq 1340 rfl rfl
theorem q1341 : (Jvm.Cond.methodLink "OwnRain" (400 : Nat) ({ cls := "OwnRain$Planner", name := "harmlessTax", desc := "(I)I" } : Jvm.MethodName)) ∈ gtbl := gq 1341 (by decide +kernel) rfl
theorem q1342 : (Jvm.Cond.instanceMethod ({ cls := "OwnRain$Planner", name := "harmlessTax", desc := "(I)I" } : Jvm.MethodName)) ∈ gtbl := gq 1342 (by decide +kernel) rfl
theorem q1343 : (Jvm.Cond.selects "OwnRain$Planner" ({ cls := "OwnRain$Planner", name := "harmlessTax", desc := "(I)I" } : Jvm.MethodName) ({ cls := "OwnRain$Planner", name := "harmlessTax", desc := "(I)I" } : Jvm.MethodName)) ∈ gtbl := gq 1343 (by decide +kernel) rfl
set_option maxRecDepth 100000 in
theorem q1344 : (Jvm.Cond.code ({ cls := "OwnRain$Planner", name := "harmlessTax", desc := "(I)I" } : Jvm.MethodName) prog_4_method_7_code (4 : Nat) (Option.some Jvm.ClassFile.FieldType.int)) ∈ gtbl := gq 1344 rfl rfl
theorem q1345 : (Jvm.Cond.methodLink "OwnRain$Planner" (113 : Nat) ({ cls := "OwnRain$Planner", name := "foretell", desc := "(I)LOwnRain$World;" } : Jvm.MethodName)) ∈ gtbl := gq 1345 (by decide +kernel) rfl
theorem q1346 : (Jvm.Cond.methodLink "OwnRain$Planner" (118 : Nat) ({ cls := "OwnRain$Planner", name := "growsAsMuch", desc := "(LOwnRain$World;)Z" } : Jvm.MethodName)) ∈ gtbl := gq 1346 (by decide +kernel) rfl
theorem q1348 : (Jvm.Cond.instanceMethod ({ cls := "OwnRain$Planner", name := "growsAsMuch", desc := "(LOwnRain$World;)Z" } : Jvm.MethodName)) ∈ gtbl := gq 1348 (by decide +kernel) rfl
set_option maxRecDepth 100000 in
theorem q1349 : (Jvm.Cond.code ({ cls := "OwnRain$Planner", name := "growsAsMuch", desc := "(LOwnRain$World;)Z" } : Jvm.MethodName) prog_4_method_8_code (3 : Nat) (Option.some Jvm.ClassFile.FieldType.boolean)) ∈ gtbl := gq 1349 rfl rfl
theorem q1350 : (Jvm.Cond.methodLink "OwnRainLaw" (173 : Nat) ({ cls := "OwnRain", name := "water", desc := "()I" } : Jvm.MethodName)) ∈ gtbl := gq 1350 (by decide +kernel) rfl
theorem q1351 : (Jvm.Cond.instanceMethod ({ cls := "OwnRain", name := "water", desc := "()I" } : Jvm.MethodName)) ∈ gtbl := gq 1351 (by decide +kernel) rfl
theorem q1352 : (Jvm.Cond.selects "OwnRain" ({ cls := "OwnRain", name := "water", desc := "()I" } : Jvm.MethodName) ({ cls := "OwnRain", name := "water", desc := "()I" } : Jvm.MethodName)) ∈ gtbl := gq 1352 (by decide +kernel) rfl
set_option maxRecDepth 100000 in
theorem q1353 : (Jvm.Cond.code ({ cls := "OwnRain", name := "water", desc := "()I" } : Jvm.MethodName) prog_1_method_44_code (4 : Nat) (Option.some Jvm.ClassFile.FieldType.int)) ∈ gtbl := gq 1353 rfl rfl
theorem q1354 : (Jvm.Cond.methodLink "OwnRainLaw" (177 : Nat) ({ cls := "OwnRain", name := "image", desc := "()I" } : Jvm.MethodName)) ∈ gtbl := gq 1354 (by decide +kernel) rfl
theorem q1355 : (Jvm.Cond.instanceMethod ({ cls := "OwnRain", name := "image", desc := "()I" } : Jvm.MethodName)) ∈ gtbl := gq 1355 (by decide +kernel) rfl
theorem q1356 : (Jvm.Cond.selects "OwnRain" ({ cls := "OwnRain", name := "image", desc := "()I" } : Jvm.MethodName) ({ cls := "OwnRain", name := "image", desc := "()I" } : Jvm.MethodName)) ∈ gtbl := gq 1356 (by decide +kernel) rfl
set_option maxRecDepth 100000 in
theorem q1357 : (Jvm.Cond.code ({ cls := "OwnRain", name := "image", desc := "()I" } : Jvm.MethodName) prog_1_method_45_code (1 : Nat) (Option.some Jvm.ClassFile.FieldType.int)) ∈ gtbl := gq 1357 rfl rfl
theorem q1358 : (Jvm.Cond.methodLink "OwnRain" (409 : Nat) ({ cls := "OwnRain$State", name := "copyFrom", desc := "(LOwnRain$State;)V" } : Jvm.MethodName)) ∈ gtbl := gq 1358 (by decide +kernel) rfl
theorem q1359 : (Jvm.Cond.instanceMethod ({ cls := "OwnRain$State", name := "copyFrom", desc := "(LOwnRain$State;)V" } : Jvm.MethodName)) ∈ gtbl := gq 1359 (by decide +kernel) rfl
theorem q1360 : (Jvm.Cond.selects "OwnRain$State" ({ cls := "OwnRain$State", name := "copyFrom", desc := "(LOwnRain$State;)V" } : Jvm.MethodName) ({ cls := "OwnRain$State", name := "copyFrom", desc := "(LOwnRain$State;)V" } : Jvm.MethodName)) ∈ gtbl := gq 1360 (by decide +kernel) rfl
set_option maxRecDepth 100000 in
theorem q1361 : (Jvm.Cond.code ({ cls := "OwnRain$State", name := "copyFrom", desc := "(LOwnRain$State;)V" } : Jvm.MethodName) prog_6_method_10_code (3 : Nat) (Option.none : Option Jvm.ClassFile.FieldType)) ∈ gtbl := gq 1361 rfl rfl
theorem q1362 : (Jvm.Cond.methodLink "OwnRain$State" (104 : Nat) ({ cls := "OwnRain$Land", name := "copyFrom", desc := "(LOwnRain$Land;)V" } : Jvm.MethodName)) ∈ gtbl := gq 1362 (by decide +kernel) rfl
theorem q1363 : (Jvm.Cond.instanceMethod ({ cls := "OwnRain$Land", name := "copyFrom", desc := "(LOwnRain$Land;)V" } : Jvm.MethodName)) ∈ gtbl := gq 1363 (by decide +kernel) rfl
theorem q1364 : (Jvm.Cond.selects "OwnRain$Land" ({ cls := "OwnRain$Land", name := "copyFrom", desc := "(LOwnRain$Land;)V" } : Jvm.MethodName) ({ cls := "OwnRain$Land", name := "copyFrom", desc := "(LOwnRain$Land;)V" } : Jvm.MethodName)) ∈ gtbl := gq 1364 (by decide +kernel) rfl
set_option maxRecDepth 100000 in
theorem q1365 : (Jvm.Cond.code ({ cls := "OwnRain$Land", name := "copyFrom", desc := "(LOwnRain$Land;)V" } : Jvm.MethodName) prog_2_method_8_code (2 : Nat) (Option.none : Option Jvm.ClassFile.FieldType)) ∈ gtbl := gq 1365 rfl rfl
theorem q1366 : (Jvm.Cond.methodLink "OwnRain$Land" (43 : Nat) ({ cls := "java/lang/System", name := "arraycopy", desc := "(Ljava/lang/Object;ILjava/lang/Object;II)V" } : Jvm.MethodName)) ∈ gtbl := gq 1366 (by decide +kernel) rfl
theorem q1367 : (Jvm.Cond.methodLink "OwnRain$State" (108 : Nat) ({ cls := "OwnRain$World", name := "copyFrom", desc := "(LOwnRain$World;)V" } : Jvm.MethodName)) ∈ gtbl := gq 1367 (by decide +kernel) rfl
theorem q1368 : (Jvm.Cond.methodLink "OwnRain$State" (111 : Nat) ({ cls := "OwnRain$Steps", name := "copyFrom", desc := "(LOwnRain$Steps;)V" } : Jvm.MethodName)) ∈ gtbl := gq 1368 (by decide +kernel) rfl
theorem q1369 : (Jvm.Cond.instanceMethod ({ cls := "OwnRain$Steps", name := "copyFrom", desc := "(LOwnRain$Steps;)V" } : Jvm.MethodName)) ∈ gtbl := gq 1369 (by decide +kernel) rfl
theorem q1370 : (Jvm.Cond.selects "OwnRain$Steps" ({ cls := "OwnRain$Steps", name := "copyFrom", desc := "(LOwnRain$Steps;)V" } : Jvm.MethodName) ({ cls := "OwnRain$Steps", name := "copyFrom", desc := "(LOwnRain$Steps;)V" } : Jvm.MethodName)) ∈ gtbl := gq 1370 (by decide +kernel) rfl
set_option maxRecDepth 100000 in
theorem q1371 : (Jvm.Cond.code ({ cls := "OwnRain$Steps", name := "copyFrom", desc := "(LOwnRain$Steps;)V" } : Jvm.MethodName) prog_7_method_4_code (3 : Nat) (Option.none : Option Jvm.ClassFile.FieldType)) ∈ gtbl := gq 1371 rfl rfl
theorem q1372 : (Jvm.Cond.methodLink "OwnRain$State" (114 : Nat) ({ cls := "OwnRain$Lists", name := "copyFrom", desc := "(LOwnRain$Lists;)V" } : Jvm.MethodName)) ∈ gtbl := gq 1372 (by decide +kernel) rfl
theorem q1373 : (Jvm.Cond.instanceMethod ({ cls := "OwnRain$Lists", name := "copyFrom", desc := "(LOwnRain$Lists;)V" } : Jvm.MethodName)) ∈ gtbl := gq 1373 (by decide +kernel) rfl
theorem q1374 : (Jvm.Cond.selects "OwnRain$Lists" ({ cls := "OwnRain$Lists", name := "copyFrom", desc := "(LOwnRain$Lists;)V" } : Jvm.MethodName) ({ cls := "OwnRain$Lists", name := "copyFrom", desc := "(LOwnRain$Lists;)V" } : Jvm.MethodName)) ∈ gtbl := gq 1374 (by decide +kernel) rfl
set_option maxRecDepth 100000 in
theorem q1375 : (Jvm.Cond.code ({ cls := "OwnRain$Lists", name := "copyFrom", desc := "(LOwnRain$Lists;)V" } : Jvm.MethodName) prog_3_method_8_code (3 : Nat) (Option.none : Option Jvm.ClassFile.FieldType)) ∈ gtbl := gq 1375 rfl rfl
theorem q1376 : (Jvm.Cond.methodLink "OwnRain$Lists" (53 : Nat) ({ cls := "java/lang/System", name := "arraycopy", desc := "(Ljava/lang/Object;ILjava/lang/Object;II)V" } : Jvm.MethodName)) ∈ gtbl := gq 1376 (by decide +kernel) rfl
theorem q1377 : (Jvm.Cond.methodLink "OwnRainLaw" (181 : Nat) ({ cls := "OwnRain", name := "back", desc := "()I" } : Jvm.MethodName)) ∈ gtbl := gq 1377 (by decide +kernel) rfl
theorem q1378 : (Jvm.Cond.instanceMethod ({ cls := "OwnRain", name := "back", desc := "()I" } : Jvm.MethodName)) ∈ gtbl := gq 1378 (by decide +kernel) rfl
theorem q1379 : (Jvm.Cond.selects "OwnRain" ({ cls := "OwnRain", name := "back", desc := "()I" } : Jvm.MethodName) ({ cls := "OwnRain", name := "back", desc := "()I" } : Jvm.MethodName)) ∈ gtbl := gq 1379 (by decide +kernel) rfl
set_option maxRecDepth 100000 in
theorem q1380 : (Jvm.Cond.code ({ cls := "OwnRain", name := "back", desc := "()I" } : Jvm.MethodName) prog_1_method_46_code (1 : Nat) (Option.some Jvm.ClassFile.FieldType.int)) ∈ gtbl := gq 1380 rfl rfl
theorem q1381 : (Jvm.Cond.methodLink "OwnRainLaw" (185 : Nat) ({ cls := "OwnRain", name := "about", desc := "(I)I" } : Jvm.MethodName)) ∈ gtbl := gq 1381 (by decide +kernel) rfl
theorem q1382 : (Jvm.Cond.instanceMethod ({ cls := "OwnRain", name := "about", desc := "(I)I" } : Jvm.MethodName)) ∈ gtbl := gq 1382 (by decide +kernel) rfl
theorem q1383 : (Jvm.Cond.selects "OwnRain" ({ cls := "OwnRain", name := "about", desc := "(I)I" } : Jvm.MethodName) ({ cls := "OwnRain", name := "about", desc := "(I)I" } : Jvm.MethodName)) ∈ gtbl := gq 1383 (by decide +kernel) rfl
set_option maxRecDepth 100000 in
theorem q1384 : (Jvm.Cond.code ({ cls := "OwnRain", name := "about", desc := "(I)I" } : Jvm.MethodName) prog_1_method_47_code (3 : Nat) (Option.some Jvm.ClassFile.FieldType.int)) ∈ gtbl := gq 1384 rfl rfl
theorem q1385 : (Jvm.Cond.classLink "OwnRainLaw" (10 : Nat) "OwnRainModel") ∈ gtbl := gq 1385 (by decide +kernel) rfl
theorem q1386 : (Jvm.Cond.instantiable "OwnRainModel" (53 : Nat)) ∈ gtbl := gq 1386 (by decide +kernel) rfl
theorem q1387 : (Jvm.Cond.methodLink "OwnRainLaw" (12 : Nat) ({ cls := "OwnRainModel", name := "<init>", desc := "()V" } : Jvm.MethodName)) ∈ gtbl := gq 1387 (by decide +kernel) rfl
theorem q1388 : (Jvm.Cond.instanceMethod ({ cls := "OwnRainModel", name := "<init>", desc := "()V" } : Jvm.MethodName)) ∈ gtbl := gq 1388 (by decide +kernel) rfl
set_option maxRecDepth 100000 in
theorem q1389 : (Jvm.Cond.code ({ cls := "OwnRainModel", name := "<init>", desc := "()V" } : Jvm.MethodName) prog_14_method_1_code (2 : Nat) (Option.none : Option Jvm.ClassFile.FieldType)) ∈ gtbl := gq 1389 rfl rfl
theorem q1390 : (Jvm.Cond.methodLink "OwnRainModel" (1 : Nat) ({ cls := "java/lang/Object", name := "<init>", desc := "()V" } : Jvm.MethodName)) ∈ gtbl := gq 1390 (by decide +kernel) rfl
theorem q1391 : (Jvm.Cond.methodLink "OwnRainModel" (109 : Nat) ({ cls := "OwnRainModel", name := "copy", desc := "([I[I)V" } : Jvm.MethodName)) ∈ gtbl := gq 1391 (by decide +kernel) rfl
theorem q1392 : (Jvm.Cond.static ({ cls := "OwnRainModel", name := "copy", desc := "([I[I)V" } : Jvm.MethodName)) ∈ gtbl := gq 1392 (by decide +kernel) rfl
set_option maxRecDepth 100000 in
theorem q1393 : (Jvm.Cond.code ({ cls := "OwnRainModel", name := "copy", desc := "([I[I)V" } : Jvm.MethodName) prog_14_method_2_code (3 : Nat) (Option.none : Option Jvm.ClassFile.FieldType)) ∈ gtbl := gq 1393 rfl rfl
theorem q1394 : (Jvm.Cond.fieldLink "OwnRainModel" (7 : Nat) "OwnRainModel" "a" "[I") ∈ gtbl := gq 1394 (by decide +kernel) rfl
theorem q1395 : (Jvm.Cond.fieldLink "OwnRainModel" (13 : Nat) "OwnRainModel" "image" "[I") ∈ gtbl := gq 1395 (by decide +kernel) rfl
theorem q1396 : (Jvm.Cond.fieldLink "OwnRainModel" (16 : Nat) "OwnRainModel" "texts" "[I") ∈ gtbl := gq 1396 (by decide +kernel) rfl
theorem q1397 : (Jvm.Cond.fieldLink "OwnRainModel" (19 : Nat) "OwnRainModel" "tape" "[I") ∈ gtbl := gq 1397 (by decide +kernel) rfl
theorem q1398 : (Jvm.Cond.fieldLink "OwnRainModel" (133 : Nat) "OwnRainModel" "taped" "I") ∈ gtbl := gq 1398 (by decide +kernel) rfl
theorem q1399 : (Jvm.Cond.fieldLink "OwnRainModel" (22 : Nat) "OwnRainModel" "fault" "I") ∈ gtbl := gq 1399 (by decide +kernel) rfl
theorem q1400 : (Jvm.Cond.fieldLink "OwnRainModel" (26 : Nat) "OwnRainModel" "faultPlace" "I") ∈ gtbl := gq 1400 (by decide +kernel) rfl
theorem q1401 : (Jvm.Cond.fieldLink "OwnRainModel" (140 : Nat) "OwnRainModel" "at" "I") ∈ gtbl := gq 1401 (by decide +kernel) rfl
theorem q1402 : (Jvm.Cond.fieldLink "OwnRainModel" (147 : Nat) "OwnRainModel" "place" "I") ∈ gtbl := gq 1402 (by decide +kernel) rfl
theorem q1403 : (Jvm.Cond.fieldLink "OwnRainModel" (150 : Nat) "OwnRainModel" "token" "I") ∈ gtbl := gq 1403 (by decide +kernel) rfl
theorem q1404 : (Jvm.Cond.fieldLink "OwnRainModel" (156 : Nat) "OwnRainModel" "number" "I") ∈ gtbl := gq 1404 (by decide +kernel) rfl
theorem q1405 : (Jvm.Cond.fieldLink "OwnRainModel" (163 : Nat) "OwnRainModel" "word" "J") ∈ gtbl := gq 1405 (by decide +kernel) rfl
theorem q1406 : (Jvm.Cond.fieldLink "OwnRainModel" (188 : Nat) "OwnRainModel" "text0" "I") ∈ gtbl := gq 1406 (by decide +kernel) rfl
theorem q1407 : (Jvm.Cond.fieldLink "OwnRainModel" (191 : Nat) "OwnRainModel" "written" "I") ∈ gtbl := gq 1407 (by decide +kernel) rfl
theorem q1408 : (Jvm.Cond.fieldLink "OwnRainModel" (194 : Nat) "OwnRainModel" "sort0" "I") ∈ gtbl := gq 1408 (by decide +kernel) rfl
theorem q1409 : (Jvm.Cond.fieldLink "OwnRainModel" (29 : Nat) "OwnRainModel" "pile" "[I") ∈ gtbl := gq 1409 (by decide +kernel) rfl
theorem q1410 : (Jvm.Cond.fieldLink "OwnRainModel" (32 : Nat) "OwnRainModel" "begins" "[I") ∈ gtbl := gq 1410 (by decide +kernel) rfl
theorem q1411 : (Jvm.Cond.fieldLink "OwnRainModel" (200 : Nat) "OwnRainModel" "piled" "I") ∈ gtbl := gq 1411 (by decide +kernel) rfl
theorem q1412 : (Jvm.Cond.fieldLink "OwnRainModel" (210 : Nat) "OwnRainModel" "opens" "I") ∈ gtbl := gq 1412 (by decide +kernel) rfl
theorem q1413 : (Jvm.Cond.fieldLink "OwnRainModel" (197 : Nat) "OwnRainModel" "inner" "I") ∈ gtbl := gq 1413 (by decide +kernel) rfl
theorem q1414 : (Jvm.Cond.fieldLink "OwnRainModel" (226 : Nat) "OwnRainModel" "isWhole" "Z") ∈ gtbl := gq 1414 (by decide +kernel) rfl
theorem q1415 : (Jvm.Cond.fieldLink "OwnRainModel" (296 : Nat) "OwnRainModel" "once" "I") ∈ gtbl := gq 1415 (by decide +kernel) rfl
theorem q1416 : (Jvm.Cond.fieldLink "OwnRainModel" (35 : Nat) "OwnRainModel" "named" "[I") ∈ gtbl := gq 1416 (by decide +kernel) rfl
theorem q1417 : (Jvm.Cond.fieldLink "OwnRainModel" (322 : Nat) "OwnRainModel" "here" "I") ∈ gtbl := gq 1417 (by decide +kernel) rfl
theorem q1418 : (Jvm.Cond.fieldLink "OwnRainModel" (38 : Nat) "OwnRainModel" "alone" "I") ∈ gtbl := gq 1418 (by decide +kernel) rfl
theorem q1419 : (Jvm.Cond.fieldLink "OwnRainModel" (41 : Nat) "OwnRainModel" "values" "[J") ∈ gtbl := gq 1419 (by decide +kernel) rfl
theorem q1420 : (Jvm.Cond.fieldLink "OwnRainModel" (45 : Nat) "OwnRainModel" "truth" "[Z") ∈ gtbl := gq 1420 (by decide +kernel) rfl
theorem q1421 : (Jvm.Cond.fieldLink "OwnRainModel" (49 : Nat) "OwnRainModel" "sums" "[J") ∈ gtbl := gq 1421 (by decide +kernel) rfl
theorem q1422 : (Jvm.Cond.fieldLink "OwnRainModel" (52 : Nat) "OwnRainModel" "within" "[I") ∈ gtbl := gq 1422 (by decide +kernel) rfl
theorem q1423 : (Jvm.Cond.fieldLink "OwnRainModel" (55 : Nat) "OwnRainModel" "ahead" "[I") ∈ gtbl := gq 1423 (by decide +kernel) rfl
theorem q1424 : (Jvm.Cond.fieldLink "OwnRainModel" (316 : Nat) "OwnRainModel" "named0" "I") ∈ gtbl := gq 1424 (by decide +kernel) rfl
theorem q1425 : (Jvm.Cond.fieldLink "OwnRainModel" (325 : Nat) "OwnRainModel" "deep" "I") ∈ gtbl := gq 1425 (by decide +kernel) rfl
theorem q1426 : (Jvm.Cond.fieldLink "OwnRainModel" (58 : Nat) "OwnRainModel" "eachAt" "[I") ∈ gtbl := gq 1426 (by decide +kernel) rfl
theorem q1427 : (Jvm.Cond.fieldLink "OwnRainModel" (61 : Nat) "OwnRainModel" "wholeOf" "[J") ∈ gtbl := gq 1427 (by decide +kernel) rfl
theorem q1428 : (Jvm.Cond.fieldLink "OwnRainModel" (64 : Nat) "OwnRainModel" "wholeIn" "[I") ∈ gtbl := gq 1428 (by decide +kernel) rfl
theorem q1429 : (Jvm.Cond.fieldLink "OwnRainModel" (334 : Nat) "OwnRainModel" "asking" "I") ∈ gtbl := gq 1429 (by decide +kernel) rfl
theorem q1430 : (Jvm.Cond.fieldLink "OwnRainModel" (351 : Nat) "OwnRainModel" "hourNow" "I") ∈ gtbl := gq 1430 (by decide +kernel) rfl
theorem q1431 : (Jvm.Cond.fieldLink "OwnRainModel" (67 : Nat) "OwnRainModel" "taxNow" "I") ∈ gtbl := gq 1431 (by decide +kernel) rfl
theorem q1432 : (Jvm.Cond.fieldLink "OwnRainModel" (367 : Nat) "OwnRainModel" "isWritten" "Z") ∈ gtbl := gq 1432 (by decide +kernel) rfl
theorem q1433 : (Jvm.Cond.fieldLink "OwnRainModel" (70 : Nat) "OwnRainModel" "firstRain" "[I") ∈ gtbl := gq 1433 (by decide +kernel) rfl
theorem q1434 : (Jvm.Cond.fieldLink "OwnRainModel" (373 : Nat) "OwnRainModel" "hoursGone" "I") ∈ gtbl := gq 1434 (by decide +kernel) rfl
theorem q1435 : (Jvm.Cond.fieldLink "OwnRainModel" (73 : Nat) "OwnRainModel" "aside" "[I") ∈ gtbl := gq 1435 (by decide +kernel) rfl
theorem q1436 : (Jvm.Cond.fieldLink "OwnRainModel" (76 : Nat) "OwnRainModel" "plans" "[I") ∈ gtbl := gq 1436 (by decide +kernel) rfl
theorem q1437 : (Jvm.Cond.fieldLink "OwnRainModel" (79 : Nat) "OwnRainModel" "worker" "[I") ∈ gtbl := gq 1437 (by decide +kernel) rfl
theorem q1438 : (Jvm.Cond.fieldLink "OwnRainModel" (82 : Nat) "OwnRainModel" "ground" "[I") ∈ gtbl := gq 1438 (by decide +kernel) rfl
theorem q1439 : (Jvm.Cond.fieldLink "OwnRainModel" (85 : Nat) "OwnRainModel" "yields" "[I") ∈ gtbl := gq 1439 (by decide +kernel) rfl
theorem q1440 : (Jvm.Cond.fieldLink "OwnRainModel" (88 : Nat) "OwnRainModel" "order" "[I") ∈ gtbl := gq 1440 (by decide +kernel) rfl
theorem q1441 : (Jvm.Cond.fieldLink "OwnRainModel" (91 : Nat) "OwnRainModel" "bestOrder" "[I") ∈ gtbl := gq 1441 (by decide +kernel) rfl
theorem q1442 : (Jvm.Cond.fieldLink "OwnRainModel" (94 : Nat) "OwnRainModel" "given" "[I") ∈ gtbl := gq 1442 (by decide +kernel) rfl
theorem q1443 : (Jvm.Cond.fieldLink "OwnRainModel" (97 : Nat) "OwnRainModel" "left" "[I") ∈ gtbl := gq 1443 (by decide +kernel) rfl
theorem q1444 : (Jvm.Cond.fieldLink "OwnRainModel" (100 : Nat) "OwnRainModel" "roads" "[I") ∈ gtbl := gq 1444 (by decide +kernel) rfl
theorem q1445 : (Jvm.Cond.fieldLink "OwnRainModel" (103 : Nat) "OwnRainModel" "hot" "[J") ∈ gtbl := gq 1445 (by decide +kernel) rfl
theorem q1446 : (Jvm.Cond.fieldLink "OwnRainModel" (106 : Nat) "OwnRainModel" "grows" "[I") ∈ gtbl := gq 1446 (by decide +kernel) rfl
theorem q1554 : (Jvm.Cond.methodLink "OwnRainLaw" (17 : Nat) ({ cls := "OwnRainModel", name := "field", desc := "(III)I" } : Jvm.MethodName)) ∈ gtbl := gq 1554 (by decide +kernel) rfl
theorem q1555 : (Jvm.Cond.instanceMethod ({ cls := "OwnRainModel", name := "field", desc := "(III)I" } : Jvm.MethodName)) ∈ gtbl := gq 1555 (by decide +kernel) rfl
theorem q1556 : (Jvm.Cond.selects "OwnRainModel" ({ cls := "OwnRainModel", name := "field", desc := "(III)I" } : Jvm.MethodName) ({ cls := "OwnRainModel", name := "field", desc := "(III)I" } : Jvm.MethodName)) ∈ gtbl := gq 1556 (by decide +kernel) rfl
set_option maxRecDepth 100000 in
theorem q1557 : (Jvm.Cond.code ({ cls := "OwnRainModel", name := "field", desc := "(III)I" } : Jvm.MethodName) prog_14_method_13_code (6 : Nat) (Option.some Jvm.ClassFile.FieldType.int)) ∈ gtbl := gq 1557 rfl rfl
theorem q1558 : (Jvm.Cond.methodLink "OwnRainModel" (113 : Nat) ({ cls := "OwnRainModel", name := "isIn", desc := "(III)Z" } : Jvm.MethodName)) ∈ gtbl := gq 1558 (by decide +kernel) rfl
theorem q1559 : (Jvm.Cond.static ({ cls := "OwnRainModel", name := "isIn", desc := "(III)Z" } : Jvm.MethodName)) ∈ gtbl := gq 1559 (by decide +kernel) rfl
set_option maxRecDepth 100000 in
theorem q1560 : (Jvm.Cond.code ({ cls := "OwnRainModel", name := "isIn", desc := "(III)Z" } : Jvm.MethodName) prog_14_method_3_code (3 : Nat) (Option.some Jvm.ClassFile.FieldType.boolean)) ∈ gtbl := gq 1560 rfl rfl
theorem q1561 : (Jvm.Cond.methodLink "OwnRainLaw" (22 : Nat) ({ cls := "OwnRainModel", name := "road", desc := "(II)Z" } : Jvm.MethodName)) ∈ gtbl := gq 1561 (by decide +kernel) rfl
theorem q1562 : (Jvm.Cond.instanceMethod ({ cls := "OwnRainModel", name := "road", desc := "(II)Z" } : Jvm.MethodName)) ∈ gtbl := gq 1562 (by decide +kernel) rfl
theorem q1563 : (Jvm.Cond.selects "OwnRainModel" ({ cls := "OwnRainModel", name := "road", desc := "(II)Z" } : Jvm.MethodName) ({ cls := "OwnRainModel", name := "road", desc := "(II)Z" } : Jvm.MethodName)) ∈ gtbl := gq 1563 (by decide +kernel) rfl
set_option maxRecDepth 100000 in
theorem q1564 : (Jvm.Cond.code ({ cls := "OwnRainModel", name := "road", desc := "(II)Z" } : Jvm.MethodName) prog_14_method_14_code (3 : Nat) (Option.some Jvm.ClassFile.FieldType.boolean)) ∈ gtbl := gq 1564 rfl rfl
theorem q1565 : (Jvm.Cond.methodLink "OwnRainModel" (117 : Nat) ({ cls := "OwnRainModel", name := "isField", desc := "(I)Z" } : Jvm.MethodName)) ∈ gtbl := gq 1565 (by decide +kernel) rfl
theorem q1567 : (Jvm.Cond.instanceMethod ({ cls := "OwnRainModel", name := "isField", desc := "(I)Z" } : Jvm.MethodName)) ∈ gtbl := gq 1567 (by decide +kernel) rfl
set_option maxRecDepth 100000 in
theorem q1568 : (Jvm.Cond.code ({ cls := "OwnRainModel", name := "isField", desc := "(I)Z" } : Jvm.MethodName) prog_14_method_6_code (2 : Nat) (Option.some Jvm.ClassFile.FieldType.boolean)) ∈ gtbl := gq 1568 rfl rfl
theorem q1569 : (Jvm.Cond.methodLink "OwnRainModel" (121 : Nat) ({ cls := "OwnRainModel", name := "fieldOf", desc := "(II)I" } : Jvm.MethodName)) ∈ gtbl := gq 1569 (by decide +kernel) rfl
theorem q1571 : (Jvm.Cond.instanceMethod ({ cls := "OwnRainModel", name := "fieldOf", desc := "(II)I" } : Jvm.MethodName)) ∈ gtbl := gq 1571 (by decide +kernel) rfl
set_option maxRecDepth 100000 in
theorem q1572 : (Jvm.Cond.code ({ cls := "OwnRainModel", name := "fieldOf", desc := "(II)I" } : Jvm.MethodName) prog_14_method_8_code (3 : Nat) (Option.some Jvm.ClassFile.FieldType.int)) ∈ gtbl := gq 1572 rfl rfl
theorem q1573 : (Jvm.Cond.methodLink "OwnRainModel" (125 : Nat) ({ cls := "OwnRainModel", name := "has", desc := "(II)Z" } : Jvm.MethodName)) ∈ gtbl := gq 1573 (by decide +kernel) rfl
theorem q1574 : (Jvm.Cond.static ({ cls := "OwnRainModel", name := "has", desc := "(II)Z" } : Jvm.MethodName)) ∈ gtbl := gq 1574 (by decide +kernel) rfl
set_option maxRecDepth 100000 in
theorem q1575 : (Jvm.Cond.code ({ cls := "OwnRainModel", name := "has", desc := "(II)Z" } : Jvm.MethodName) prog_14_method_4_code (2 : Nat) (Option.some Jvm.ClassFile.FieldType.boolean)) ∈ gtbl := gq 1575 rfl rfl
theorem q1576 : (Jvm.Cond.methodLink "OwnRainLaw" (27 : Nat) ({ cls := "OwnRainModel", name := "person", desc := "(IIII)I" } : Jvm.MethodName)) ∈ gtbl := gq 1576 (by decide +kernel) rfl
theorem q1577 : (Jvm.Cond.instanceMethod ({ cls := "OwnRainModel", name := "person", desc := "(IIII)I" } : Jvm.MethodName)) ∈ gtbl := gq 1577 (by decide +kernel) rfl
theorem q1578 : (Jvm.Cond.selects "OwnRainModel" ({ cls := "OwnRainModel", name := "person", desc := "(IIII)I" } : Jvm.MethodName) ({ cls := "OwnRainModel", name := "person", desc := "(IIII)I" } : Jvm.MethodName)) ∈ gtbl := gq 1578 (by decide +kernel) rfl
set_option maxRecDepth 100000 in
theorem q1579 : (Jvm.Cond.code ({ cls := "OwnRainModel", name := "person", desc := "(IIII)I" } : Jvm.MethodName) prog_14_method_15_code (7 : Nat) (Option.some Jvm.ClassFile.FieldType.int)) ∈ gtbl := gq 1579 rfl rfl
theorem q1580 : (Jvm.Cond.methodLink "OwnRainModel" (129 : Nat) ({ cls := "OwnRainModel", name := "set", desc := "(III)V" } : Jvm.MethodName)) ∈ gtbl := gq 1580 (by decide +kernel) rfl
theorem q1582 : (Jvm.Cond.instanceMethod ({ cls := "OwnRainModel", name := "set", desc := "(III)V" } : Jvm.MethodName)) ∈ gtbl := gq 1582 (by decide +kernel) rfl
set_option maxRecDepth 100000 in
theorem q1583 : (Jvm.Cond.code ({ cls := "OwnRainModel", name := "set", desc := "(III)V" } : Jvm.MethodName) prog_14_method_10_code (4 : Nat) (Option.none : Option Jvm.ClassFile.FieldType)) ∈ gtbl := gq 1583 rfl rfl
theorem q1584 : (Jvm.Cond.methodLink "OwnRainLaw" (32 : Nat) ({ cls := "OwnRainModel", name := "feed", desc := "(IIIII)I" } : Jvm.MethodName)) ∈ gtbl := gq 1584 (by decide +kernel) rfl
theorem q1585 : (Jvm.Cond.instanceMethod ({ cls := "OwnRainModel", name := "feed", desc := "(IIIII)I" } : Jvm.MethodName)) ∈ gtbl := gq 1585 (by decide +kernel) rfl
theorem q1586 : (Jvm.Cond.selects "OwnRainModel" ({ cls := "OwnRainModel", name := "feed", desc := "(IIIII)I" } : Jvm.MethodName) ({ cls := "OwnRainModel", name := "feed", desc := "(IIIII)I" } : Jvm.MethodName)) ∈ gtbl := gq 1586 (by decide +kernel) rfl
set_option maxRecDepth 100000 in
theorem q1587 : (Jvm.Cond.code ({ cls := "OwnRainModel", name := "feed", desc := "(IIIII)I" } : Jvm.MethodName) prog_14_method_17_code (6 : Nat) (Option.some Jvm.ClassFile.FieldType.int)) ∈ gtbl := gq 1587 rfl rfl
theorem q1588 : (Jvm.Cond.methodLink "OwnRainModel" (136 : Nat) ({ cls := "OwnRainModel", name := "four", desc := "(I)V" } : Jvm.MethodName)) ∈ gtbl := gq 1588 (by decide +kernel) rfl
theorem q1590 : (Jvm.Cond.instanceMethod ({ cls := "OwnRainModel", name := "four", desc := "(I)V" } : Jvm.MethodName)) ∈ gtbl := gq 1590 (by decide +kernel) rfl
set_option maxRecDepth 100000 in
theorem q1591 : (Jvm.Cond.code ({ cls := "OwnRainModel", name := "four", desc := "(I)V" } : Jvm.MethodName) prog_14_method_16_code (3 : Nat) (Option.none : Option Jvm.ClassFile.FieldType)) ∈ gtbl := gq 1591 rfl rfl
theorem q1592 : (Jvm.Cond.methodLink "OwnRainLaw" (37 : Nat) ({ cls := "OwnRainModel", name := "end", desc := "(I)I" } : Jvm.MethodName)) ∈ gtbl := gq 1592 (by decide +kernel) rfl
theorem q1593 : (Jvm.Cond.instanceMethod ({ cls := "OwnRainModel", name := "end", desc := "(I)I" } : Jvm.MethodName)) ∈ gtbl := gq 1593 (by decide +kernel) rfl
theorem q1594 : (Jvm.Cond.selects "OwnRainModel" ({ cls := "OwnRainModel", name := "end", desc := "(I)I" } : Jvm.MethodName) ({ cls := "OwnRainModel", name := "end", desc := "(I)I" } : Jvm.MethodName)) ∈ gtbl := gq 1594 (by decide +kernel) rfl
set_option maxRecDepth 100000 in
theorem q1595 : (Jvm.Cond.code ({ cls := "OwnRainModel", name := "end", desc := "(I)I" } : Jvm.MethodName) prog_14_method_18_code (2 : Nat) (Option.some Jvm.ClassFile.FieldType.int)) ∈ gtbl := gq 1595 rfl rfl
theorem q1596 : (Jvm.Cond.methodLink "OwnRainLaw" (42 : Nat) ({ cls := "OwnRainModel", name := "text", desc := "()I" } : Jvm.MethodName)) ∈ gtbl := gq 1596 (by decide +kernel) rfl
theorem q1597 : (Jvm.Cond.instanceMethod ({ cls := "OwnRainModel", name := "text", desc := "()I" } : Jvm.MethodName)) ∈ gtbl := gq 1597 (by decide +kernel) rfl
theorem q1598 : (Jvm.Cond.selects "OwnRainModel" ({ cls := "OwnRainModel", name := "text", desc := "()I" } : Jvm.MethodName) ({ cls := "OwnRainModel", name := "text", desc := "()I" } : Jvm.MethodName)) ∈ gtbl := gq 1598 (by decide +kernel) rfl
set_option maxRecDepth 100000 in
theorem q1599 : (Jvm.Cond.code ({ cls := "OwnRainModel", name := "text", desc := "()I" } : Jvm.MethodName) prog_14_method_56_code (1 : Nat) (Option.some Jvm.ClassFile.FieldType.int)) ∈ gtbl := gq 1599 rfl rfl
theorem q1600 : (Jvm.Cond.methodLink "OwnRainModel" (305 : Nat) ({ cls := "OwnRainModel", name := "readText", desc := "()I" } : Jvm.MethodName)) ∈ gtbl := gq 1600 (by decide +kernel) rfl
theorem q1602 : (Jvm.Cond.instanceMethod ({ cls := "OwnRainModel", name := "readText", desc := "()I" } : Jvm.MethodName)) ∈ gtbl := gq 1602 (by decide +kernel) rfl
set_option maxRecDepth 100000 in
theorem q1603 : (Jvm.Cond.code ({ cls := "OwnRainModel", name := "readText", desc := "()I" } : Jvm.MethodName) prog_14_method_55_code (2 : Nat) (Option.some Jvm.ClassFile.FieldType.int)) ∈ gtbl := gq 1603 rfl rfl
theorem q1604 : (Jvm.Cond.methodLink "OwnRainModel" (217 : Nat) ({ cls := "OwnRainModel", name := "nextToken", desc := "()V" } : Jvm.MethodName)) ∈ gtbl := gq 1604 (by decide +kernel) rfl
theorem q1606 : (Jvm.Cond.instanceMethod ({ cls := "OwnRainModel", name := "nextToken", desc := "()V" } : Jvm.MethodName)) ∈ gtbl := gq 1606 (by decide +kernel) rfl
set_option maxRecDepth 100000 in
theorem q1607 : (Jvm.Cond.code ({ cls := "OwnRainModel", name := "nextToken", desc := "()V" } : Jvm.MethodName) prog_14_method_23_code (2 : Nat) (Option.none : Option Jvm.ClassFile.FieldType)) ∈ gtbl := gq 1607 rfl rfl
theorem q1608 : (Jvm.Cond.methodLink "OwnRainModel" (143 : Nat) ({ cls := "OwnRainModel", name := "byteAt", desc := "(I)I" } : Jvm.MethodName)) ∈ gtbl := gq 1608 (by decide +kernel) rfl
theorem q1610 : (Jvm.Cond.instanceMethod ({ cls := "OwnRainModel", name := "byteAt", desc := "(I)I" } : Jvm.MethodName)) ∈ gtbl := gq 1610 (by decide +kernel) rfl
set_option maxRecDepth 100000 in
theorem q1611 : (Jvm.Cond.code ({ cls := "OwnRainModel", name := "byteAt", desc := "(I)I" } : Jvm.MethodName) prog_14_method_19_code (2 : Nat) (Option.some Jvm.ClassFile.FieldType.int)) ∈ gtbl := gq 1611 rfl rfl
theorem q1612 : (Jvm.Cond.methodLink "OwnRainModel" (153 : Nat) ({ cls := "OwnRainModel", name := "isFigure", desc := "(I)Z" } : Jvm.MethodName)) ∈ gtbl := gq 1612 (by decide +kernel) rfl
theorem q1613 : (Jvm.Cond.static ({ cls := "OwnRainModel", name := "isFigure", desc := "(I)Z" } : Jvm.MethodName)) ∈ gtbl := gq 1613 (by decide +kernel) rfl
set_option maxRecDepth 100000 in
theorem q1614 : (Jvm.Cond.code ({ cls := "OwnRainModel", name := "isFigure", desc := "(I)Z" } : Jvm.MethodName) prog_14_method_21_code (1 : Nat) (Option.some Jvm.ClassFile.FieldType.boolean)) ∈ gtbl := gq 1614 rfl rfl
theorem q1615 : (Jvm.Cond.constant "OwnRainModel" (159 : Nat) (99999 : Int32)) ∈ gtbl := gq 1615 (by decide +kernel) rfl
theorem q1616 : (Jvm.Cond.methodLink "OwnRainModel" (160 : Nat) ({ cls := "OwnRainModel", name := "isLetterByte", desc := "(I)Z" } : Jvm.MethodName)) ∈ gtbl := gq 1616 (by decide +kernel) rfl
theorem q1617 : (Jvm.Cond.static ({ cls := "OwnRainModel", name := "isLetterByte", desc := "(I)Z" } : Jvm.MethodName)) ∈ gtbl := gq 1617 (by decide +kernel) rfl
set_option maxRecDepth 100000 in
theorem q1618 : (Jvm.Cond.code ({ cls := "OwnRainModel", name := "isLetterByte", desc := "(I)Z" } : Jvm.MethodName) prog_14_method_20_code (1 : Nat) (Option.some Jvm.ClassFile.FieldType.boolean)) ∈ gtbl := gq 1618 rfl rfl
theorem q1619 : (Jvm.Cond.constantLong "OwnRainModel" (167 : Nat) (1152921504606846976 : Int64)) ∈ gtbl := gq 1619 (by decide +kernel) rfl
theorem q1620 : (Jvm.Cond.methodLink "OwnRainModel" (169 : Nat) ({ cls := "OwnRainModel", name := "isSign", desc := "(I)Z" } : Jvm.MethodName)) ∈ gtbl := gq 1620 (by decide +kernel) rfl
theorem q1621 : (Jvm.Cond.static ({ cls := "OwnRainModel", name := "isSign", desc := "(I)Z" } : Jvm.MethodName)) ∈ gtbl := gq 1621 (by decide +kernel) rfl
set_option maxRecDepth 100000 in
theorem q1622 : (Jvm.Cond.code ({ cls := "OwnRainModel", name := "isSign", desc := "(I)Z" } : Jvm.MethodName) prog_14_method_22_code (1 : Nat) (Option.some Jvm.ClassFile.FieldType.boolean)) ∈ gtbl := gq 1622 rfl rfl
theorem q1623 : (Jvm.Cond.methodLink "OwnRainModel" (302 : Nat) ({ cls := "OwnRainModel", name := "clause", desc := "()I" } : Jvm.MethodName)) ∈ gtbl := gq 1623 (by decide +kernel) rfl
theorem q1625 : (Jvm.Cond.instanceMethod ({ cls := "OwnRainModel", name := "clause", desc := "()I" } : Jvm.MethodName)) ∈ gtbl := gq 1625 (by decide +kernel) rfl
set_option maxRecDepth 100000 in
theorem q1626 : (Jvm.Cond.code ({ cls := "OwnRainModel", name := "clause", desc := "()I" } : Jvm.MethodName) prog_14_method_54_code (5 : Nat) (Option.some Jvm.ClassFile.FieldType.int)) ∈ gtbl := gq 1626 rfl rfl
theorem q1627 : (Jvm.Cond.methodLink "OwnRainModel" (293 : Nat) ({ cls := "OwnRainModel", name := "sortOf", desc := "()I" } : Jvm.MethodName)) ∈ gtbl := gq 1627 (by decide +kernel) rfl
theorem q1629 : (Jvm.Cond.instanceMethod ({ cls := "OwnRainModel", name := "sortOf", desc := "()I" } : Jvm.MethodName)) ∈ gtbl := gq 1629 (by decide +kernel) rfl
set_option maxRecDepth 100000 in
theorem q1630 : (Jvm.Cond.code ({ cls := "OwnRainModel", name := "sortOf", desc := "()I" } : Jvm.MethodName) prog_14_method_53_code (1 : Nat) (Option.some Jvm.ClassFile.FieldType.int)) ∈ gtbl := gq 1630 rfl rfl
theorem q1631 : (Jvm.Cond.methodLink "OwnRainModel" (184 : Nat) ({ cls := "OwnRainModel", name := "w5", desc := "(IIIII)J" } : Jvm.MethodName)) ∈ gtbl := gq 1631 (by decide +kernel) rfl
theorem q1632 : (Jvm.Cond.static ({ cls := "OwnRainModel", name := "w5", desc := "(IIIII)J" } : Jvm.MethodName)) ∈ gtbl := gq 1632 (by decide +kernel) rfl
set_option maxRecDepth 100000 in
theorem q1633 : (Jvm.Cond.code ({ cls := "OwnRainModel", name := "w5", desc := "(IIIII)J" } : Jvm.MethodName) prog_14_method_27_code (5 : Nat) (Option.some Jvm.ClassFile.FieldType.long)) ∈ gtbl := gq 1633 rfl rfl
theorem q1634 : (Jvm.Cond.methodLink "OwnRainModel" (180 : Nat) ({ cls := "OwnRainModel", name := "w4", desc := "(IIII)J" } : Jvm.MethodName)) ∈ gtbl := gq 1634 (by decide +kernel) rfl
theorem q1635 : (Jvm.Cond.static ({ cls := "OwnRainModel", name := "w4", desc := "(IIII)J" } : Jvm.MethodName)) ∈ gtbl := gq 1635 (by decide +kernel) rfl
set_option maxRecDepth 100000 in
theorem q1636 : (Jvm.Cond.code ({ cls := "OwnRainModel", name := "w4", desc := "(IIII)J" } : Jvm.MethodName) prog_14_method_26_code (4 : Nat) (Option.some Jvm.ClassFile.FieldType.long)) ∈ gtbl := gq 1636 rfl rfl
theorem q1637 : (Jvm.Cond.methodLink "OwnRainModel" (176 : Nat) ({ cls := "OwnRainModel", name := "w3", desc := "(III)J" } : Jvm.MethodName)) ∈ gtbl := gq 1637 (by decide +kernel) rfl
theorem q1638 : (Jvm.Cond.static ({ cls := "OwnRainModel", name := "w3", desc := "(III)J" } : Jvm.MethodName)) ∈ gtbl := gq 1638 (by decide +kernel) rfl
set_option maxRecDepth 100000 in
theorem q1639 : (Jvm.Cond.code ({ cls := "OwnRainModel", name := "w3", desc := "(III)J" } : Jvm.MethodName) prog_14_method_25_code (3 : Nat) (Option.some Jvm.ClassFile.FieldType.long)) ∈ gtbl := gq 1639 rfl rfl
theorem q1640 : (Jvm.Cond.methodLink "OwnRainModel" (172 : Nat) ({ cls := "OwnRainModel", name := "w2", desc := "(II)J" } : Jvm.MethodName)) ∈ gtbl := gq 1640 (by decide +kernel) rfl
theorem q1641 : (Jvm.Cond.static ({ cls := "OwnRainModel", name := "w2", desc := "(II)J" } : Jvm.MethodName)) ∈ gtbl := gq 1641 (by decide +kernel) rfl
set_option maxRecDepth 100000 in
theorem q1642 : (Jvm.Cond.code ({ cls := "OwnRainModel", name := "w2", desc := "(II)J" } : Jvm.MethodName) prog_14_method_24_code (2 : Nat) (Option.some Jvm.ClassFile.FieldType.long)) ∈ gtbl := gq 1642 rfl rfl
theorem q1643 : (Jvm.Cond.methodLink "OwnRainModel" (236 : Nat) ({ cls := "OwnRainModel", name := "isWord", desc := "(J)Z" } : Jvm.MethodName)) ∈ gtbl := gq 1643 (by decide +kernel) rfl
theorem q1645 : (Jvm.Cond.instanceMethod ({ cls := "OwnRainModel", name := "isWord", desc := "(J)Z" } : Jvm.MethodName)) ∈ gtbl := gq 1645 (by decide +kernel) rfl
set_option maxRecDepth 100000 in
theorem q1646 : (Jvm.Cond.code ({ cls := "OwnRainModel", name := "isWord", desc := "(J)Z" } : Jvm.MethodName) prog_14_method_29_code (3 : Nat) (Option.some Jvm.ClassFile.FieldType.boolean)) ∈ gtbl := gq 1646 rfl rfl
theorem q1647 : (Jvm.Cond.methodLink "OwnRainModel" (299 : Nat) ({ cls := "OwnRainModel", name := "body", desc := "(II)I" } : Jvm.MethodName)) ∈ gtbl := gq 1647 (by decide +kernel) rfl
theorem q1649 : (Jvm.Cond.instanceMethod ({ cls := "OwnRainModel", name := "body", desc := "(II)I" } : Jvm.MethodName)) ∈ gtbl := gq 1649 (by decide +kernel) rfl
set_option maxRecDepth 100000 in
theorem q1650 : (Jvm.Cond.code ({ cls := "OwnRainModel", name := "body", desc := "(II)I" } : Jvm.MethodName) prog_14_method_52_code (3 : Nat) (Option.some Jvm.ClassFile.FieldType.int)) ∈ gtbl := gq 1650 rfl rfl
theorem q1651 : (Jvm.Cond.methodLink "OwnRainModel" (277 : Nat) ({ cls := "OwnRainModel", name := "fieldClause", desc := "(I)I" } : Jvm.MethodName)) ∈ gtbl := gq 1651 (by decide +kernel) rfl
theorem q1653 : (Jvm.Cond.instanceMethod ({ cls := "OwnRainModel", name := "fieldClause", desc := "(I)I" } : Jvm.MethodName)) ∈ gtbl := gq 1653 (by decide +kernel) rfl
set_option maxRecDepth 100000 in
theorem q1654 : (Jvm.Cond.code ({ cls := "OwnRainModel", name := "fieldClause", desc := "(I)I" } : Jvm.MethodName) prog_14_method_48_code (3 : Nat) (Option.some Jvm.ClassFile.FieldType.int)) ∈ gtbl := gq 1654 rfl rfl
theorem q1655 : (Jvm.Cond.methodLink "OwnRainModel" (262 : Nat) ({ cls := "OwnRainModel", name := "figure", desc := "(III)I" } : Jvm.MethodName)) ∈ gtbl := gq 1655 (by decide +kernel) rfl
theorem q1657 : (Jvm.Cond.instanceMethod ({ cls := "OwnRainModel", name := "figure", desc := "(III)I" } : Jvm.MethodName)) ∈ gtbl := gq 1657 (by decide +kernel) rfl
set_option maxRecDepth 100000 in
theorem q1658 : (Jvm.Cond.code ({ cls := "OwnRainModel", name := "figure", desc := "(III)I" } : Jvm.MethodName) prog_14_method_45_code (4 : Nat) (Option.some Jvm.ClassFile.FieldType.int)) ∈ gtbl := gq 1658 rfl rfl
theorem q1659 : (Jvm.Cond.methodLink "OwnRainModel" (269 : Nat) ({ cls := "OwnRainModel", name := "worded", desc := "(JIII)I" } : Jvm.MethodName)) ∈ gtbl := gq 1659 (by decide +kernel) rfl
theorem q1661 : (Jvm.Cond.instanceMethod ({ cls := "OwnRainModel", name := "worded", desc := "(JIII)I" } : Jvm.MethodName)) ∈ gtbl := gq 1661 (by decide +kernel) rfl
set_option maxRecDepth 100000 in
theorem q1662 : (Jvm.Cond.code ({ cls := "OwnRainModel", name := "worded", desc := "(JIII)I" } : Jvm.MethodName) prog_14_method_46_code (6 : Nat) (Option.some Jvm.ClassFile.FieldType.int)) ∈ gtbl := gq 1662 rfl rfl
theorem q1663 : (Jvm.Cond.methodLink "OwnRainModel" (273 : Nat) ({ cls := "OwnRainModel", name := "w6", desc := "(IIIIII)J" } : Jvm.MethodName)) ∈ gtbl := gq 1663 (by decide +kernel) rfl
theorem q1664 : (Jvm.Cond.static ({ cls := "OwnRainModel", name := "w6", desc := "(IIIIII)J" } : Jvm.MethodName)) ∈ gtbl := gq 1664 (by decide +kernel) rfl
set_option maxRecDepth 100000 in
theorem q1665 : (Jvm.Cond.code ({ cls := "OwnRainModel", name := "w6", desc := "(IIIIII)J" } : Jvm.MethodName) prog_14_method_28_code (6 : Nat) (Option.some Jvm.ClassFile.FieldType.long)) ∈ gtbl := gq 1665 rfl rfl
theorem q1666 : (Jvm.Cond.methodLink "OwnRainModel" (280 : Nat) ({ cls := "OwnRainModel", name := "pair", desc := "(IIIJI)I" } : Jvm.MethodName)) ∈ gtbl := gq 1666 (by decide +kernel) rfl
theorem q1668 : (Jvm.Cond.instanceMethod ({ cls := "OwnRainModel", name := "pair", desc := "(IIIJI)I" } : Jvm.MethodName)) ∈ gtbl := gq 1668 (by decide +kernel) rfl
set_option maxRecDepth 100000 in
theorem q1669 : (Jvm.Cond.code ({ cls := "OwnRainModel", name := "pair", desc := "(IIIJI)I" } : Jvm.MethodName) prog_14_method_51_code (8 : Nat) (Option.some Jvm.ClassFile.FieldType.int)) ∈ gtbl := gq 1669 rfl rfl
theorem q1670 : (Jvm.Cond.methodLink "OwnRainModel" (284 : Nat) ({ cls := "OwnRainModel", name := "oneClause", desc := "(I)I" } : Jvm.MethodName)) ∈ gtbl := gq 1670 (by decide +kernel) rfl
theorem q1672 : (Jvm.Cond.instanceMethod ({ cls := "OwnRainModel", name := "oneClause", desc := "(I)I" } : Jvm.MethodName)) ∈ gtbl := gq 1672 (by decide +kernel) rfl
set_option maxRecDepth 100000 in
theorem q1673 : (Jvm.Cond.code ({ cls := "OwnRainModel", name := "oneClause", desc := "(I)I" } : Jvm.MethodName) prog_14_method_49_code (3 : Nat) (Option.some Jvm.ClassFile.FieldType.int)) ∈ gtbl := gq 1673 rfl rfl
theorem q1674 : (Jvm.Cond.methodLink "OwnRainModel" (287 : Nat) ({ cls := "OwnRainModel", name := "stealClause", desc := "(I)I" } : Jvm.MethodName)) ∈ gtbl := gq 1674 (by decide +kernel) rfl
theorem q1676 : (Jvm.Cond.instanceMethod ({ cls := "OwnRainModel", name := "stealClause", desc := "(I)I" } : Jvm.MethodName)) ∈ gtbl := gq 1676 (by decide +kernel) rfl
set_option maxRecDepth 100000 in
theorem q1677 : (Jvm.Cond.code ({ cls := "OwnRainModel", name := "stealClause", desc := "(I)I" } : Jvm.MethodName) prog_14_method_50_code (3 : Nat) (Option.some Jvm.ClassFile.FieldType.int)) ∈ gtbl := gq 1677 rfl rfl
theorem q1678 : (Jvm.Cond.methodLink "OwnRainModel" (290 : Nat) ({ cls := "OwnRainModel", name := "lawClause", desc := "(I)I" } : Jvm.MethodName)) ∈ gtbl := gq 1678 (by decide +kernel) rfl
theorem q1680 : (Jvm.Cond.instanceMethod ({ cls := "OwnRainModel", name := "lawClause", desc := "(I)I" } : Jvm.MethodName)) ∈ gtbl := gq 1680 (by decide +kernel) rfl
set_option maxRecDepth 100000 in
theorem q1681 : (Jvm.Cond.code ({ cls := "OwnRainModel", name := "lawClause", desc := "(I)I" } : Jvm.MethodName) prog_14_method_47_code (3 : Nat) (Option.some Jvm.ClassFile.FieldType.int)) ∈ gtbl := gq 1681 rfl rfl
theorem q1682 : (Jvm.Cond.methodLink "OwnRainModel" (266 : Nat) ({ cls := "OwnRainModel", name := "summed", desc := "()I" } : Jvm.MethodName)) ∈ gtbl := gq 1682 (by decide +kernel) rfl
theorem q1684 : (Jvm.Cond.instanceMethod ({ cls := "OwnRainModel", name := "summed", desc := "()I" } : Jvm.MethodName)) ∈ gtbl := gq 1684 (by decide +kernel) rfl
set_option maxRecDepth 100000 in
theorem q1685 : (Jvm.Cond.code ({ cls := "OwnRainModel", name := "summed", desc := "()I" } : Jvm.MethodName) prog_14_method_44_code (2 : Nat) (Option.some Jvm.ClassFile.FieldType.int)) ∈ gtbl := gq 1685 rfl rfl
theorem q1686 : (Jvm.Cond.methodLink "OwnRainModel" (256 : Nat) ({ cls := "OwnRainModel", name := "behindOne", desc := "()Z" } : Jvm.MethodName)) ∈ gtbl := gq 1686 (by decide +kernel) rfl
theorem q1688 : (Jvm.Cond.instanceMethod ({ cls := "OwnRainModel", name := "behindOne", desc := "()Z" } : Jvm.MethodName)) ∈ gtbl := gq 1688 (by decide +kernel) rfl
set_option maxRecDepth 100000 in
theorem q1689 : (Jvm.Cond.code ({ cls := "OwnRainModel", name := "behindOne", desc := "()Z" } : Jvm.MethodName) prog_14_method_43_code (4 : Nat) (Option.some Jvm.ClassFile.FieldType.boolean)) ∈ gtbl := gq 1689 rfl rfl
theorem q1690 : (Jvm.Cond.methodLink "OwnRainModel" (250 : Nat) ({ cls := "OwnRainModel", name := "betweenOf", desc := "()I" } : Jvm.MethodName)) ∈ gtbl := gq 1690 (by decide +kernel) rfl
theorem q1692 : (Jvm.Cond.instanceMethod ({ cls := "OwnRainModel", name := "betweenOf", desc := "()I" } : Jvm.MethodName)) ∈ gtbl := gq 1692 (by decide +kernel) rfl
set_option maxRecDepth 100000 in
theorem q1693 : (Jvm.Cond.code ({ cls := "OwnRainModel", name := "betweenOf", desc := "()I" } : Jvm.MethodName) prog_14_method_41_code (1 : Nat) (Option.some Jvm.ClassFile.FieldType.int)) ∈ gtbl := gq 1693 rfl rfl
theorem q1694 : (Jvm.Cond.methodLink "OwnRainModel" (213 : Nat) ({ cls := "OwnRainModel", name := "openNow", desc := "()I" } : Jvm.MethodName)) ∈ gtbl := gq 1694 (by decide +kernel) rfl
theorem q1696 : (Jvm.Cond.instanceMethod ({ cls := "OwnRainModel", name := "openNow", desc := "()I" } : Jvm.MethodName)) ∈ gtbl := gq 1696 (by decide +kernel) rfl
set_option maxRecDepth 100000 in
theorem q1697 : (Jvm.Cond.code ({ cls := "OwnRainModel", name := "openNow", desc := "()I" } : Jvm.MethodName) prog_14_method_35_code (2 : Nat) (Option.some Jvm.ClassFile.FieldType.int)) ∈ gtbl := gq 1697 rfl rfl
theorem q1698 : (Jvm.Cond.methodLink "OwnRainModel" (244 : Nat) ({ cls := "OwnRainModel", name := "isCompared", desc := "()Z" } : Jvm.MethodName)) ∈ gtbl := gq 1698 (by decide +kernel) rfl
theorem q1700 : (Jvm.Cond.instanceMethod ({ cls := "OwnRainModel", name := "isCompared", desc := "()Z" } : Jvm.MethodName)) ∈ gtbl := gq 1700 (by decide +kernel) rfl
set_option maxRecDepth 100000 in
theorem q1701 : (Jvm.Cond.code ({ cls := "OwnRainModel", name := "isCompared", desc := "()Z" } : Jvm.MethodName) prog_14_method_36_code (2 : Nat) (Option.some Jvm.ClassFile.FieldType.boolean)) ∈ gtbl := gq 1701 rfl rfl
theorem q1702 : (Jvm.Cond.methodLink "OwnRainModel" (203 : Nat) ({ cls := "OwnRainModel", name := "rank", desc := "(I)I" } : Jvm.MethodName)) ∈ gtbl := gq 1702 (by decide +kernel) rfl
theorem q1703 : (Jvm.Cond.static ({ cls := "OwnRainModel", name := "rank", desc := "(I)I" } : Jvm.MethodName)) ∈ gtbl := gq 1703 (by decide +kernel) rfl
set_option maxRecDepth 100000 in
theorem q1704 : (Jvm.Cond.code ({ cls := "OwnRainModel", name := "rank", desc := "(I)I" } : Jvm.MethodName) prog_14_method_33_code (1 : Nat) (Option.some Jvm.ClassFile.FieldType.int)) ∈ gtbl := gq 1704 rfl rfl
theorem q1705 : (Jvm.Cond.methodLink "OwnRainModel" (247 : Nat) ({ cls := "OwnRainModel", name := "compareOf", desc := "()I" } : Jvm.MethodName)) ∈ gtbl := gq 1705 (by decide +kernel) rfl
theorem q1707 : (Jvm.Cond.instanceMethod ({ cls := "OwnRainModel", name := "compareOf", desc := "()I" } : Jvm.MethodName)) ∈ gtbl := gq 1707 (by decide +kernel) rfl
set_option maxRecDepth 100000 in
theorem q1708 : (Jvm.Cond.code ({ cls := "OwnRainModel", name := "compareOf", desc := "()I" } : Jvm.MethodName) prog_14_method_40_code (1 : Nat) (Option.some Jvm.ClassFile.FieldType.int)) ∈ gtbl := gq 1708 rfl rfl
theorem q1709 : (Jvm.Cond.methodLink "OwnRainModel" (230 : Nat) ({ cls := "OwnRainModel", name := "settle", desc := "(I)V" } : Jvm.MethodName)) ∈ gtbl := gq 1709 (by decide +kernel) rfl
theorem q1711 : (Jvm.Cond.instanceMethod ({ cls := "OwnRainModel", name := "settle", desc := "(I)V" } : Jvm.MethodName)) ∈ gtbl := gq 1711 (by decide +kernel) rfl
set_option maxRecDepth 100000 in
theorem q1712 : (Jvm.Cond.code ({ cls := "OwnRainModel", name := "settle", desc := "(I)V" } : Jvm.MethodName) prog_14_method_34_code (2 : Nat) (Option.none : Option Jvm.ClassFile.FieldType)) ∈ gtbl := gq 1712 rfl rfl
theorem q1713 : (Jvm.Cond.methodLink "OwnRainModel" (206 : Nat) ({ cls := "OwnRainModel", name := "emit", desc := "(II)V" } : Jvm.MethodName)) ∈ gtbl := gq 1713 (by decide +kernel) rfl
theorem q1715 : (Jvm.Cond.instanceMethod ({ cls := "OwnRainModel", name := "emit", desc := "(II)V" } : Jvm.MethodName)) ∈ gtbl := gq 1715 (by decide +kernel) rfl
set_option maxRecDepth 100000 in
theorem q1716 : (Jvm.Cond.code ({ cls := "OwnRainModel", name := "emit", desc := "(II)V" } : Jvm.MethodName) prog_14_method_30_code (3 : Nat) (Option.none : Option Jvm.ClassFile.FieldType)) ∈ gtbl := gq 1716 rfl rfl
theorem q1717 : (Jvm.Cond.methodLink "OwnRainModel" (253 : Nat) ({ cls := "OwnRainModel", name := "shut", desc := "(I)V" } : Jvm.MethodName)) ∈ gtbl := gq 1717 (by decide +kernel) rfl
theorem q1719 : (Jvm.Cond.instanceMethod ({ cls := "OwnRainModel", name := "shut", desc := "(I)V" } : Jvm.MethodName)) ∈ gtbl := gq 1719 (by decide +kernel) rfl
set_option maxRecDepth 100000 in
theorem q1720 : (Jvm.Cond.code ({ cls := "OwnRainModel", name := "shut", desc := "(I)V" } : Jvm.MethodName) prog_14_method_42_code (2 : Nat) (Option.none : Option Jvm.ClassFile.FieldType)) ∈ gtbl := gq 1720 rfl rfl
theorem q1721 : (Jvm.Cond.methodLink "OwnRainModel" (259 : Nat) ({ cls := "OwnRainModel", name := "beginOne", desc := "()I" } : Jvm.MethodName)) ∈ gtbl := gq 1721 (by decide +kernel) rfl
theorem q1723 : (Jvm.Cond.instanceMethod ({ cls := "OwnRainModel", name := "beginOne", desc := "()I" } : Jvm.MethodName)) ∈ gtbl := gq 1723 (by decide +kernel) rfl
set_option maxRecDepth 100000 in
theorem q1724 : (Jvm.Cond.code ({ cls := "OwnRainModel", name := "beginOne", desc := "()I" } : Jvm.MethodName) prog_14_method_39_code (2 : Nat) (Option.some Jvm.ClassFile.FieldType.int)) ∈ gtbl := gq 1724 rfl rfl
theorem q1725 : (Jvm.Cond.methodLink "OwnRainModel" (220 : Nat) ({ cls := "OwnRainModel", name := "nameOf", desc := "()I" } : Jvm.MethodName)) ∈ gtbl := gq 1725 (by decide +kernel) rfl
theorem q1727 : (Jvm.Cond.instanceMethod ({ cls := "OwnRainModel", name := "nameOf", desc := "()I" } : Jvm.MethodName)) ∈ gtbl := gq 1727 (by decide +kernel) rfl
set_option maxRecDepth 100000 in
theorem q1728 : (Jvm.Cond.code ({ cls := "OwnRainModel", name := "nameOf", desc := "()I" } : Jvm.MethodName) prog_14_method_31_code (1 : Nat) (Option.some Jvm.ClassFile.FieldType.int)) ∈ gtbl := gq 1728 rfl rfl
theorem q1729 : (Jvm.Cond.methodLink "OwnRainModel" (223 : Nat) ({ cls := "OwnRainModel", name := "isOf", desc := "(I)Z" } : Jvm.MethodName)) ∈ gtbl := gq 1729 (by decide +kernel) rfl
theorem q1731 : (Jvm.Cond.instanceMethod ({ cls := "OwnRainModel", name := "isOf", desc := "(I)Z" } : Jvm.MethodName)) ∈ gtbl := gq 1731 (by decide +kernel) rfl
set_option maxRecDepth 100000 in
theorem q1732 : (Jvm.Cond.code ({ cls := "OwnRainModel", name := "isOf", desc := "(I)Z" } : Jvm.MethodName) prog_14_method_32_code (2 : Nat) (Option.some Jvm.ClassFile.FieldType.boolean)) ∈ gtbl := gq 1732 rfl rfl
theorem q1733 : (Jvm.Cond.methodLink "OwnRainModel" (233 : Nat) ({ cls := "OwnRainModel", name := "opened", desc := "(I)I" } : Jvm.MethodName)) ∈ gtbl := gq 1733 (by decide +kernel) rfl
theorem q1735 : (Jvm.Cond.instanceMethod ({ cls := "OwnRainModel", name := "opened", desc := "(I)I" } : Jvm.MethodName)) ∈ gtbl := gq 1735 (by decide +kernel) rfl
set_option maxRecDepth 100000 in
theorem q1736 : (Jvm.Cond.code ({ cls := "OwnRainModel", name := "opened", desc := "(I)I" } : Jvm.MethodName) prog_14_method_38_code (2 : Nat) (Option.some Jvm.ClassFile.FieldType.int)) ∈ gtbl := gq 1736 rfl rfl
theorem q1737 : (Jvm.Cond.methodLink "OwnRainModel" (240 : Nat) ({ cls := "OwnRainModel", name := "isAskAhead", desc := "()Z" } : Jvm.MethodName)) ∈ gtbl := gq 1737 (by decide +kernel) rfl
theorem q1739 : (Jvm.Cond.instanceMethod ({ cls := "OwnRainModel", name := "isAskAhead", desc := "()Z" } : Jvm.MethodName)) ∈ gtbl := gq 1739 (by decide +kernel) rfl
set_option maxRecDepth 100000 in
theorem q1740 : (Jvm.Cond.code ({ cls := "OwnRainModel", name := "isAskAhead", desc := "()Z" } : Jvm.MethodName) prog_14_method_37_code (1 : Nat) (Option.some Jvm.ClassFile.FieldType.boolean)) ∈ gtbl := gq 1740 rfl rfl
theorem q1741 : (Jvm.Cond.methodLink "OwnRainLaw" (46 : Nat) ({ cls := "OwnRainModel", name := "fault", desc := "(I)I" } : Jvm.MethodName)) ∈ gtbl := gq 1741 (by decide +kernel) rfl
theorem q1742 : (Jvm.Cond.instanceMethod ({ cls := "OwnRainModel", name := "fault", desc := "(I)I" } : Jvm.MethodName)) ∈ gtbl := gq 1742 (by decide +kernel) rfl
theorem q1743 : (Jvm.Cond.selects "OwnRainModel" ({ cls := "OwnRainModel", name := "fault", desc := "(I)I" } : Jvm.MethodName) ({ cls := "OwnRainModel", name := "fault", desc := "(I)I" } : Jvm.MethodName)) ∈ gtbl := gq 1743 (by decide +kernel) rfl
set_option maxRecDepth 100000 in
theorem q1744 : (Jvm.Cond.code ({ cls := "OwnRainModel", name := "fault", desc := "(I)I" } : Jvm.MethodName) prog_14_method_57_code (2 : Nat) (Option.some Jvm.ClassFile.FieldType.int)) ∈ gtbl := gq 1744 rfl rfl
theorem q1745 : (Jvm.Cond.methodLink "OwnRainLaw" (51 : Nat) ({ cls := "OwnRainModel", name := "by", desc := "(I)Z" } : Jvm.MethodName)) ∈ gtbl := gq 1745 (by decide +kernel) rfl
theorem q1746 : (Jvm.Cond.instanceMethod ({ cls := "OwnRainModel", name := "by", desc := "(I)Z" } : Jvm.MethodName)) ∈ gtbl := gq 1746 (by decide +kernel) rfl
theorem q1747 : (Jvm.Cond.selects "OwnRainModel" ({ cls := "OwnRainModel", name := "by", desc := "(I)Z" } : Jvm.MethodName) ({ cls := "OwnRainModel", name := "by", desc := "(I)Z" } : Jvm.MethodName)) ∈ gtbl := gq 1747 (by decide +kernel) rfl
set_option maxRecDepth 100000 in
theorem q1748 : (Jvm.Cond.code ({ cls := "OwnRainModel", name := "by", desc := "(I)Z" } : Jvm.MethodName) prog_14_method_58_code (2 : Nat) (Option.some Jvm.ClassFile.FieldType.boolean)) ∈ gtbl := gq 1748 rfl rfl
theorem q1749 : (Jvm.Cond.methodLink "OwnRainLaw" (88 : Nat) ({ cls := "OwnRainModel", name := "undo", desc := "()I" } : Jvm.MethodName)) ∈ gtbl := gq 1749 (by decide +kernel) rfl
theorem q1750 : (Jvm.Cond.instanceMethod ({ cls := "OwnRainModel", name := "undo", desc := "()I" } : Jvm.MethodName)) ∈ gtbl := gq 1750 (by decide +kernel) rfl
theorem q1751 : (Jvm.Cond.selects "OwnRainModel" ({ cls := "OwnRainModel", name := "undo", desc := "()I" } : Jvm.MethodName) ({ cls := "OwnRainModel", name := "undo", desc := "()I" } : Jvm.MethodName)) ∈ gtbl := gq 1751 (by decide +kernel) rfl
set_option maxRecDepth 100000 in
theorem q1752 : (Jvm.Cond.code ({ cls := "OwnRainModel", name := "undo", desc := "()I" } : Jvm.MethodName) prog_14_method_75_code (5 : Nat) (Option.some Jvm.ClassFile.FieldType.int)) ∈ gtbl := gq 1752 rfl rfl
theorem q1753 : (Jvm.Cond.methodLink "OwnRainModel" (319 : Nat) ({ cls := "OwnRainModel", name := "get", desc := "(II)I" } : Jvm.MethodName)) ∈ gtbl := gq 1753 (by decide +kernel) rfl
theorem q1755 : (Jvm.Cond.instanceMethod ({ cls := "OwnRainModel", name := "get", desc := "(II)I" } : Jvm.MethodName)) ∈ gtbl := gq 1755 (by decide +kernel) rfl
set_option maxRecDepth 100000 in
theorem q1756 : (Jvm.Cond.code ({ cls := "OwnRainModel", name := "get", desc := "(II)I" } : Jvm.MethodName) prog_14_method_9_code (3 : Nat) (Option.some Jvm.ClassFile.FieldType.int)) ∈ gtbl := gq 1756 rfl rfl
theorem q1757 : (Jvm.Cond.methodLink "OwnRainLaw" (55 : Nat) ({ cls := "OwnRainModel", name := "hour", desc := "(I)I" } : Jvm.MethodName)) ∈ gtbl := gq 1757 (by decide +kernel) rfl
theorem q1758 : (Jvm.Cond.instanceMethod ({ cls := "OwnRainModel", name := "hour", desc := "(I)I" } : Jvm.MethodName)) ∈ gtbl := gq 1758 (by decide +kernel) rfl
theorem q1759 : (Jvm.Cond.selects "OwnRainModel" ({ cls := "OwnRainModel", name := "hour", desc := "(I)I" } : Jvm.MethodName) ({ cls := "OwnRainModel", name := "hour", desc := "(I)I" } : Jvm.MethodName)) ∈ gtbl := gq 1759 (by decide +kernel) rfl
set_option maxRecDepth 100000 in
theorem q1760 : (Jvm.Cond.code ({ cls := "OwnRainModel", name := "hour", desc := "(I)I" } : Jvm.MethodName) prog_14_method_77_code (4 : Nat) (Option.some Jvm.ClassFile.FieldType.int)) ∈ gtbl := gq 1760 rfl rfl
theorem q1761 : (Jvm.Cond.methodLink "OwnRainModel" (394 : Nat) ({ cls := "OwnRainModel", name := "passStep", desc := "()I" } : Jvm.MethodName)) ∈ gtbl := gq 1761 (by decide +kernel) rfl
theorem q1763 : (Jvm.Cond.instanceMethod ({ cls := "OwnRainModel", name := "passStep", desc := "()I" } : Jvm.MethodName)) ∈ gtbl := gq 1763 (by decide +kernel) rfl
set_option maxRecDepth 100000 in
theorem q1764 : (Jvm.Cond.code ({ cls := "OwnRainModel", name := "passStep", desc := "()I" } : Jvm.MethodName) prog_14_method_76_code (1 : Nat) (Option.some Jvm.ClassFile.FieldType.int)) ∈ gtbl := gq 1764 rfl rfl
theorem q1765 : (Jvm.Cond.methodLink "OwnRainModel" (388 : Nat) ({ cls := "OwnRainModel", name := "keep", desc := "()V" } : Jvm.MethodName)) ∈ gtbl := gq 1765 (by decide +kernel) rfl
theorem q1767 : (Jvm.Cond.instanceMethod ({ cls := "OwnRainModel", name := "keep", desc := "()V" } : Jvm.MethodName)) ∈ gtbl := gq 1767 (by decide +kernel) rfl
set_option maxRecDepth 100000 in
theorem q1768 : (Jvm.Cond.code ({ cls := "OwnRainModel", name := "keep", desc := "()V" } : Jvm.MethodName) prog_14_method_74_code (4 : Nat) (Option.none : Option Jvm.ClassFile.FieldType)) ∈ gtbl := gq 1768 rfl rfl
theorem q1769 : (Jvm.Cond.methodLink "OwnRainModel" (391 : Nat) ({ cls := "OwnRainModel", name := "pass", desc := "()I" } : Jvm.MethodName)) ∈ gtbl := gq 1769 (by decide +kernel) rfl
theorem q1771 : (Jvm.Cond.instanceMethod ({ cls := "OwnRainModel", name := "pass", desc := "()I" } : Jvm.MethodName)) ∈ gtbl := gq 1771 (by decide +kernel) rfl
set_option maxRecDepth 100000 in
theorem q1772 : (Jvm.Cond.code ({ cls := "OwnRainModel", name := "pass", desc := "()I" } : Jvm.MethodName) prog_14_method_73_code (3 : Nat) (Option.some Jvm.ClassFile.FieldType.int)) ∈ gtbl := gq 1772 rfl rfl
theorem q1773 : (Jvm.Cond.methodLink "OwnRainModel" (382 : Nat) ({ cls := "OwnRainModel", name := "rainAll", desc := "()I" } : Jvm.MethodName)) ∈ gtbl := gq 1773 (by decide +kernel) rfl
theorem q1775 : (Jvm.Cond.instanceMethod ({ cls := "OwnRainModel", name := "rainAll", desc := "()I" } : Jvm.MethodName)) ∈ gtbl := gq 1775 (by decide +kernel) rfl
set_option maxRecDepth 100000 in
theorem q1776 : (Jvm.Cond.code ({ cls := "OwnRainModel", name := "rainAll", desc := "()I" } : Jvm.MethodName) prog_14_method_71_code (3 : Nat) (Option.some Jvm.ClassFile.FieldType.int)) ∈ gtbl := gq 1776 rfl rfl
theorem q1777 : (Jvm.Cond.methodLink "OwnRainModel" (376 : Nat) ({ cls := "OwnRainModel", name := "sweatOf", desc := "(II)I" } : Jvm.MethodName)) ∈ gtbl := gq 1777 (by decide +kernel) rfl
theorem q1779 : (Jvm.Cond.instanceMethod ({ cls := "OwnRainModel", name := "sweatOf", desc := "(II)I" } : Jvm.MethodName)) ∈ gtbl := gq 1779 (by decide +kernel) rfl
set_option maxRecDepth 100000 in
theorem q1780 : (Jvm.Cond.code ({ cls := "OwnRainModel", name := "sweatOf", desc := "(II)I" } : Jvm.MethodName) prog_14_method_68_code (4 : Nat) (Option.some Jvm.ClassFile.FieldType.int)) ∈ gtbl := gq 1780 rfl rfl
theorem q1781 : (Jvm.Cond.methodLink "OwnRainModel" (357 : Nat) ({ cls := "OwnRainModel", name := "says", desc := "(IIIIII)I" } : Jvm.MethodName)) ∈ gtbl := gq 1781 (by decide +kernel) rfl
theorem q1783 : (Jvm.Cond.instanceMethod ({ cls := "OwnRainModel", name := "says", desc := "(IIIIII)I" } : Jvm.MethodName)) ∈ gtbl := gq 1783 (by decide +kernel) rfl
set_option maxRecDepth 100000 in
theorem q1784 : (Jvm.Cond.code ({ cls := "OwnRainModel", name := "says", desc := "(IIIIII)I" } : Jvm.MethodName) prog_14_method_67_code (9 : Nat) (Option.some Jvm.ClassFile.FieldType.int)) ∈ gtbl := gq 1784 rfl rfl
theorem q1785 : (Jvm.Cond.methodLink "OwnRainModel" (331 : Nat) ({ cls := "OwnRainModel", name := "name", desc := "(I)V" } : Jvm.MethodName)) ∈ gtbl := gq 1785 (by decide +kernel) rfl
theorem q1787 : (Jvm.Cond.instanceMethod ({ cls := "OwnRainModel", name := "name", desc := "(I)V" } : Jvm.MethodName)) ∈ gtbl := gq 1787 (by decide +kernel) rfl
set_option maxRecDepth 100000 in
theorem q1788 : (Jvm.Cond.code ({ cls := "OwnRainModel", name := "name", desc := "(I)V" } : Jvm.MethodName) prog_14_method_62_code (2 : Nat) (Option.none : Option Jvm.ClassFile.FieldType)) ∈ gtbl := gq 1788 rfl rfl
theorem q1789 : (Jvm.Cond.methodLink "OwnRainModel" (354 : Nat) ({ cls := "OwnRainModel", name := "worked", desc := "(I)I" } : Jvm.MethodName)) ∈ gtbl := gq 1789 (by decide +kernel) rfl
theorem q1791 : (Jvm.Cond.instanceMethod ({ cls := "OwnRainModel", name := "worked", desc := "(I)I" } : Jvm.MethodName)) ∈ gtbl := gq 1791 (by decide +kernel) rfl
set_option maxRecDepth 100000 in
theorem q1792 : (Jvm.Cond.code ({ cls := "OwnRainModel", name := "worked", desc := "(I)I" } : Jvm.MethodName) prog_14_method_66_code (9 : Nat) (Option.some Jvm.ClassFile.FieldType.int)) ∈ gtbl := gq 1792 rfl rfl
theorem q1793 : (Jvm.Cond.methodLink "OwnRainModel" (337 : Nat) ({ cls := "OwnRainModel", name := "two", desc := "(IJJ)J" } : Jvm.MethodName)) ∈ gtbl := gq 1793 (by decide +kernel) rfl
theorem q1794 : (Jvm.Cond.static ({ cls := "OwnRainModel", name := "two", desc := "(IJJ)J" } : Jvm.MethodName)) ∈ gtbl := gq 1794 (by decide +kernel) rfl
set_option maxRecDepth 100000 in
theorem q1795 : (Jvm.Cond.code ({ cls := "OwnRainModel", name := "two", desc := "(IJJ)J" } : Jvm.MethodName) prog_14_method_60_code (5 : Nat) (Option.some Jvm.ClassFile.FieldType.long)) ∈ gtbl := gq 1795 rfl rfl
theorem q1796 : (Jvm.Cond.methodLink "OwnRainModel" (312 : Nat) ({ cls := "OwnRainModel", name := "clip", desc := "(J)J" } : Jvm.MethodName)) ∈ gtbl := gq 1796 (by decide +kernel) rfl
theorem q1797 : (Jvm.Cond.static ({ cls := "OwnRainModel", name := "clip", desc := "(J)J" } : Jvm.MethodName)) ∈ gtbl := gq 1797 (by decide +kernel) rfl
set_option maxRecDepth 100000 in
theorem q1798 : (Jvm.Cond.code ({ cls := "OwnRainModel", name := "clip", desc := "(J)J" } : Jvm.MethodName) prog_14_method_59_code (2 : Nat) (Option.some Jvm.ClassFile.FieldType.long)) ∈ gtbl := gq 1798 rfl rfl
theorem q1799 : (Jvm.Cond.constantLong "OwnRainModel" (308 : Nat) (1000000 : Int64)) ∈ gtbl := gq 1799 (by decide +kernel) rfl
theorem q1800 : (Jvm.Cond.constantLong "OwnRainModel" (310 : Nat) (-1000000 : Int64)) ∈ gtbl := gq 1800 (by decide +kernel) rfl
theorem q1801 : (Jvm.Cond.methodLink "OwnRainModel" (341 : Nat) ({ cls := "OwnRainModel", name := "isAsked", desc := "(IJJ)Z" } : Jvm.MethodName)) ∈ gtbl := gq 1801 (by decide +kernel) rfl
theorem q1802 : (Jvm.Cond.static ({ cls := "OwnRainModel", name := "isAsked", desc := "(IJJ)Z" } : Jvm.MethodName)) ∈ gtbl := gq 1802 (by decide +kernel) rfl
set_option maxRecDepth 100000 in
theorem q1803 : (Jvm.Cond.code ({ cls := "OwnRainModel", name := "isAsked", desc := "(IJJ)Z" } : Jvm.MethodName) prog_14_method_61_code (5 : Nat) (Option.some Jvm.ClassFile.FieldType.boolean)) ∈ gtbl := gq 1803 rfl rfl
theorem q1804 : (Jvm.Cond.methodLink "OwnRainModel" (345 : Nat) ({ cls := "OwnRainModel", name := "takeNext", desc := "()Z" } : Jvm.MethodName)) ∈ gtbl := gq 1804 (by decide +kernel) rfl
theorem q1806 : (Jvm.Cond.instanceMethod ({ cls := "OwnRainModel", name := "takeNext", desc := "()Z" } : Jvm.MethodName)) ∈ gtbl := gq 1806 (by decide +kernel) rfl
set_option maxRecDepth 100000 in
theorem q1807 : (Jvm.Cond.code ({ cls := "OwnRainModel", name := "takeNext", desc := "()Z" } : Jvm.MethodName) prog_14_method_64_code (1 : Nat) (Option.some Jvm.ClassFile.FieldType.boolean)) ∈ gtbl := gq 1807 rfl rfl
theorem q1808 : (Jvm.Cond.methodLink "OwnRainModel" (328 : Nat) ({ cls := "OwnRainModel", name := "nextThere", desc := "(I)I" } : Jvm.MethodName)) ∈ gtbl := gq 1808 (by decide +kernel) rfl
theorem q1810 : (Jvm.Cond.instanceMethod ({ cls := "OwnRainModel", name := "nextThere", desc := "(I)I" } : Jvm.MethodName)) ∈ gtbl := gq 1810 (by decide +kernel) rfl
set_option maxRecDepth 100000 in
theorem q1811 : (Jvm.Cond.code ({ cls := "OwnRainModel", name := "nextThere", desc := "(I)I" } : Jvm.MethodName) prog_14_method_63_code (3 : Nat) (Option.some Jvm.ClassFile.FieldType.int)) ∈ gtbl := gq 1811 rfl rfl
theorem q1812 : (Jvm.Cond.methodLink "OwnRainModel" (348 : Nat) ({ cls := "OwnRainModel", name := "endEach", desc := "(I)I" } : Jvm.MethodName)) ∈ gtbl := gq 1812 (by decide +kernel) rfl
theorem q1814 : (Jvm.Cond.instanceMethod ({ cls := "OwnRainModel", name := "endEach", desc := "(I)I" } : Jvm.MethodName)) ∈ gtbl := gq 1814 (by decide +kernel) rfl
set_option maxRecDepth 100000 in
theorem q1815 : (Jvm.Cond.code ({ cls := "OwnRainModel", name := "endEach", desc := "(I)I" } : Jvm.MethodName) prog_14_method_65_code (2 : Nat) (Option.some Jvm.ClassFile.FieldType.int)) ∈ gtbl := gq 1815 rfl rfl
theorem q1816 : (Jvm.Cond.methodLink "OwnRainModel" (364 : Nat) ({ cls := "OwnRainModel", name := "addTo", desc := "(II)V" } : Jvm.MethodName)) ∈ gtbl := gq 1816 (by decide +kernel) rfl
theorem q1818 : (Jvm.Cond.instanceMethod ({ cls := "OwnRainModel", name := "addTo", desc := "(II)V" } : Jvm.MethodName)) ∈ gtbl := gq 1818 (by decide +kernel) rfl
set_option maxRecDepth 100000 in
theorem q1819 : (Jvm.Cond.code ({ cls := "OwnRainModel", name := "addTo", desc := "(II)V" } : Jvm.MethodName) prog_14_method_11_code (3 : Nat) (Option.none : Option Jvm.ClassFile.FieldType)) ∈ gtbl := gq 1819 rfl rfl
theorem q1820 : (Jvm.Cond.methodLink "OwnRainModel" (379 : Nat) ({ cls := "OwnRainModel", name := "rainOf", desc := "(I)V" } : Jvm.MethodName)) ∈ gtbl := gq 1820 (by decide +kernel) rfl
theorem q1822 : (Jvm.Cond.instanceMethod ({ cls := "OwnRainModel", name := "rainOf", desc := "(I)V" } : Jvm.MethodName)) ∈ gtbl := gq 1822 (by decide +kernel) rfl
set_option maxRecDepth 100000 in
theorem q1823 : (Jvm.Cond.code ({ cls := "OwnRainModel", name := "rainOf", desc := "(I)V" } : Jvm.MethodName) prog_14_method_70_code (5 : Nat) (Option.none : Option Jvm.ClassFile.FieldType)) ∈ gtbl := gq 1823 rfl rfl
theorem q1824 : (Jvm.Cond.methodLink "OwnRainModel" (361 : Nat) ({ cls := "OwnRainModel", name := "wet", desc := "(II)V" } : Jvm.MethodName)) ∈ gtbl := gq 1824 (by decide +kernel) rfl
theorem q1826 : (Jvm.Cond.instanceMethod ({ cls := "OwnRainModel", name := "wet", desc := "(II)V" } : Jvm.MethodName)) ∈ gtbl := gq 1826 (by decide +kernel) rfl
set_option maxRecDepth 100000 in
theorem q1827 : (Jvm.Cond.code ({ cls := "OwnRainModel", name := "wet", desc := "(II)V" } : Jvm.MethodName) prog_14_method_12_code (3 : Nat) (Option.none : Option Jvm.ClassFile.FieldType)) ∈ gtbl := gq 1827 rfl rfl
theorem q1828 : (Jvm.Cond.methodLink "OwnRainModel" (370 : Nat) ({ cls := "OwnRainModel", name := "write", desc := "(II)V" } : Jvm.MethodName)) ∈ gtbl := gq 1828 (by decide +kernel) rfl
theorem q1830 : (Jvm.Cond.instanceMethod ({ cls := "OwnRainModel", name := "write", desc := "(II)V" } : Jvm.MethodName)) ∈ gtbl := gq 1830 (by decide +kernel) rfl
set_option maxRecDepth 100000 in
theorem q1831 : (Jvm.Cond.code ({ cls := "OwnRainModel", name := "write", desc := "(II)V" } : Jvm.MethodName) prog_14_method_69_code (3 : Nat) (Option.none : Option Jvm.ClassFile.FieldType)) ∈ gtbl := gq 1831 rfl rfl
theorem q1832 : (Jvm.Cond.methodLink "OwnRainModel" (385 : Nat) ({ cls := "OwnRainModel", name := "dryAll", desc := "()V" } : Jvm.MethodName)) ∈ gtbl := gq 1832 (by decide +kernel) rfl
theorem q1834 : (Jvm.Cond.instanceMethod ({ cls := "OwnRainModel", name := "dryAll", desc := "()V" } : Jvm.MethodName)) ∈ gtbl := gq 1834 (by decide +kernel) rfl
set_option maxRecDepth 100000 in
theorem q1835 : (Jvm.Cond.code ({ cls := "OwnRainModel", name := "dryAll", desc := "()V" } : Jvm.MethodName) prog_14_method_72_code (4 : Nat) (Option.none : Option Jvm.ClassFile.FieldType)) ∈ gtbl := gq 1835 rfl rfl
theorem q1836 : (Jvm.Cond.methodLink "OwnRainLaw" (59 : Nat) ({ cls := "OwnRainModel", name := "work", desc := "(II)Z" } : Jvm.MethodName)) ∈ gtbl := gq 1836 (by decide +kernel) rfl
theorem q1837 : (Jvm.Cond.instanceMethod ({ cls := "OwnRainModel", name := "work", desc := "(II)Z" } : Jvm.MethodName)) ∈ gtbl := gq 1837 (by decide +kernel) rfl
theorem q1838 : (Jvm.Cond.selects "OwnRainModel" ({ cls := "OwnRainModel", name := "work", desc := "(II)Z" } : Jvm.MethodName) ({ cls := "OwnRainModel", name := "work", desc := "(II)Z" } : Jvm.MethodName)) ∈ gtbl := gq 1838 (by decide +kernel) rfl
set_option maxRecDepth 100000 in
theorem q1839 : (Jvm.Cond.code ({ cls := "OwnRainModel", name := "work", desc := "(II)Z" } : Jvm.MethodName) prog_14_method_78_code (3 : Nat) (Option.some Jvm.ClassFile.FieldType.boolean)) ∈ gtbl := gq 1839 rfl rfl
theorem q1840 : (Jvm.Cond.methodLink "OwnRainModel" (397 : Nat) ({ cls := "OwnRainModel", name := "isPerson", desc := "(I)Z" } : Jvm.MethodName)) ∈ gtbl := gq 1840 (by decide +kernel) rfl
theorem q1842 : (Jvm.Cond.instanceMethod ({ cls := "OwnRainModel", name := "isPerson", desc := "(I)Z" } : Jvm.MethodName)) ∈ gtbl := gq 1842 (by decide +kernel) rfl
set_option maxRecDepth 100000 in
theorem q1843 : (Jvm.Cond.code ({ cls := "OwnRainModel", name := "isPerson", desc := "(I)Z" } : Jvm.MethodName) prog_14_method_7_code (2 : Nat) (Option.some Jvm.ClassFile.FieldType.boolean)) ∈ gtbl := gq 1843 rfl rfl
theorem q1844 : (Jvm.Cond.methodLink "OwnRainLaw" (63 : Nat) ({ cls := "OwnRainModel", name := "go", desc := "(II)Z" } : Jvm.MethodName)) ∈ gtbl := gq 1844 (by decide +kernel) rfl
theorem q1845 : (Jvm.Cond.instanceMethod ({ cls := "OwnRainModel", name := "go", desc := "(II)Z" } : Jvm.MethodName)) ∈ gtbl := gq 1845 (by decide +kernel) rfl
theorem q1846 : (Jvm.Cond.selects "OwnRainModel" ({ cls := "OwnRainModel", name := "go", desc := "(II)Z" } : Jvm.MethodName) ({ cls := "OwnRainModel", name := "go", desc := "(II)Z" } : Jvm.MethodName)) ∈ gtbl := gq 1846 (by decide +kernel) rfl
set_option maxRecDepth 100000 in
theorem q1847 : (Jvm.Cond.code ({ cls := "OwnRainModel", name := "go", desc := "(II)Z" } : Jvm.MethodName) prog_14_method_80_code (3 : Nat) (Option.some Jvm.ClassFile.FieldType.boolean)) ∈ gtbl := gq 1847 rfl rfl
theorem q1848 : (Jvm.Cond.methodLink "OwnRainModel" (400 : Nat) ({ cls := "OwnRainModel", name := "canGo", desc := "(II)Z" } : Jvm.MethodName)) ∈ gtbl := gq 1848 (by decide +kernel) rfl
theorem q1850 : (Jvm.Cond.instanceMethod ({ cls := "OwnRainModel", name := "canGo", desc := "(II)Z" } : Jvm.MethodName)) ∈ gtbl := gq 1850 (by decide +kernel) rfl
set_option maxRecDepth 100000 in
theorem q1851 : (Jvm.Cond.code ({ cls := "OwnRainModel", name := "canGo", desc := "(II)Z" } : Jvm.MethodName) prog_14_method_79_code (3 : Nat) (Option.some Jvm.ClassFile.FieldType.boolean)) ∈ gtbl := gq 1851 rfl rfl
theorem q1852 : (Jvm.Cond.methodLink "OwnRainLaw" (68 : Nat) ({ cls := "OwnRainModel", name := "shake", desc := "(II)I" } : Jvm.MethodName)) ∈ gtbl := gq 1852 (by decide +kernel) rfl
theorem q1853 : (Jvm.Cond.instanceMethod ({ cls := "OwnRainModel", name := "shake", desc := "(II)I" } : Jvm.MethodName)) ∈ gtbl := gq 1853 (by decide +kernel) rfl
theorem q1854 : (Jvm.Cond.selects "OwnRainModel" ({ cls := "OwnRainModel", name := "shake", desc := "(II)I" } : Jvm.MethodName) ({ cls := "OwnRainModel", name := "shake", desc := "(II)I" } : Jvm.MethodName)) ∈ gtbl := gq 1854 (by decide +kernel) rfl
set_option maxRecDepth 100000 in
theorem q1855 : (Jvm.Cond.code ({ cls := "OwnRainModel", name := "shake", desc := "(II)I" } : Jvm.MethodName) prog_14_method_83_code (3 : Nat) (Option.some Jvm.ClassFile.FieldType.int)) ∈ gtbl := gq 1855 rfl rfl
theorem q1856 : (Jvm.Cond.methodLink "OwnRainModel" (403 : Nat) ({ cls := "OwnRainModel", name := "canShake", desc := "(II)Z" } : Jvm.MethodName)) ∈ gtbl := gq 1856 (by decide +kernel) rfl
theorem q1858 : (Jvm.Cond.instanceMethod ({ cls := "OwnRainModel", name := "canShake", desc := "(II)Z" } : Jvm.MethodName)) ∈ gtbl := gq 1858 (by decide +kernel) rfl
set_option maxRecDepth 100000 in
theorem q1859 : (Jvm.Cond.code ({ cls := "OwnRainModel", name := "canShake", desc := "(II)Z" } : Jvm.MethodName) prog_14_method_81_code (3 : Nat) (Option.some Jvm.ClassFile.FieldType.boolean)) ∈ gtbl := gq 1859 rfl rfl
theorem q1860 : (Jvm.Cond.methodLink "OwnRainModel" (406 : Nat) ({ cls := "OwnRainModel", name := "shakeNow", desc := "(II)V" } : Jvm.MethodName)) ∈ gtbl := gq 1860 (by decide +kernel) rfl
theorem q1862 : (Jvm.Cond.instanceMethod ({ cls := "OwnRainModel", name := "shakeNow", desc := "(II)V" } : Jvm.MethodName)) ∈ gtbl := gq 1862 (by decide +kernel) rfl
set_option maxRecDepth 100000 in
theorem q1863 : (Jvm.Cond.code ({ cls := "OwnRainModel", name := "shakeNow", desc := "(II)V" } : Jvm.MethodName) prog_14_method_82_code (5 : Nat) (Option.none : Option Jvm.ClassFile.FieldType)) ∈ gtbl := gq 1863 rfl rfl
theorem q1864 : (Jvm.Cond.methodLink "OwnRainLaw" (72 : Nat) ({ cls := "OwnRainModel", name := "steal", desc := "(III)I" } : Jvm.MethodName)) ∈ gtbl := gq 1864 (by decide +kernel) rfl
theorem q1865 : (Jvm.Cond.instanceMethod ({ cls := "OwnRainModel", name := "steal", desc := "(III)I" } : Jvm.MethodName)) ∈ gtbl := gq 1865 (by decide +kernel) rfl
theorem q1866 : (Jvm.Cond.selects "OwnRainModel" ({ cls := "OwnRainModel", name := "steal", desc := "(III)I" } : Jvm.MethodName) ({ cls := "OwnRainModel", name := "steal", desc := "(III)I" } : Jvm.MethodName)) ∈ gtbl := gq 1866 (by decide +kernel) rfl
set_option maxRecDepth 100000 in
theorem q1867 : (Jvm.Cond.code ({ cls := "OwnRainModel", name := "steal", desc := "(III)I" } : Jvm.MethodName) prog_14_method_86_code (4 : Nat) (Option.some Jvm.ClassFile.FieldType.int)) ∈ gtbl := gq 1867 rfl rfl
theorem q1868 : (Jvm.Cond.methodLink "OwnRainModel" (409 : Nat) ({ cls := "OwnRainModel", name := "canSteal", desc := "(III)Z" } : Jvm.MethodName)) ∈ gtbl := gq 1868 (by decide +kernel) rfl
theorem q1870 : (Jvm.Cond.instanceMethod ({ cls := "OwnRainModel", name := "canSteal", desc := "(III)Z" } : Jvm.MethodName)) ∈ gtbl := gq 1870 (by decide +kernel) rfl
set_option maxRecDepth 100000 in
theorem q1871 : (Jvm.Cond.code ({ cls := "OwnRainModel", name := "canSteal", desc := "(III)Z" } : Jvm.MethodName) prog_14_method_84_code (4 : Nat) (Option.some Jvm.ClassFile.FieldType.boolean)) ∈ gtbl := gq 1871 rfl rfl
theorem q1872 : (Jvm.Cond.methodLink "OwnRainModel" (412 : Nat) ({ cls := "OwnRainModel", name := "stealNow", desc := "(III)V" } : Jvm.MethodName)) ∈ gtbl := gq 1872 (by decide +kernel) rfl
theorem q1874 : (Jvm.Cond.instanceMethod ({ cls := "OwnRainModel", name := "stealNow", desc := "(III)V" } : Jvm.MethodName)) ∈ gtbl := gq 1874 (by decide +kernel) rfl
set_option maxRecDepth 100000 in
theorem q1875 : (Jvm.Cond.code ({ cls := "OwnRainModel", name := "stealNow", desc := "(III)V" } : Jvm.MethodName) prog_14_method_85_code (4 : Nat) (Option.none : Option Jvm.ClassFile.FieldType)) ∈ gtbl := gq 1875 rfl rfl
theorem q1876 : (Jvm.Cond.methodLink "OwnRainLaw" (76 : Nat) ({ cls := "OwnRainModel", name := "pour", desc := "(II)I" } : Jvm.MethodName)) ∈ gtbl := gq 1876 (by decide +kernel) rfl
theorem q1877 : (Jvm.Cond.instanceMethod ({ cls := "OwnRainModel", name := "pour", desc := "(II)I" } : Jvm.MethodName)) ∈ gtbl := gq 1877 (by decide +kernel) rfl
theorem q1878 : (Jvm.Cond.selects "OwnRainModel" ({ cls := "OwnRainModel", name := "pour", desc := "(II)I" } : Jvm.MethodName) ({ cls := "OwnRainModel", name := "pour", desc := "(II)I" } : Jvm.MethodName)) ∈ gtbl := gq 1878 (by decide +kernel) rfl
set_option maxRecDepth 100000 in
theorem q1879 : (Jvm.Cond.code ({ cls := "OwnRainModel", name := "pour", desc := "(II)I" } : Jvm.MethodName) prog_14_method_87_code (3 : Nat) (Option.some Jvm.ClassFile.FieldType.int)) ∈ gtbl := gq 1879 rfl rfl
theorem q1880 : (Jvm.Cond.methodLink "OwnRainLaw" (80 : Nat) ({ cls := "OwnRainModel", name := "played", desc := "(I)I" } : Jvm.MethodName)) ∈ gtbl := gq 1880 (by decide +kernel) rfl
theorem q1881 : (Jvm.Cond.instanceMethod ({ cls := "OwnRainModel", name := "played", desc := "(I)I" } : Jvm.MethodName)) ∈ gtbl := gq 1881 (by decide +kernel) rfl
theorem q1882 : (Jvm.Cond.selects "OwnRainModel" ({ cls := "OwnRainModel", name := "played", desc := "(I)I" } : Jvm.MethodName) ({ cls := "OwnRainModel", name := "played", desc := "(I)I" } : Jvm.MethodName)) ∈ gtbl := gq 1882 (by decide +kernel) rfl
set_option maxRecDepth 100000 in
theorem q1883 : (Jvm.Cond.code ({ cls := "OwnRainModel", name := "played", desc := "(I)I" } : Jvm.MethodName) prog_14_method_90_code (3 : Nat) (Option.some Jvm.ClassFile.FieldType.int)) ∈ gtbl := gq 1883 rfl rfl
theorem q1884 : (Jvm.Cond.methodLink "OwnRainModel" (443 : Nat) ({ cls := "OwnRainModel", name := "isPlayed", desc := "(I)Z" } : Jvm.MethodName)) ∈ gtbl := gq 1884 (by decide +kernel) rfl
theorem q1886 : (Jvm.Cond.instanceMethod ({ cls := "OwnRainModel", name := "isPlayed", desc := "(I)Z" } : Jvm.MethodName)) ∈ gtbl := gq 1886 (by decide +kernel) rfl
set_option maxRecDepth 100000 in
theorem q1887 : (Jvm.Cond.code ({ cls := "OwnRainModel", name := "isPlayed", desc := "(I)Z" } : Jvm.MethodName) prog_14_method_89_code (5 : Nat) (Option.some Jvm.ClassFile.FieldType.boolean)) ∈ gtbl := gq 1887 rfl rfl
theorem q1888 : (Jvm.Cond.methodLink "OwnRainModel" (415 : Nat) ({ cls := "OwnRainModel", name := "field", desc := "(III)I" } : Jvm.MethodName)) ∈ gtbl := gq 1888 (by decide +kernel) rfl
theorem q1889 : (Jvm.Cond.methodLink "OwnRainModel" (418 : Nat) ({ cls := "OwnRainModel", name := "road", desc := "(II)Z" } : Jvm.MethodName)) ∈ gtbl := gq 1889 (by decide +kernel) rfl
theorem q1890 : (Jvm.Cond.methodLink "OwnRainModel" (421 : Nat) ({ cls := "OwnRainModel", name := "person", desc := "(IIII)I" } : Jvm.MethodName)) ∈ gtbl := gq 1890 (by decide +kernel) rfl
theorem q1891 : (Jvm.Cond.methodLink "OwnRainModel" (425 : Nat) ({ cls := "OwnRainModel", name := "work", desc := "(II)Z" } : Jvm.MethodName)) ∈ gtbl := gq 1891 (by decide +kernel) rfl
theorem q1892 : (Jvm.Cond.methodLink "OwnRainModel" (428 : Nat) ({ cls := "OwnRainModel", name := "go", desc := "(II)Z" } : Jvm.MethodName)) ∈ gtbl := gq 1892 (by decide +kernel) rfl
theorem q1893 : (Jvm.Cond.methodLink "OwnRainModel" (431 : Nat) ({ cls := "OwnRainModel", name := "shake", desc := "(II)I" } : Jvm.MethodName)) ∈ gtbl := gq 1893 (by decide +kernel) rfl
theorem q1894 : (Jvm.Cond.methodLink "OwnRainModel" (434 : Nat) ({ cls := "OwnRainModel", name := "steal", desc := "(III)I" } : Jvm.MethodName)) ∈ gtbl := gq 1894 (by decide +kernel) rfl
theorem q1895 : (Jvm.Cond.methodLink "OwnRainModel" (437 : Nat) ({ cls := "OwnRainModel", name := "pour", desc := "(II)I" } : Jvm.MethodName)) ∈ gtbl := gq 1895 (by decide +kernel) rfl
theorem q1896 : (Jvm.Cond.methodLink "OwnRainModel" (440 : Nat) ({ cls := "OwnRainModel", name := "areHours", desc := "(I)Z" } : Jvm.MethodName)) ∈ gtbl := gq 1896 (by decide +kernel) rfl
theorem q1898 : (Jvm.Cond.instanceMethod ({ cls := "OwnRainModel", name := "areHours", desc := "(I)Z" } : Jvm.MethodName)) ∈ gtbl := gq 1898 (by decide +kernel) rfl
set_option maxRecDepth 100000 in
theorem q1899 : (Jvm.Cond.code ({ cls := "OwnRainModel", name := "areHours", desc := "(I)Z" } : Jvm.MethodName) prog_14_method_88_code (3 : Nat) (Option.some Jvm.ClassFile.FieldType.boolean)) ∈ gtbl := gq 1899 rfl rfl
theorem q1900 : (Jvm.Cond.methodLink "OwnRainLaw" (84 : Nat) ({ cls := "OwnRainModel", name := "year", desc := "(II)I" } : Jvm.MethodName)) ∈ gtbl := gq 1900 (by decide +kernel) rfl
theorem q1901 : (Jvm.Cond.instanceMethod ({ cls := "OwnRainModel", name := "year", desc := "(II)I" } : Jvm.MethodName)) ∈ gtbl := gq 1901 (by decide +kernel) rfl
theorem q1902 : (Jvm.Cond.selects "OwnRainModel" ({ cls := "OwnRainModel", name := "year", desc := "(II)I" } : Jvm.MethodName) ({ cls := "OwnRainModel", name := "year", desc := "(II)I" } : Jvm.MethodName)) ∈ gtbl := gq 1902 (by decide +kernel) rfl
set_option maxRecDepth 100000 in
theorem q1903 : (Jvm.Cond.code ({ cls := "OwnRainModel", name := "year", desc := "(II)I" } : Jvm.MethodName) prog_14_method_93_code (7 : Nat) (Option.some Jvm.ClassFile.FieldType.int)) ∈ gtbl := gq 1903 rfl rfl
theorem q1904 : (Jvm.Cond.methodLink "OwnRainModel" (446 : Nat) ({ cls := "OwnRainModel", name := "anew", desc := "(I)I" } : Jvm.MethodName)) ∈ gtbl := gq 1904 (by decide +kernel) rfl
theorem q1905 : (Jvm.Cond.static ({ cls := "OwnRainModel", name := "anew", desc := "(I)I" } : Jvm.MethodName)) ∈ gtbl := gq 1905 (by decide +kernel) rfl
set_option maxRecDepth 100000 in
theorem q1906 : (Jvm.Cond.code ({ cls := "OwnRainModel", name := "anew", desc := "(I)I" } : Jvm.MethodName) prog_14_method_91_code (1 : Nat) (Option.some Jvm.ClassFile.FieldType.int)) ∈ gtbl := gq 1906 rfl rfl
theorem q1907 : (Jvm.Cond.methodLink "OwnRainModel" (449 : Nat) ({ cls := "OwnRainModel", name := "happens", desc := "(II)I" } : Jvm.MethodName)) ∈ gtbl := gq 1907 (by decide +kernel) rfl
theorem q1909 : (Jvm.Cond.instanceMethod ({ cls := "OwnRainModel", name := "happens", desc := "(II)I" } : Jvm.MethodName)) ∈ gtbl := gq 1909 (by decide +kernel) rfl
set_option maxRecDepth 100000 in
theorem q1910 : (Jvm.Cond.code ({ cls := "OwnRainModel", name := "happens", desc := "(II)I" } : Jvm.MethodName) prog_14_method_92_code (6 : Nat) (Option.some Jvm.ClassFile.FieldType.int)) ∈ gtbl := gq 1910 rfl rfl
theorem q1911 : (Jvm.Cond.methodLink "OwnRainLaw" (92 : Nat) ({ cls := "OwnRainModel", name := "ofField", desc := "(II)I" } : Jvm.MethodName)) ∈ gtbl := gq 1911 (by decide +kernel) rfl
theorem q1912 : (Jvm.Cond.instanceMethod ({ cls := "OwnRainModel", name := "ofField", desc := "(II)I" } : Jvm.MethodName)) ∈ gtbl := gq 1912 (by decide +kernel) rfl
theorem q1913 : (Jvm.Cond.selects "OwnRainModel" ({ cls := "OwnRainModel", name := "ofField", desc := "(II)I" } : Jvm.MethodName) ({ cls := "OwnRainModel", name := "ofField", desc := "(II)I" } : Jvm.MethodName)) ∈ gtbl := gq 1913 (by decide +kernel) rfl
set_option maxRecDepth 100000 in
theorem q1914 : (Jvm.Cond.code ({ cls := "OwnRainModel", name := "ofField", desc := "(II)I" } : Jvm.MethodName) prog_14_method_95_code (3 : Nat) (Option.some Jvm.ClassFile.FieldType.int)) ∈ gtbl := gq 1914 rfl rfl
theorem q1915 : (Jvm.Cond.methodLink "OwnRainModel" (452 : Nat) ({ cls := "OwnRainModel", name := "peopleOn", desc := "(I)I" } : Jvm.MethodName)) ∈ gtbl := gq 1915 (by decide +kernel) rfl
theorem q1917 : (Jvm.Cond.instanceMethod ({ cls := "OwnRainModel", name := "peopleOn", desc := "(I)I" } : Jvm.MethodName)) ∈ gtbl := gq 1917 (by decide +kernel) rfl
set_option maxRecDepth 100000 in
theorem q1918 : (Jvm.Cond.code ({ cls := "OwnRainModel", name := "peopleOn", desc := "(I)I" } : Jvm.MethodName) prog_14_method_94_code (4 : Nat) (Option.some Jvm.ClassFile.FieldType.int)) ∈ gtbl := gq 1918 rfl rfl
theorem q1919 : (Jvm.Cond.methodLink "OwnRainLaw" (96 : Nat) ({ cls := "OwnRainModel", name := "ofPerson", desc := "(II)I" } : Jvm.MethodName)) ∈ gtbl := gq 1919 (by decide +kernel) rfl
theorem q1920 : (Jvm.Cond.instanceMethod ({ cls := "OwnRainModel", name := "ofPerson", desc := "(II)I" } : Jvm.MethodName)) ∈ gtbl := gq 1920 (by decide +kernel) rfl
theorem q1921 : (Jvm.Cond.selects "OwnRainModel" ({ cls := "OwnRainModel", name := "ofPerson", desc := "(II)I" } : Jvm.MethodName) ({ cls := "OwnRainModel", name := "ofPerson", desc := "(II)I" } : Jvm.MethodName)) ∈ gtbl := gq 1921 (by decide +kernel) rfl
set_option maxRecDepth 100000 in
theorem q1922 : (Jvm.Cond.code ({ cls := "OwnRainModel", name := "ofPerson", desc := "(II)I" } : Jvm.MethodName) prog_14_method_97_code (3 : Nat) (Option.some Jvm.ClassFile.FieldType.int)) ∈ gtbl := gq 1922 rfl rfl
theorem q1923 : (Jvm.Cond.methodLink "OwnRainModel" (455 : Nat) ({ cls := "OwnRainModel", name := "wasAt", desc := "(II)I" } : Jvm.MethodName)) ∈ gtbl := gq 1923 (by decide +kernel) rfl
theorem q1925 : (Jvm.Cond.instanceMethod ({ cls := "OwnRainModel", name := "wasAt", desc := "(II)I" } : Jvm.MethodName)) ∈ gtbl := gq 1925 (by decide +kernel) rfl
set_option maxRecDepth 100000 in
theorem q1926 : (Jvm.Cond.code ({ cls := "OwnRainModel", name := "wasAt", desc := "(II)I" } : Jvm.MethodName) prog_14_method_96_code (3 : Nat) (Option.some Jvm.ClassFile.FieldType.int)) ∈ gtbl := gq 1926 rfl rfl
theorem q1927 : (Jvm.Cond.methodLink "OwnRainLaw" (100 : Nat) ({ cls := "OwnRainModel", name := "rained", desc := "(II)I" } : Jvm.MethodName)) ∈ gtbl := gq 1927 (by decide +kernel) rfl
theorem q1928 : (Jvm.Cond.instanceMethod ({ cls := "OwnRainModel", name := "rained", desc := "(II)I" } : Jvm.MethodName)) ∈ gtbl := gq 1928 (by decide +kernel) rfl
theorem q1929 : (Jvm.Cond.selects "OwnRainModel" ({ cls := "OwnRainModel", name := "rained", desc := "(II)I" } : Jvm.MethodName) ({ cls := "OwnRainModel", name := "rained", desc := "(II)I" } : Jvm.MethodName)) ∈ gtbl := gq 1929 (by decide +kernel) rfl
set_option maxRecDepth 100000 in
theorem q1930 : (Jvm.Cond.code ({ cls := "OwnRainModel", name := "rained", desc := "(II)I" } : Jvm.MethodName) prog_14_method_98_code (5 : Nat) (Option.some Jvm.ClassFile.FieldType.int)) ∈ gtbl := gq 1930 rfl rfl
theorem q1931 : (Jvm.Cond.constant "OwnRainModel" (458 : Nat) (6000000 : Int32)) ∈ gtbl := gq 1931 (by decide +kernel) rfl
theorem q1932 : (Jvm.Cond.methodLink "OwnRainLaw" (104 : Nat) ({ cls := "OwnRainModel", name := "foretoldWet", desc := "(II)I" } : Jvm.MethodName)) ∈ gtbl := gq 1932 (by decide +kernel) rfl
theorem q1933 : (Jvm.Cond.instanceMethod ({ cls := "OwnRainModel", name := "foretoldWet", desc := "(II)I" } : Jvm.MethodName)) ∈ gtbl := gq 1933 (by decide +kernel) rfl
theorem q1934 : (Jvm.Cond.selects "OwnRainModel" ({ cls := "OwnRainModel", name := "foretoldWet", desc := "(II)I" } : Jvm.MethodName) ({ cls := "OwnRainModel", name := "foretoldWet", desc := "(II)I" } : Jvm.MethodName)) ∈ gtbl := gq 1934 (by decide +kernel) rfl
set_option maxRecDepth 100000 in
theorem q1935 : (Jvm.Cond.code ({ cls := "OwnRainModel", name := "foretoldWet", desc := "(II)I" } : Jvm.MethodName) prog_14_method_102_code (4 : Nat) (Option.some Jvm.ClassFile.FieldType.int)) ∈ gtbl := gq 1935 rfl rfl
theorem q1936 : (Jvm.Cond.methodLink "OwnRainModel" (459 : Nat) ({ cls := "OwnRainModel", name := "begin", desc := "()V" } : Jvm.MethodName)) ∈ gtbl := gq 1936 (by decide +kernel) rfl
theorem q1938 : (Jvm.Cond.instanceMethod ({ cls := "OwnRainModel", name := "begin", desc := "()V" } : Jvm.MethodName)) ∈ gtbl := gq 1938 (by decide +kernel) rfl
set_option maxRecDepth 100000 in
theorem q1939 : (Jvm.Cond.code ({ cls := "OwnRainModel", name := "begin", desc := "()V" } : Jvm.MethodName) prog_14_method_99_code (2 : Nat) (Option.none : Option Jvm.ClassFile.FieldType)) ∈ gtbl := gq 1939 rfl rfl
theorem q1940 : (Jvm.Cond.methodLink "OwnRainModel" (462 : Nat) ({ cls := "OwnRainModel", name := "passOnward", desc := "()V" } : Jvm.MethodName)) ∈ gtbl := gq 1940 (by decide +kernel) rfl
theorem q1942 : (Jvm.Cond.instanceMethod ({ cls := "OwnRainModel", name := "passOnward", desc := "()V" } : Jvm.MethodName)) ∈ gtbl := gq 1942 (by decide +kernel) rfl
set_option maxRecDepth 100000 in
theorem q1943 : (Jvm.Cond.code ({ cls := "OwnRainModel", name := "passOnward", desc := "()V" } : Jvm.MethodName) prog_14_method_101_code (2 : Nat) (Option.none : Option Jvm.ClassFile.FieldType)) ∈ gtbl := gq 1943 rfl rfl
theorem q1944 : (Jvm.Cond.methodLink "OwnRainModel" (465 : Nat) ({ cls := "OwnRainModel", name := "putBack", desc := "()V" } : Jvm.MethodName)) ∈ gtbl := gq 1944 (by decide +kernel) rfl
theorem q1946 : (Jvm.Cond.instanceMethod ({ cls := "OwnRainModel", name := "putBack", desc := "()V" } : Jvm.MethodName)) ∈ gtbl := gq 1946 (by decide +kernel) rfl
set_option maxRecDepth 100000 in
theorem q1947 : (Jvm.Cond.code ({ cls := "OwnRainModel", name := "putBack", desc := "()V" } : Jvm.MethodName) prog_14_method_100_code (2 : Nat) (Option.none : Option Jvm.ClassFile.FieldType)) ∈ gtbl := gq 1947 rfl rfl
theorem q1948 : (Jvm.Cond.methodLink "OwnRainLaw" (109 : Nat) ({ cls := "OwnRainModel", name := "foretoldCloud", desc := "(IIZ)I" } : Jvm.MethodName)) ∈ gtbl := gq 1948 (by decide +kernel) rfl
theorem q1949 : (Jvm.Cond.instanceMethod ({ cls := "OwnRainModel", name := "foretoldCloud", desc := "(IIZ)I" } : Jvm.MethodName)) ∈ gtbl := gq 1949 (by decide +kernel) rfl
theorem q1950 : (Jvm.Cond.selects "OwnRainModel" ({ cls := "OwnRainModel", name := "foretoldCloud", desc := "(IIZ)I" } : Jvm.MethodName) ({ cls := "OwnRainModel", name := "foretoldCloud", desc := "(IIZ)I" } : Jvm.MethodName)) ∈ gtbl := gq 1950 (by decide +kernel) rfl
set_option maxRecDepth 100000 in
theorem q1951 : (Jvm.Cond.code ({ cls := "OwnRainModel", name := "foretoldCloud", desc := "(IIZ)I" } : Jvm.MethodName) prog_14_method_103_code (5 : Nat) (Option.some Jvm.ClassFile.FieldType.int)) ∈ gtbl := gq 1951 rfl rfl
theorem q1952 : (Jvm.Cond.methodLink "OwnRainLaw" (113 : Nat) ({ cls := "OwnRainModel", name := "plan", desc := "(III)I" } : Jvm.MethodName)) ∈ gtbl := gq 1952 (by decide +kernel) rfl
theorem q1953 : (Jvm.Cond.instanceMethod ({ cls := "OwnRainModel", name := "plan", desc := "(III)I" } : Jvm.MethodName)) ∈ gtbl := gq 1953 (by decide +kernel) rfl
theorem q1954 : (Jvm.Cond.selects "OwnRainModel" ({ cls := "OwnRainModel", name := "plan", desc := "(III)I" } : Jvm.MethodName) ({ cls := "OwnRainModel", name := "plan", desc := "(III)I" } : Jvm.MethodName)) ∈ gtbl := gq 1954 (by decide +kernel) rfl
set_option maxRecDepth 100000 in
theorem q1955 : (Jvm.Cond.code ({ cls := "OwnRainModel", name := "plan", desc := "(III)I" } : Jvm.MethodName) prog_14_method_106_code (8 : Nat) (Option.some Jvm.ClassFile.FieldType.int)) ∈ gtbl := gq 1955 rfl rfl
theorem q1956 : (Jvm.Cond.constant "OwnRainModel" (471 : Nat) (1000000 : Int32)) ∈ gtbl := gq 1956 (by decide +kernel) rfl
theorem q1957 : (Jvm.Cond.methodLink "OwnRainModel" (472 : Nat) ({ cls := "OwnRainModel", name := "sweatBy", desc := "(III)I" } : Jvm.MethodName)) ∈ gtbl := gq 1957 (by decide +kernel) rfl
theorem q1959 : (Jvm.Cond.instanceMethod ({ cls := "OwnRainModel", name := "sweatBy", desc := "(III)I" } : Jvm.MethodName)) ∈ gtbl := gq 1959 (by decide +kernel) rfl
set_option maxRecDepth 100000 in
theorem q1960 : (Jvm.Cond.code ({ cls := "OwnRainModel", name := "sweatBy", desc := "(III)I" } : Jvm.MethodName) prog_14_method_104_code (10 : Nat) (Option.some Jvm.ClassFile.FieldType.int)) ∈ gtbl := gq 1960 rfl rfl
theorem q1961 : (Jvm.Cond.methodLink "OwnRainModel" (468 : Nat) ({ cls := "OwnRainModel", name := "sweatAllFor", desc := "(I)I" } : Jvm.MethodName)) ∈ gtbl := gq 1961 (by decide +kernel) rfl
theorem q1963 : (Jvm.Cond.instanceMethod ({ cls := "OwnRainModel", name := "sweatAllFor", desc := "(I)I" } : Jvm.MethodName)) ∈ gtbl := gq 1963 (by decide +kernel) rfl
set_option maxRecDepth 100000 in
theorem q1964 : (Jvm.Cond.code ({ cls := "OwnRainModel", name := "sweatAllFor", desc := "(I)I" } : Jvm.MethodName) prog_14_method_105_code (5 : Nat) (Option.some Jvm.ClassFile.FieldType.int)) ∈ gtbl := gq 1964 rfl rfl
theorem q1965 : (Jvm.Cond.methodLink "OwnRainLaw" (117 : Nat) ({ cls := "OwnRainModel", name := "match", desc := "(III)I" } : Jvm.MethodName)) ∈ gtbl := gq 1965 (by decide +kernel) rfl
theorem q1966 : (Jvm.Cond.instanceMethod ({ cls := "OwnRainModel", name := "match", desc := "(III)I" } : Jvm.MethodName)) ∈ gtbl := gq 1966 (by decide +kernel) rfl
theorem q1967 : (Jvm.Cond.selects "OwnRainModel" ({ cls := "OwnRainModel", name := "match", desc := "(III)I" } : Jvm.MethodName) ({ cls := "OwnRainModel", name := "match", desc := "(III)I" } : Jvm.MethodName)) ∈ gtbl := gq 1967 (by decide +kernel) rfl
set_option maxRecDepth 100000 in
theorem q1968 : (Jvm.Cond.code ({ cls := "OwnRainModel", name := "match", desc := "(III)I" } : Jvm.MethodName) prog_14_method_110_code (9 : Nat) (Option.some Jvm.ClassFile.FieldType.int)) ∈ gtbl := gq 1968 rfl rfl
theorem q1969 : (Jvm.Cond.methodLink "OwnRainModel" (478 : Nat) ({ cls := "OwnRainModel", name := "layWorkers", desc := "(II)Z" } : Jvm.MethodName)) ∈ gtbl := gq 1969 (by decide +kernel) rfl
theorem q1971 : (Jvm.Cond.instanceMethod ({ cls := "OwnRainModel", name := "layWorkers", desc := "(II)Z" } : Jvm.MethodName)) ∈ gtbl := gq 1971 (by decide +kernel) rfl
set_option maxRecDepth 100000 in
theorem q1972 : (Jvm.Cond.code ({ cls := "OwnRainModel", name := "layWorkers", desc := "(II)Z" } : Jvm.MethodName) prog_14_method_109_code (5 : Nat) (Option.some Jvm.ClassFile.FieldType.boolean)) ∈ gtbl := gq 1972 rfl rfl
theorem q1973 : (Jvm.Cond.methodLink "OwnRainModel" (475 : Nat) ({ cls := "OwnRainModel", name := "bits", desc := "(I)I" } : Jvm.MethodName)) ∈ gtbl := gq 1973 (by decide +kernel) rfl
theorem q1974 : (Jvm.Cond.static ({ cls := "OwnRainModel", name := "bits", desc := "(I)I" } : Jvm.MethodName)) ∈ gtbl := gq 1974 (by decide +kernel) rfl
set_option maxRecDepth 100000 in
theorem q1975 : (Jvm.Cond.code ({ cls := "OwnRainModel", name := "bits", desc := "(I)I" } : Jvm.MethodName) prog_14_method_5_code (3 : Nat) (Option.some Jvm.ClassFile.FieldType.int)) ∈ gtbl := gq 1975 rfl rfl
theorem q1976 : (Jvm.Cond.methodLink "OwnRainModel" (481 : Nat) ({ cls := "OwnRainModel", name := "findYields", desc := "(I)V" } : Jvm.MethodName)) ∈ gtbl := gq 1976 (by decide +kernel) rfl
theorem q1978 : (Jvm.Cond.instanceMethod ({ cls := "OwnRainModel", name := "findYields", desc := "(I)V" } : Jvm.MethodName)) ∈ gtbl := gq 1978 (by decide +kernel) rfl
set_option maxRecDepth 100000 in
theorem q1979 : (Jvm.Cond.code ({ cls := "OwnRainModel", name := "findYields", desc := "(I)V" } : Jvm.MethodName) prog_14_method_108_code (4 : Nat) (Option.none : Option Jvm.ClassFile.FieldType)) ∈ gtbl := gq 1979 rfl rfl
theorem q1980 : (Jvm.Cond.methodLink "OwnRainModel" (484 : Nat) ({ cls := "OwnRainModel", name := "nextOrder", desc := "(I)Z" } : Jvm.MethodName)) ∈ gtbl := gq 1980 (by decide +kernel) rfl
theorem q1982 : (Jvm.Cond.instanceMethod ({ cls := "OwnRainModel", name := "nextOrder", desc := "(I)Z" } : Jvm.MethodName)) ∈ gtbl := gq 1982 (by decide +kernel) rfl
set_option maxRecDepth 100000 in
theorem q1983 : (Jvm.Cond.code ({ cls := "OwnRainModel", name := "nextOrder", desc := "(I)Z" } : Jvm.MethodName) prog_14_method_107_code (7 : Nat) (Option.some Jvm.ClassFile.FieldType.boolean)) ∈ gtbl := gq 1983 rfl rfl
theorem q1984 : (Jvm.Cond.methodLink "OwnRainLaw" (121 : Nat) ({ cls := "OwnRainModel", name := "shares", desc := "(III)I" } : Jvm.MethodName)) ∈ gtbl := gq 1984 (by decide +kernel) rfl
theorem q1985 : (Jvm.Cond.instanceMethod ({ cls := "OwnRainModel", name := "shares", desc := "(III)I" } : Jvm.MethodName)) ∈ gtbl := gq 1985 (by decide +kernel) rfl
theorem q1986 : (Jvm.Cond.selects "OwnRainModel" ({ cls := "OwnRainModel", name := "shares", desc := "(III)I" } : Jvm.MethodName) ({ cls := "OwnRainModel", name := "shares", desc := "(III)I" } : Jvm.MethodName)) ∈ gtbl := gq 1986 (by decide +kernel) rfl
set_option maxRecDepth 100000 in
theorem q1987 : (Jvm.Cond.code ({ cls := "OwnRainModel", name := "shares", desc := "(III)I" } : Jvm.MethodName) prog_14_method_111_code (9 : Nat) (Option.some Jvm.ClassFile.FieldType.int)) ∈ gtbl := gq 1987 rfl rfl
theorem q1988 : (Jvm.Cond.methodLink "OwnRainLaw" (125 : Nat) ({ cls := "OwnRainModel", name := "cross", desc := "(IIII)I" } : Jvm.MethodName)) ∈ gtbl := gq 1988 (by decide +kernel) rfl
theorem q1989 : (Jvm.Cond.instanceMethod ({ cls := "OwnRainModel", name := "cross", desc := "(IIII)I" } : Jvm.MethodName)) ∈ gtbl := gq 1989 (by decide +kernel) rfl
theorem q1990 : (Jvm.Cond.selects "OwnRainModel" ({ cls := "OwnRainModel", name := "cross", desc := "(IIII)I" } : Jvm.MethodName) ({ cls := "OwnRainModel", name := "cross", desc := "(IIII)I" } : Jvm.MethodName)) ∈ gtbl := gq 1990 (by decide +kernel) rfl
set_option maxRecDepth 100000 in
theorem q1991 : (Jvm.Cond.code ({ cls := "OwnRainModel", name := "cross", desc := "(IIII)I" } : Jvm.MethodName) prog_14_method_115_code (8 : Nat) (Option.some Jvm.ClassFile.FieldType.int)) ∈ gtbl := gq 1991 rfl rfl
theorem q1992 : (Jvm.Cond.methodLink "OwnRainModel" (490 : Nat) ({ cls := "OwnRainModel", name := "findRoads", desc := "(II)V" } : Jvm.MethodName)) ∈ gtbl := gq 1992 (by decide +kernel) rfl
theorem q1994 : (Jvm.Cond.instanceMethod ({ cls := "OwnRainModel", name := "findRoads", desc := "(II)V" } : Jvm.MethodName)) ∈ gtbl := gq 1994 (by decide +kernel) rfl
set_option maxRecDepth 100000 in
theorem q1995 : (Jvm.Cond.code ({ cls := "OwnRainModel", name := "findRoads", desc := "(II)V" } : Jvm.MethodName) prog_14_method_113_code (6 : Nat) (Option.none : Option Jvm.ClassFile.FieldType)) ∈ gtbl := gq 1995 rfl rfl
theorem q1996 : (Jvm.Cond.methodLink "OwnRainModel" (487 : Nat) ({ cls := "OwnRainModel", name := "canCome", desc := "(II)Z" } : Jvm.MethodName)) ∈ gtbl := gq 1996 (by decide +kernel) rfl
theorem q1998 : (Jvm.Cond.instanceMethod ({ cls := "OwnRainModel", name := "canCome", desc := "(II)Z" } : Jvm.MethodName)) ∈ gtbl := gq 1998 (by decide +kernel) rfl
set_option maxRecDepth 100000 in
theorem q1999 : (Jvm.Cond.code ({ cls := "OwnRainModel", name := "canCome", desc := "(II)Z" } : Jvm.MethodName) prog_14_method_112_code (3 : Nat) (Option.some Jvm.ClassFile.FieldType.boolean)) ∈ gtbl := gq 1999 rfl rfl
theorem q2000 : (Jvm.Cond.methodLink "OwnRainModel" (493 : Nat) ({ cls := "OwnRainModel", name := "nextField", desc := "(II)I" } : Jvm.MethodName)) ∈ gtbl := gq 2000 (by decide +kernel) rfl
theorem q2002 : (Jvm.Cond.instanceMethod ({ cls := "OwnRainModel", name := "nextField", desc := "(II)I" } : Jvm.MethodName)) ∈ gtbl := gq 2002 (by decide +kernel) rfl
set_option maxRecDepth 100000 in
theorem q2003 : (Jvm.Cond.code ({ cls := "OwnRainModel", name := "nextField", desc := "(II)I" } : Jvm.MethodName) prog_14_method_114_code (4 : Nat) (Option.some Jvm.ClassFile.FieldType.int)) ∈ gtbl := gq 2003 rfl rfl
theorem q2004 : (Jvm.Cond.methodLink "OwnRainLaw" (129 : Nat) ({ cls := "OwnRainModel", name := "widest", desc := "(II)I" } : Jvm.MethodName)) ∈ gtbl := gq 2004 (by decide +kernel) rfl
theorem q2005 : (Jvm.Cond.instanceMethod ({ cls := "OwnRainModel", name := "widest", desc := "(II)I" } : Jvm.MethodName)) ∈ gtbl := gq 2005 (by decide +kernel) rfl
theorem q2006 : (Jvm.Cond.selects "OwnRainModel" ({ cls := "OwnRainModel", name := "widest", desc := "(II)I" } : Jvm.MethodName) ({ cls := "OwnRainModel", name := "widest", desc := "(II)I" } : Jvm.MethodName)) ∈ gtbl := gq 2006 (by decide +kernel) rfl
set_option maxRecDepth 100000 in
theorem q2007 : (Jvm.Cond.code ({ cls := "OwnRainModel", name := "widest", desc := "(II)I" } : Jvm.MethodName) prog_14_method_116_code (4 : Nat) (Option.some Jvm.ClassFile.FieldType.int)) ∈ gtbl := gq 2007 rfl rfl
theorem q2008 : (Jvm.Cond.methodLink "OwnRainLaw" (133 : Nat) ({ cls := "OwnRainModel", name := "missing", desc := "(III)I" } : Jvm.MethodName)) ∈ gtbl := gq 2008 (by decide +kernel) rfl
theorem q2009 : (Jvm.Cond.instanceMethod ({ cls := "OwnRainModel", name := "missing", desc := "(III)I" } : Jvm.MethodName)) ∈ gtbl := gq 2009 (by decide +kernel) rfl
theorem q2010 : (Jvm.Cond.selects "OwnRainModel" ({ cls := "OwnRainModel", name := "missing", desc := "(III)I" } : Jvm.MethodName) ({ cls := "OwnRainModel", name := "missing", desc := "(III)I" } : Jvm.MethodName)) ∈ gtbl := gq 2010 (by decide +kernel) rfl
set_option maxRecDepth 100000 in
theorem q2011 : (Jvm.Cond.code ({ cls := "OwnRainModel", name := "missing", desc := "(III)I" } : Jvm.MethodName) prog_14_method_117_code (5 : Nat) (Option.some Jvm.ClassFile.FieldType.int)) ∈ gtbl := gq 2011 rfl rfl
theorem q2012 : (Jvm.Cond.methodLink "OwnRainLaw" (137 : Nat) ({ cls := "OwnRainModel", name := "near", desc := "(I)I" } : Jvm.MethodName)) ∈ gtbl := gq 2012 (by decide +kernel) rfl
theorem q2013 : (Jvm.Cond.instanceMethod ({ cls := "OwnRainModel", name := "near", desc := "(I)I" } : Jvm.MethodName)) ∈ gtbl := gq 2013 (by decide +kernel) rfl
theorem q2014 : (Jvm.Cond.selects "OwnRainModel" ({ cls := "OwnRainModel", name := "near", desc := "(I)I" } : Jvm.MethodName) ({ cls := "OwnRainModel", name := "near", desc := "(I)I" } : Jvm.MethodName)) ∈ gtbl := gq 2014 (by decide +kernel) rfl
set_option maxRecDepth 100000 in
theorem q2015 : (Jvm.Cond.code ({ cls := "OwnRainModel", name := "near", desc := "(I)I" } : Jvm.MethodName) prog_14_method_119_code (4 : Nat) (Option.some Jvm.ClassFile.FieldType.int)) ∈ gtbl := gq 2015 rfl rfl
theorem q2016 : (Jvm.Cond.methodLink "OwnRainModel" (496 : Nat) ({ cls := "OwnRainModel", name := "nearOf", desc := "(I)I" } : Jvm.MethodName)) ∈ gtbl := gq 2016 (by decide +kernel) rfl
theorem q2018 : (Jvm.Cond.instanceMethod ({ cls := "OwnRainModel", name := "nearOf", desc := "(I)I" } : Jvm.MethodName)) ∈ gtbl := gq 2018 (by decide +kernel) rfl
set_option maxRecDepth 100000 in
theorem q2019 : (Jvm.Cond.code ({ cls := "OwnRainModel", name := "nearOf", desc := "(I)I" } : Jvm.MethodName) prog_14_method_118_code (7 : Nat) (Option.some Jvm.ClassFile.FieldType.int)) ∈ gtbl := gq 2019 rfl rfl
theorem q2020 : (Jvm.Cond.methodLink "OwnRainLaw" (141 : Nat) ({ cls := "OwnRainModel", name := "thieves", desc := "()I" } : Jvm.MethodName)) ∈ gtbl := gq 2020 (by decide +kernel) rfl
theorem q2021 : (Jvm.Cond.instanceMethod ({ cls := "OwnRainModel", name := "thieves", desc := "()I" } : Jvm.MethodName)) ∈ gtbl := gq 2021 (by decide +kernel) rfl
theorem q2022 : (Jvm.Cond.selects "OwnRainModel" ({ cls := "OwnRainModel", name := "thieves", desc := "()I" } : Jvm.MethodName) ({ cls := "OwnRainModel", name := "thieves", desc := "()I" } : Jvm.MethodName)) ∈ gtbl := gq 2022 (by decide +kernel) rfl
set_option maxRecDepth 100000 in
theorem q2023 : (Jvm.Cond.code ({ cls := "OwnRainModel", name := "thieves", desc := "()I" } : Jvm.MethodName) prog_14_method_120_code (5 : Nat) (Option.some Jvm.ClassFile.FieldType.int)) ∈ gtbl := gq 2023 rfl rfl
theorem q2024 : (Jvm.Cond.methodLink "OwnRainLaw" (146 : Nat) ({ cls := "OwnRainModel", name := "filling", desc := "(IIIIIZ)J" } : Jvm.MethodName)) ∈ gtbl := gq 2024 (by decide +kernel) rfl
theorem q2025 : (Jvm.Cond.instanceMethod ({ cls := "OwnRainModel", name := "filling", desc := "(IIIIIZ)J" } : Jvm.MethodName)) ∈ gtbl := gq 2025 (by decide +kernel) rfl
theorem q2026 : (Jvm.Cond.selects "OwnRainModel" ({ cls := "OwnRainModel", name := "filling", desc := "(IIIIIZ)J" } : Jvm.MethodName) ({ cls := "OwnRainModel", name := "filling", desc := "(IIIIIZ)J" } : Jvm.MethodName)) ∈ gtbl := gq 2026 (by decide +kernel) rfl
set_option maxRecDepth 100000 in
theorem q2027 : (Jvm.Cond.code ({ cls := "OwnRainModel", name := "filling", desc := "(IIIIIZ)J" } : Jvm.MethodName) prog_14_method_122_code (12 : Nat) (Option.some Jvm.ClassFile.FieldType.long)) ∈ gtbl := gq 2027 rfl rfl
theorem q2028 : (Jvm.Cond.constantLong "OwnRainModel" (499 : Nat) (-1 : Int64)) ∈ gtbl := gq 2028 (by decide +kernel) rfl
theorem q2029 : (Jvm.Cond.constantLong "OwnRainModel" (501 : Nat) (10 : Int64)) ∈ gtbl := gq 2029 (by decide +kernel) rfl
theorem q2030 : (Jvm.Cond.methodLink "OwnRainModel" (503 : Nat) ({ cls := "OwnRainModel", name := "common", desc := "(JJ)J" } : Jvm.MethodName)) ∈ gtbl := gq 2030 (by decide +kernel) rfl
theorem q2031 : (Jvm.Cond.static ({ cls := "OwnRainModel", name := "common", desc := "(JJ)J" } : Jvm.MethodName)) ∈ gtbl := gq 2031 (by decide +kernel) rfl
set_option maxRecDepth 100000 in
theorem q2032 : (Jvm.Cond.code ({ cls := "OwnRainModel", name := "common", desc := "(JJ)J" } : Jvm.MethodName) prog_14_method_121_code (10 : Nat) (Option.some Jvm.ClassFile.FieldType.long)) ∈ gtbl := gq 2032 rfl rfl
theorem q2033 : (Jvm.Cond.methodLink "OwnRainLaw" (151 : Nat) ({ cls := "OwnRainModel", name := "forecast", desc := "(IZ)I" } : Jvm.MethodName)) ∈ gtbl := gq 2033 (by decide +kernel) rfl
theorem q2034 : (Jvm.Cond.instanceMethod ({ cls := "OwnRainModel", name := "forecast", desc := "(IZ)I" } : Jvm.MethodName)) ∈ gtbl := gq 2034 (by decide +kernel) rfl
theorem q2035 : (Jvm.Cond.selects "OwnRainModel" ({ cls := "OwnRainModel", name := "forecast", desc := "(IZ)I" } : Jvm.MethodName) ({ cls := "OwnRainModel", name := "forecast", desc := "(IZ)I" } : Jvm.MethodName)) ∈ gtbl := gq 2035 (by decide +kernel) rfl
set_option maxRecDepth 100000 in
theorem q2036 : (Jvm.Cond.code ({ cls := "OwnRainModel", name := "forecast", desc := "(IZ)I" } : Jvm.MethodName) prog_14_method_123_code (3 : Nat) (Option.some Jvm.ClassFile.FieldType.int)) ∈ gtbl := gq 2036 rfl rfl
theorem q2037 : (Jvm.Cond.methodLink "OwnRainLaw" (155 : Nat) ({ cls := "OwnRainModel", name := "errors", desc := "(IZ)I" } : Jvm.MethodName)) ∈ gtbl := gq 2037 (by decide +kernel) rfl
theorem q2038 : (Jvm.Cond.instanceMethod ({ cls := "OwnRainModel", name := "errors", desc := "(IZ)I" } : Jvm.MethodName)) ∈ gtbl := gq 2038 (by decide +kernel) rfl
theorem q2039 : (Jvm.Cond.selects "OwnRainModel" ({ cls := "OwnRainModel", name := "errors", desc := "(IZ)I" } : Jvm.MethodName) ({ cls := "OwnRainModel", name := "errors", desc := "(IZ)I" } : Jvm.MethodName)) ∈ gtbl := gq 2039 (by decide +kernel) rfl
set_option maxRecDepth 100000 in
theorem q2040 : (Jvm.Cond.code ({ cls := "OwnRainModel", name := "errors", desc := "(IZ)I" } : Jvm.MethodName) prog_14_method_125_code (3 : Nat) (Option.some Jvm.ClassFile.FieldType.int)) ∈ gtbl := gq 2040 rfl rfl
theorem q2041 : (Jvm.Cond.methodLink "OwnRainModel" (507 : Nat) ({ cls := "OwnRainModel", name := "errorsOf", desc := "(IZ)I" } : Jvm.MethodName)) ∈ gtbl := gq 2041 (by decide +kernel) rfl
theorem q2043 : (Jvm.Cond.instanceMethod ({ cls := "OwnRainModel", name := "errorsOf", desc := "(IZ)I" } : Jvm.MethodName)) ∈ gtbl := gq 2043 (by decide +kernel) rfl
set_option maxRecDepth 100000 in
theorem q2044 : (Jvm.Cond.code ({ cls := "OwnRainModel", name := "errorsOf", desc := "(IZ)I" } : Jvm.MethodName) prog_14_method_124_code (7 : Nat) (Option.some Jvm.ClassFile.FieldType.int)) ∈ gtbl := gq 2044 rfl rfl
theorem q2045 : (Jvm.Cond.methodLink "OwnRainLaw" (159 : Nat) ({ cls := "OwnRainModel", name := "bound", desc := "()I" } : Jvm.MethodName)) ∈ gtbl := gq 2045 (by decide +kernel) rfl
theorem q2046 : (Jvm.Cond.instanceMethod ({ cls := "OwnRainModel", name := "bound", desc := "()I" } : Jvm.MethodName)) ∈ gtbl := gq 2046 (by decide +kernel) rfl
theorem q2047 : (Jvm.Cond.selects "OwnRainModel" ({ cls := "OwnRainModel", name := "bound", desc := "()I" } : Jvm.MethodName) ({ cls := "OwnRainModel", name := "bound", desc := "()I" } : Jvm.MethodName)) ∈ gtbl := gq 2047 (by decide +kernel) rfl
set_option maxRecDepth 100000 in
theorem q2048 : (Jvm.Cond.code ({ cls := "OwnRainModel", name := "bound", desc := "()I" } : Jvm.MethodName) prog_14_method_126_code (3 : Nat) (Option.some Jvm.ClassFile.FieldType.int)) ∈ gtbl := gq 2048 rfl rfl
theorem q2049 : (Jvm.Cond.methodLink "OwnRainLaw" (164 : Nat) ({ cls := "OwnRainModel", name := "offer", desc := "(ZII)I" } : Jvm.MethodName)) ∈ gtbl := gq 2049 (by decide +kernel) rfl
theorem q2050 : (Jvm.Cond.instanceMethod ({ cls := "OwnRainModel", name := "offer", desc := "(ZII)I" } : Jvm.MethodName)) ∈ gtbl := gq 2050 (by decide +kernel) rfl
theorem q2051 : (Jvm.Cond.selects "OwnRainModel" ({ cls := "OwnRainModel", name := "offer", desc := "(ZII)I" } : Jvm.MethodName) ({ cls := "OwnRainModel", name := "offer", desc := "(ZII)I" } : Jvm.MethodName)) ∈ gtbl := gq 2051 (by decide +kernel) rfl
set_option maxRecDepth 100000 in
theorem q2052 : (Jvm.Cond.code ({ cls := "OwnRainModel", name := "offer", desc := "(ZII)I" } : Jvm.MethodName) prog_14_method_127_code (5 : Nat) (Option.some Jvm.ClassFile.FieldType.int)) ∈ gtbl := gq 2052 rfl rfl
theorem q2053 : (Jvm.Cond.methodLink "OwnRainLaw" (168 : Nat) ({ cls := "OwnRainModel", name := "market", desc := "(I)I" } : Jvm.MethodName)) ∈ gtbl := gq 2053 (by decide +kernel) rfl
theorem q2054 : (Jvm.Cond.instanceMethod ({ cls := "OwnRainModel", name := "market", desc := "(I)I" } : Jvm.MethodName)) ∈ gtbl := gq 2054 (by decide +kernel) rfl
theorem q2055 : (Jvm.Cond.selects "OwnRainModel" ({ cls := "OwnRainModel", name := "market", desc := "(I)I" } : Jvm.MethodName) ({ cls := "OwnRainModel", name := "market", desc := "(I)I" } : Jvm.MethodName)) ∈ gtbl := gq 2055 (by decide +kernel) rfl
set_option maxRecDepth 100000 in
theorem q2056 : (Jvm.Cond.code ({ cls := "OwnRainModel", name := "market", desc := "(I)I" } : Jvm.MethodName) prog_14_method_129_code (4 : Nat) (Option.some Jvm.ClassFile.FieldType.int)) ∈ gtbl := gq 2056 rfl rfl
theorem q2057 : (Jvm.Cond.methodLink "OwnRainModel" (511 : Nat) ({ cls := "OwnRainModel", name := "tradedAt", desc := "(I)I" } : Jvm.MethodName)) ∈ gtbl := gq 2057 (by decide +kernel) rfl
theorem q2059 : (Jvm.Cond.instanceMethod ({ cls := "OwnRainModel", name := "tradedAt", desc := "(I)I" } : Jvm.MethodName)) ∈ gtbl := gq 2059 (by decide +kernel) rfl
set_option maxRecDepth 100000 in
theorem q2060 : (Jvm.Cond.code ({ cls := "OwnRainModel", name := "tradedAt", desc := "(I)I" } : Jvm.MethodName) prog_14_method_128_code (6 : Nat) (Option.some Jvm.ClassFile.FieldType.int)) ∈ gtbl := gq 2060 rfl rfl
theorem q2061 : (Jvm.Cond.methodLink "OwnRainLaw" (172 : Nat) ({ cls := "OwnRainModel", name := "greatestTax", desc := "(I)I" } : Jvm.MethodName)) ∈ gtbl := gq 2061 (by decide +kernel) rfl
theorem q2062 : (Jvm.Cond.instanceMethod ({ cls := "OwnRainModel", name := "greatestTax", desc := "(I)I" } : Jvm.MethodName)) ∈ gtbl := gq 2062 (by decide +kernel) rfl
theorem q2063 : (Jvm.Cond.selects "OwnRainModel" ({ cls := "OwnRainModel", name := "greatestTax", desc := "(I)I" } : Jvm.MethodName) ({ cls := "OwnRainModel", name := "greatestTax", desc := "(I)I" } : Jvm.MethodName)) ∈ gtbl := gq 2063 (by decide +kernel) rfl
set_option maxRecDepth 100000 in
theorem q2064 : (Jvm.Cond.code ({ cls := "OwnRainModel", name := "greatestTax", desc := "(I)I" } : Jvm.MethodName) prog_14_method_130_code (6 : Nat) (Option.some Jvm.ClassFile.FieldType.int)) ∈ gtbl := gq 2064 rfl rfl
theorem q2065 : (Jvm.Cond.methodLink "OwnRainLaw" (176 : Nat) ({ cls := "OwnRainModel", name := "water", desc := "()I" } : Jvm.MethodName)) ∈ gtbl := gq 2065 (by decide +kernel) rfl
theorem q2066 : (Jvm.Cond.instanceMethod ({ cls := "OwnRainModel", name := "water", desc := "()I" } : Jvm.MethodName)) ∈ gtbl := gq 2066 (by decide +kernel) rfl
theorem q2067 : (Jvm.Cond.selects "OwnRainModel" ({ cls := "OwnRainModel", name := "water", desc := "()I" } : Jvm.MethodName) ({ cls := "OwnRainModel", name := "water", desc := "()I" } : Jvm.MethodName)) ∈ gtbl := gq 2067 (by decide +kernel) rfl
set_option maxRecDepth 100000 in
theorem q2068 : (Jvm.Cond.code ({ cls := "OwnRainModel", name := "water", desc := "()I" } : Jvm.MethodName) prog_14_method_131_code (3 : Nat) (Option.some Jvm.ClassFile.FieldType.int)) ∈ gtbl := gq 2068 rfl rfl
theorem q2069 : (Jvm.Cond.methodLink "OwnRainLaw" (180 : Nat) ({ cls := "OwnRainModel", name := "image", desc := "()I" } : Jvm.MethodName)) ∈ gtbl := gq 2069 (by decide +kernel) rfl
theorem q2070 : (Jvm.Cond.instanceMethod ({ cls := "OwnRainModel", name := "image", desc := "()I" } : Jvm.MethodName)) ∈ gtbl := gq 2070 (by decide +kernel) rfl
theorem q2071 : (Jvm.Cond.selects "OwnRainModel" ({ cls := "OwnRainModel", name := "image", desc := "()I" } : Jvm.MethodName) ({ cls := "OwnRainModel", name := "image", desc := "()I" } : Jvm.MethodName)) ∈ gtbl := gq 2071 (by decide +kernel) rfl
set_option maxRecDepth 100000 in
theorem q2072 : (Jvm.Cond.code ({ cls := "OwnRainModel", name := "image", desc := "()I" } : Jvm.MethodName) prog_14_method_132_code (1 : Nat) (Option.some Jvm.ClassFile.FieldType.int)) ∈ gtbl := gq 2072 rfl rfl
theorem q2073 : (Jvm.Cond.methodLink "OwnRainLaw" (184 : Nat) ({ cls := "OwnRainModel", name := "back", desc := "()I" } : Jvm.MethodName)) ∈ gtbl := gq 2073 (by decide +kernel) rfl
theorem q2074 : (Jvm.Cond.instanceMethod ({ cls := "OwnRainModel", name := "back", desc := "()I" } : Jvm.MethodName)) ∈ gtbl := gq 2074 (by decide +kernel) rfl
theorem q2075 : (Jvm.Cond.selects "OwnRainModel" ({ cls := "OwnRainModel", name := "back", desc := "()I" } : Jvm.MethodName) ({ cls := "OwnRainModel", name := "back", desc := "()I" } : Jvm.MethodName)) ∈ gtbl := gq 2075 (by decide +kernel) rfl
set_option maxRecDepth 100000 in
theorem q2076 : (Jvm.Cond.code ({ cls := "OwnRainModel", name := "back", desc := "()I" } : Jvm.MethodName) prog_14_method_133_code (1 : Nat) (Option.some Jvm.ClassFile.FieldType.int)) ∈ gtbl := gq 2076 rfl rfl
theorem q2077 : (Jvm.Cond.methodLink "OwnRainLaw" (188 : Nat) ({ cls := "OwnRainModel", name := "about", desc := "(I)I" } : Jvm.MethodName)) ∈ gtbl := gq 2077 (by decide +kernel) rfl
theorem q2078 : (Jvm.Cond.instanceMethod ({ cls := "OwnRainModel", name := "about", desc := "(I)I" } : Jvm.MethodName)) ∈ gtbl := gq 2078 (by decide +kernel) rfl
theorem q2079 : (Jvm.Cond.selects "OwnRainModel" ({ cls := "OwnRainModel", name := "about", desc := "(I)I" } : Jvm.MethodName) ({ cls := "OwnRainModel", name := "about", desc := "(I)I" } : Jvm.MethodName)) ∈ gtbl := gq 2079 (by decide +kernel) rfl
set_option maxRecDepth 100000 in
theorem q2080 : (Jvm.Cond.code ({ cls := "OwnRainModel", name := "about", desc := "(I)I" } : Jvm.MethodName) prog_14_method_134_code (2 : Nat) (Option.some Jvm.ClassFile.FieldType.int)) ∈ gtbl := gq 2080 rfl rfl
theorem q2081 : (Jvm.Cond.fieldLink "java/lang/String" (9 : Nat) "java/lang/String" "value" "[B") ∈ gtbl := gq 2081 (by decide +kernel) rfl
theorem q2082 : (Jvm.Cond.fieldLink "java/lang/String" (15 : Nat) "java/lang/String" "coder" "B") ∈ gtbl := gq 2082 (by decide +kernel) rfl
