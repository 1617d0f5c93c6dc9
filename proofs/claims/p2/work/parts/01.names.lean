/-! ===== BEGIN printed: names, fields, word lists, decode rows ===== -/
def RX0 : String := "WhereShe$Kept"
def TX0 : u_T := fun k => match k with
  | 0 => ("WhereShe$Kept", "state", "I", false)
  | 1 => ("WhereShe$Kept", "acts", "[I", true)
  | 2 => ("WhereShe$Kept", "actCount", "[I", true)
  | 3 => ("WhereShe$Kept", "lines", "[I", true)
  | 4 => ("WhereShe$Kept", "lineCount", "[I", true)
  | 5 => ("WhereShe$Kept", "code", "[I", true)
  | 6 => ("WhereShe$Kept", "questions", "LWhereShe$Rows;", true)
  | 7 => ("WhereShe$Kept", "said", "[I", true)
  | 8 => ("WhereShe$Kept", "children", "LWhereShe$Rows;", true)
  | 9 => ("WhereShe$Kept", "answers", "LWhereShe$Rows;", true)
  | 10 => ("WhereShe$Kept", "eyes", "LWhereShe$Rows;", true)
  | _ => ("WhereShe$Kept", "houses", "LWhereShe$Rows;", true)
def tyX0 : Nat → FieldType := fun k => match k with
  | 0 => .int
  | 1 => .array .int
  | 2 => .array .int
  | 3 => .array .int
  | 4 => .array .int
  | 5 => .array .int
  | 6 => .object "WhereShe$Rows"
  | 7 => .array .int
  | 8 => .object "WhereShe$Rows"
  | 9 => .object "WhereShe$Rows"
  | 10 => .object "WhereShe$Rows"
  | _ => .object "WhereShe$Rows"
abbrev wsX00 : List Cond := u_ws RX0 TX0 12
theorem nmX0 : ∀ a, a < 12 → ∀ b, b < 12 → a ≠ b → (TX0 a).2.1 ≠ (TX0 b).2.1 := by decide +kernel
theorem tyX0_ok : ∀ k, k < 12 → parseFieldDescriptor (TX0 k).2.2.1 = some (tyX0 k) := by decide +kernel
abbrev cX0_init : ByteArray := prog_2_method_1_code
def yX0_init : MethodName := ⟨RX0, "<init>", "()V"⟩
abbrev cX0_saidOf : ByteArray := prog_2_method_2_code
def yX0_saidOf : MethodName := ⟨RX0, "saidOf", "(II)I"⟩
abbrev cX0_takeScene : ByteArray := prog_2_method_3_code
def yX0_takeScene : MethodName := ⟨RX0, "takeScene", "(ILWhereShe$Reader;I)V"⟩
abbrev cX0_takeLaw : ByteArray := prog_2_method_4_code
def yX0_takeLaw : MethodName := ⟨RX0, "takeLaw", "(ILWhereShe$Reader;I)V"⟩
abbrev cX0_copyFrom : ByteArray := prog_2_method_5_code
def yX0_copyFrom : MethodName := ⟨RX0, "copyFrom", "(LWhereShe$Kept;)V"⟩
def RX1 : String := "WhereShe$Reader"
def TX1 : u_T := fun k => match k with
  | 0 => ("WhereShe$Reader", "tape", "[B", true)
  | 1 => ("WhereShe$Reader", "size", "I", false)
  | 2 => ("WhereShe$Reader", "fault", "I", false)
  | 3 => ("WhereShe$Reader", "faultPlace", "I", false)
  | 4 => ("WhereShe$Reader", "kind", "[I", true)
  | 5 => ("WhereShe$Reader", "value", "[I", true)
  | 6 => ("WhereShe$Reader", "spot", "[I", true)
  | 7 => ("WhereShe$Reader", "tokens", "I", false)
  | 8 => ("WhereShe$Reader", "at", "I", false)
  | 9 => ("WhereShe$Reader", "acts", "[I", true)
  | 10 => ("WhereShe$Reader", "lines", "[I", true)
  | 11 => ("WhereShe$Reader", "code", "[I", true)
  | _ => ("WhereShe$Reader", "codeSize", "I", false)
def tyX1 : Nat → FieldType := fun k => match k with
  | 0 => .array .byte
  | 1 => .int
  | 2 => .int
  | 3 => .int
  | 4 => .array .int
  | 5 => .array .int
  | 6 => .array .int
  | 7 => .int
  | 8 => .int
  | 9 => .array .int
  | 10 => .array .int
  | 11 => .array .int
  | _ => .int
abbrev wsX10 : List Cond := u_ws RX1 TX1 13
theorem nmX1 : ∀ a, a < 13 → ∀ b, b < 13 → a ≠ b → (TX1 a).2.1 ≠ (TX1 b).2.1 := by decide +kernel
theorem tyX1_ok : ∀ k, k < 13 → parseFieldDescriptor (TX1 k).2.2.1 = some (tyX1 k) := by decide +kernel
abbrev cX1_init : ByteArray := prog_3_method_1_code
def yX1_init : MethodName := ⟨RX1, "<init>", "()V"⟩
abbrev cX1_hasRoom : ByteArray := prog_3_method_2_code
def yX1_hasRoom : MethodName := ⟨RX1, "hasRoom", "(I)Z"⟩
abbrev cX1_take : ByteArray := prog_3_method_3_code
def yX1_take : MethodName := ⟨RX1, "take", "(I)V"⟩
abbrev cX1_shorten : ByteArray := prog_3_method_4_code
def yX1_shorten : MethodName := ⟨RX1, "shorten", "(I)Z"⟩
abbrev cX1_start : ByteArray := prog_3_method_5_code
def yX1_start : MethodName := ⟨RX1, "start", "(Ljava/lang/String;)V"⟩
abbrev cX1_byteAt : ByteArray := prog_3_method_6_code
def yX1_byteAt : MethodName := ⟨RX1, "byteAt", "(I)I"⟩
abbrev cX1_isBlank : ByteArray := prog_3_method_7_code
def yX1_isBlank : MethodName := ⟨RX1, "isBlank", "(I)Z"⟩
abbrev cX1_isDigit : ByteArray := prog_3_method_8_code
def yX1_isDigit : MethodName := ⟨RX1, "isDigit", "(I)Z"⟩
abbrev cX1_isLetter : ByteArray := prog_3_method_9_code
def yX1_isLetter : MethodName := ⟨RX1, "isLetter", "(I)Z"⟩
abbrev cX1_runEnd : ByteArray := prog_3_method_10_code
def yX1_runEnd : MethodName := ⟨RX1, "runEnd", "(I)I"⟩
abbrev cX1_addToken : ByteArray := prog_3_method_11_code
def yX1_addToken : MethodName := ⟨RX1, "addToken", "(III)V"⟩
abbrev cX1_kindOf : ByteArray := prog_3_method_12_code
def yX1_kindOf : MethodName := ⟨RX1, "kindOf", "(Ljava/lang/String;II)I"⟩
abbrev cX1_numberOf : ByteArray := prog_3_method_13_code
def yX1_numberOf : MethodName := ⟨RX1, "numberOf", "(II)I"⟩
abbrev cX1_wordOf : ByteArray := prog_3_method_14_code
def yX1_wordOf : MethodName := ⟨RX1, "wordOf", "(Ljava/lang/String;II)I"⟩
abbrev cX1_isSame : ByteArray := prog_3_method_15_code
def yX1_isSame : MethodName := ⟨RX1, "isSame", "(Ljava/lang/String;III)Z"⟩
abbrev cX1_token : ByteArray := prog_3_method_16_code
def yX1_token : MethodName := ⟨RX1, "token", "()I"⟩
abbrev cX1_fail : ByteArray := prog_3_method_17_code
def yX1_fail : MethodName := ⟨RX1, "fail", "(I)V"⟩
abbrev cX1_skip : ByteArray := prog_3_method_18_code
def yX1_skip : MethodName := ⟨RX1, "skip", "(I)V"⟩
abbrev cX1_nextNumber : ByteArray := prog_3_method_19_code
def yX1_nextNumber : MethodName := ⟨RX1, "nextNumber", "()I"⟩
abbrev cX1_oneOf : ByteArray := prog_3_method_20_code
def yX1_oneOf : MethodName := ⟨RX1, "oneOf", "(I)I"⟩
abbrev cX1_readScene : ByteArray := prog_3_method_21_code
def yX1_readScene : MethodName := ⟨RX1, "readScene", "()I"⟩
abbrev cX1_readAct : ByteArray := prog_3_method_22_code
def yX1_readAct : MethodName := ⟨RX1, "readAct", "(I)I"⟩
abbrev cX1_readOther : ByteArray := prog_3_method_23_code
def yX1_readOther : MethodName := ⟨RX1, "readOther", "(I)I"⟩
abbrev cX1_readLaw : ByteArray := prog_3_method_24_code
def yX1_readLaw : MethodName := ⟨RX1, "readLaw", "()I"⟩
abbrev cX1_readLine : ByteArray := prog_3_method_25_code
def yX1_readLine : MethodName := ⟨RX1, "readLine", "(I)V"⟩
abbrev cX1_emit : ByteArray := prog_3_method_26_code
def yX1_emit : MethodName := ⟨RX1, "emit", "(I)V"⟩
abbrev cX1_condition : ByteArray := prog_3_method_27_code
def yX1_condition : MethodName := ⟨RX1, "condition", "(I)V"⟩
abbrev cX1_single : ByteArray := prog_3_method_28_code
def yX1_single : MethodName := ⟨RX1, "single", "(I)V"⟩
abbrev cX1_sum : ByteArray := prog_3_method_29_code
def yX1_sum : MethodName := ⟨RX1, "sum", "()V"⟩
abbrev cX1_part : ByteArray := prog_3_method_30_code
def yX1_part : MethodName := ⟨RX1, "part", "()V"⟩
abbrev cX1_unit : ByteArray := prog_3_method_31_code
def yX1_unit : MethodName := ⟨RX1, "unit", "()V"⟩
def RX2 : String := "WhereShe$Rows"
def TX2 : u_T := fun k => match k with
  | 0 => ("WhereShe$Rows", "most", "I", true)
  | 1 => ("WhereShe$Rows", "width", "I", true)
  | 2 => ("WhereShe$Rows", "cells", "[I", true)
  | _ => ("WhereShe$Rows", "size", "I", false)
def tyX2 : Nat → FieldType := fun k => match k with
  | 0 => .int
  | 1 => .int
  | 2 => .array .int
  | _ => .int
abbrev wsX20 : List Cond := u_ws RX2 TX2 4
theorem nmX2 : ∀ a, a < 4 → ∀ b, b < 4 → a ≠ b → (TX2 a).2.1 ≠ (TX2 b).2.1 := by decide +kernel
theorem tyX2_ok : ∀ k, k < 4 → parseFieldDescriptor (TX2 k).2.2.1 = some (tyX2 k) := by decide +kernel
abbrev cX2_init : ByteArray := prog_4_method_1_code
def yX2_init : MethodName := ⟨RX2, "<init>", "(II)V"⟩
abbrev cX2_has : ByteArray := prog_4_method_2_code
def yX2_has : MethodName := ⟨RX2, "has", "(I)Z"⟩
abbrev cX2_isFull : ByteArray := prog_4_method_3_code
def yX2_isFull : MethodName := ⟨RX2, "isFull", "()Z"⟩
abbrev cX2_at : ByteArray := prog_4_method_4_code
def yX2_at : MethodName := ⟨RX2, "at", "(II)I"⟩
abbrev cX2_add : ByteArray := prog_4_method_5_code
def yX2_add : MethodName := ⟨RX2, "add", "(IIIIII)I"⟩
abbrev cX2_set : ByteArray := prog_4_method_6_code
def yX2_set : MethodName := ⟨RX2, "set", "(II)V"⟩
abbrev cX2_copyFrom : ByteArray := prog_4_method_7_code
def yX2_copyFrom : MethodName := ⟨RX2, "copyFrom", "(LWhereShe$Rows;)V"⟩
def RX3 : String := "WhereShe$Scale"
def TX3 : u_T := fun k => match k with
  | 0 => ("WhereShe$Scale", "weight", "[I", true)
  | 1 => ("WhereShe$Scale", "all", "I", false)
  | 2 => ("WhereShe$Scale", "given", "[I", true)
  | _ => ("WhereShe$Scale", "stack", "[I", true)
def tyX3 : Nat → FieldType := fun k => match k with
  | 0 => .array .int
  | 1 => .int
  | 2 => .array .int
  | _ => .array .int
abbrev wsX30 : List Cond := u_ws RX3 TX3 4
theorem nmX3 : ∀ a, a < 4 → ∀ b, b < 4 → a ≠ b → (TX3 a).2.1 ≠ (TX3 b).2.1 := by decide +kernel
theorem tyX3_ok : ∀ k, k < 4 → parseFieldDescriptor (TX3 k).2.2.1 = some (tyX3 k) := by decide +kernel
abbrev cX3_init : ByteArray := prog_5_method_1_code
def yX3_init : MethodName := ⟨RX3, "<init>", "()V"⟩
abbrev cX3_give : ByteArray := prog_5_method_2_code
def yX3_give : MethodName := ⟨RX3, "give", "(II)V"⟩
abbrev cX3_weigh : ByteArray := prog_5_method_3_code
def yX3_weigh : MethodName := ⟨RX3, "weigh", "(LWhereShe$Kept;I)V"⟩
abbrev cX3_ruleOf : ByteArray := prog_5_method_4_code
def yX3_ruleOf : MethodName := ⟨RX3, "ruleOf", "(I)I"⟩
abbrev cX3_amountOf : ByteArray := prog_5_method_5_code
def yX3_amountOf : MethodName := ⟨RX3, "amountOf", "(LWhereShe$Kept;III)I"⟩
abbrev cX3_run : ByteArray := prog_5_method_6_code
def yX3_run : MethodName := ⟨RX3, "run", "([IIII)I"⟩
abbrev cX3_worked : ByteArray := prog_5_method_7_code
def yX3_worked : MethodName := ⟨RX3, "worked", "(III)I"⟩
def RX4 : String := "WhereShe$World"
def TX4 : u_T := fun k => match k with
  | 0 => ("WhereShe$World", "here", "[I", true)
  | 1 => ("WhereShe$World", "screen", "[I", true)
  | 2 => ("WhereShe$World", "worn", "[I", true)
  | 3 => ("WhereShe$World", "place", "[I", true)
  | 4 => ("WhereShe$World", "before", "[I", true)
  | 5 => ("WhereShe$World", "first", "[I", true)
  | 6 => ("WhereShe$World", "moves", "[I", true)
  | 7 => ("WhereShe$World", "picture", "[I", true)
  | 8 => ("WhereShe$World", "held", "[I", true)
  | 9 => ("WhereShe$World", "last", "[I", true)
  | 10 => ("WhereShe$World", "put", "[I", true)
  | 11 => ("WhereShe$World", "saw", "[I", true)
  | _ => ("WhereShe$World", "second", "[I", true)
def tyX4 : Nat → FieldType := fun k => match k with
  | 0 => .array .int
  | 1 => .array .int
  | 2 => .array .int
  | 3 => .array .int
  | 4 => .array .int
  | 5 => .array .int
  | 6 => .array .int
  | 7 => .array .int
  | 8 => .array .int
  | 9 => .array .int
  | 10 => .array .int
  | 11 => .array .int
  | _ => .array .int
abbrev wsX40 : List Cond := u_ws RX4 TX4 13
theorem nmX4 : ∀ a, a < 13 → ∀ b, b < 13 → a ≠ b → (TX4 a).2.1 ≠ (TX4 b).2.1 := by decide +kernel
theorem tyX4_ok : ∀ k, k < 13 → parseFieldDescriptor (TX4 k).2.2.1 = some (tyX4 k) := by decide +kernel
abbrev cX4_init : ByteArray := prog_6_method_1_code
def yX4_init : MethodName := ⟨RX4, "<init>", "()V"⟩
abbrev cX4_begin : ByteArray := prog_6_method_2_code
def yX4_begin : MethodName := ⟨RX4, "begin", "()V"⟩
abbrev cX4_copyFrom : ByteArray := prog_6_method_3_code
def yX4_copyFrom : MethodName := ⟨RX4, "copyFrom", "(LWhereShe$World;)V"⟩
abbrev cX4_act : ByteArray := prog_6_method_4_code
def yX4_act : MethodName := ⟨RX4, "act", "(I)V"⟩
abbrev cX4_canSee : ByteArray := prog_6_method_5_code
def yX4_canSee : MethodName := ⟨RX4, "canSee", "(I)Z"⟩
abbrev cX4_seemsToSee : ByteArray := prog_6_method_6_code
def yX4_seemsToSee : MethodName := ⟨RX4, "seemsToSee", "(II)Z"⟩
abbrev cX4_wear : ByteArray := prog_6_method_7_code
def yX4_wear : MethodName := ⟨RX4, "wear", "(II)V"⟩
abbrev cX4_snap : ByteArray := prog_6_method_8_code
def yX4_snap : MethodName := ⟨RX4, "snap", "(I)V"⟩
abbrev cX4_bring : ByteArray := prog_6_method_9_code
def yX4_bring : MethodName := ⟨RX4, "bring", "(IIIZ)V"⟩
abbrev cX4_see : ByteArray := prog_6_method_10_code
def yX4_see : MethodName := ⟨RX4, "see", "(IIII)V"⟩
abbrev cX4_inform : ByteArray := prog_6_method_11_code
def yX4_inform : MethodName := ⟨RX4, "inform", "(IIII)V"⟩
abbrev cX4_lift : ByteArray := prog_6_method_12_code
def yX4_lift : MethodName := ⟨RX4, "lift", "(II)V"⟩
abbrev cX4_watchLift : ByteArray := prog_6_method_13_code
def yX4_watchLift : MethodName := ⟨RX4, "watchLift", "(IIII)V"⟩
abbrev cX4_allMoves : ByteArray := prog_6_method_14_code
def yX4_allMoves : MethodName := ⟨RX4, "allMoves", "()I"⟩
abbrev cX4_ofLook : ByteArray := prog_6_method_15_code
def yX4_ofLook : MethodName := ⟨RX4, "ofLook", "(IIII)I"⟩
abbrev cX4_ofPicture : ByteArray := prog_6_method_16_code
def yX4_ofPicture : MethodName := ⟨RX4, "ofPicture", "(III)I"⟩
def RX5 : String := "WhereShe"
def TX5 : u_T := fun k => match k with
  | 0 => ("WhereShe", "now", "LWhereShe$Kept;", true)
  | 1 => ("WhereShe", "kept", "LWhereShe$Kept;", true)
  | 2 => ("WhereShe", "hasImage", "Z", false)
  | 3 => ("WhereShe", "reader", "LWhereShe$Reader;", true)
  | 4 => ("WhereShe", "world", "LWhereShe$World;", true)
  | 5 => ("WhereShe", "trial", "LWhereShe$World;", true)
  | 6 => ("WhereShe", "scale", "LWhereShe$Scale;", true)
  | 7 => ("WhereShe", "agreed", "[I", true)
  | 8 => ("WhereShe", "couples", "[I", true)
  | 9 => ("WhereShe", "apart", "[I", true)
  | _ => ("WhereShe", "tally", "[I", true)
def tyX5 : Nat → FieldType := fun k => match k with
  | 0 => .object "WhereShe$Kept"
  | 1 => .object "WhereShe$Kept"
  | 2 => .boolean
  | 3 => .object "WhereShe$Reader"
  | 4 => .object "WhereShe$World"
  | 5 => .object "WhereShe$World"
  | 6 => .object "WhereShe$Scale"
  | 7 => .array .int
  | 8 => .array .int
  | 9 => .array .int
  | _ => .array .int
abbrev wsX50 : List Cond := u_ws RX5 TX5 11
theorem nmX5 : ∀ a, a < 11 → ∀ b, b < 11 → a ≠ b → (TX5 a).2.1 ≠ (TX5 b).2.1 := by decide +kernel
theorem tyX5_ok : ∀ k, k < 11 → parseFieldDescriptor (TX5 k).2.2.1 = some (tyX5 k) := by decide +kernel
abbrev cX5_init : ByteArray := prog_1_method_1_code
def yX5_init : MethodName := ⟨RX5, "<init>", "()V"⟩
abbrev cX5_state : ByteArray := prog_1_method_2_code
def yX5_state : MethodName := ⟨RX5, "state", "(I)I"⟩
abbrev cX5_feed : ByteArray := prog_1_method_3_code
def yX5_feed : MethodName := ⟨RX5, "feed", "(IIIII)I"⟩
abbrev cX5_end : ByteArray := prog_1_method_4_code
def yX5_end : MethodName := ⟨RX5, "end", "(I)Z"⟩
abbrev cX5_text : ByteArray := prog_1_method_5_code
def yX5_text : MethodName := ⟨RX5, "text", "(II)I"⟩
abbrev cX5_fault : ByteArray := prog_1_method_6_code
def yX5_fault : MethodName := ⟨RX5, "fault", "(I)I"⟩
abbrev cX5_after : ByteArray := prog_1_method_7_code
def yX5_after : MethodName := ⟨RX5, "after", "(IIII)I"⟩
abbrev cX5_thinks : ByteArray := prog_1_method_8_code
def yX5_thinks : MethodName := ⟨RX5, "thinks", "(IIII)I"⟩
abbrev cX5_here : ByteArray := prog_1_method_9_code
def yX5_here : MethodName := ⟨RX5, "here", "(III)I"⟩
abbrev cX5_question : ByteArray := prog_1_method_10_code
def yX5_question : MethodName := ⟨RX5, "question", "(IIIII)I"⟩
abbrev cX5_says : ByteArray := prog_1_method_11_code
def yX5_says : MethodName := ⟨RX5, "says", "(II)I"⟩
abbrev cX5_child : ByteArray := prog_1_method_12_code
def yX5_child : MethodName := ⟨RX5, "child", "(IIII)I"⟩
abbrev cX5_weight : ByteArray := prog_1_method_13_code
def yX5_weight : MethodName := ⟨RX5, "weight", "(IIII)I"⟩
abbrev cX5_ask : ByteArray := prog_1_method_14_code
def yX5_ask : MethodName := ⟨RX5, "ask", "(III)I"⟩
abbrev cX5_told : ByteArray := prog_1_method_15_code
def yX5_told : MethodName := ⟨RX5, "told", "(IIII)I"⟩
abbrev cX5_answer : ByteArray := prog_1_method_16_code
def yX5_answer : MethodName := ⟨RX5, "answer", "(II)I"⟩
abbrev cX5_chance : ByteArray := prog_1_method_17_code
def yX5_chance : MethodName := ⟨RX5, "chance", "(IIIII)I"⟩
abbrev cX5_parted : ByteArray := prog_1_method_18_code
def yX5_parted : MethodName := ⟨RX5, "parted", "(II)I"⟩
abbrev cX5_fewest : ByteArray := prog_1_method_19_code
def yX5_fewest : MethodName := ⟨RX5, "fewest", "(I)I"⟩
abbrev cX5_make : ByteArray := prog_1_method_20_code
def yX5_make : MethodName := ⟨RX5, "make", "(III)I"⟩
abbrev cX5_odds : ByteArray := prog_1_method_21_code
def yX5_odds : MethodName := ⟨RX5, "odds", "(II)I"⟩
abbrev cX5_need : ByteArray := prog_1_method_22_code
def yX5_need : MethodName := ⟨RX5, "need", "(II)I"⟩
abbrev cX5_pulls : ByteArray := prog_1_method_23_code
def yX5_pulls : MethodName := ⟨RX5, "pulls", "(II)I"⟩
abbrev cX5_beside : ByteArray := prog_1_method_24_code
def yX5_beside : MethodName := ⟨RX5, "beside", "(I)I"⟩
abbrev cX5_eyes : ByteArray := prog_1_method_25_code
def yX5_eyes : MethodName := ⟨RX5, "eyes", "(II)I"⟩
abbrev cX5_way : ByteArray := prog_1_method_26_code
def yX5_way : MethodName := ⟨RX5, "way", "(I)I"⟩
abbrev cX5_house : ByteArray := prog_1_method_27_code
def yX5_house : MethodName := ⟨RX5, "house", "(II)I"⟩
abbrev cX5_houses : ByteArray := prog_1_method_28_code
def yX5_houses : MethodName := ⟨RX5, "houses", "(I)I"⟩
abbrev cX5_sorts : ByteArray := prog_1_method_29_code
def yX5_sorts : MethodName := ⟨RX5, "sorts", "(II)I"⟩
abbrev cX5_curve : ByteArray := prog_1_method_30_code
def yX5_curve : MethodName := ⟨RX5, "curve", "(II)I"⟩
abbrev cX5_score : ByteArray := prog_1_method_31_code
def yX5_score : MethodName := ⟨RX5, "score", "(I)I"⟩
abbrev cX5_next : ByteArray := prog_1_method_32_code
def yX5_next : MethodName := ⟨RX5, "next", "(IIIII)I"⟩
abbrev cX5_image : ByteArray := prog_1_method_33_code
def yX5_image : MethodName := ⟨RX5, "image", "(Z)Z"⟩
abbrev cX5_look : ByteArray := prog_1_method_34_code
def yX5_look : MethodName := ⟨RX5, "look", "(I)I"⟩
abbrev cX5_within : ByteArray := prog_1_method_35_code
def yX5_within : MethodName := ⟨RX5, "within", "(III)Z"⟩
abbrev cX5_cut : ByteArray := prog_1_method_36_code
def yX5_cut : MethodName := ⟨RX5, "cut", "(II)I"⟩
abbrev cX5_isScene : ByteArray := prog_1_method_37_code
def yX5_isScene : MethodName := ⟨RX5, "isScene", "(I)Z"⟩
abbrev cX5_isLaw : ByteArray := prog_1_method_38_code
def yX5_isLaw : MethodName := ⟨RX5, "isLaw", "(I)Z"⟩
abbrev cX5_isThing : ByteArray := prog_1_method_39_code
def yX5_isThing : MethodName := ⟨RX5, "isThing", "(I)Z"⟩
abbrev cX5_isWho : ByteArray := prog_1_method_40_code
def yX5_isWho : MethodName := ⟨RX5, "isWho", "(I)Z"⟩
abbrev cX5_isRule : ByteArray := prog_1_method_41_code
def yX5_isRule : MethodName := ⟨RX5, "isRule", "(I)Z"⟩
abbrev cX5_isAnswer : ByteArray := prog_1_method_42_code
def yX5_isAnswer : MethodName := ⟨RX5, "isAnswer", "(I)Z"⟩
abbrev cX5_canAsk : ByteArray := prog_1_method_43_code
def yX5_canAsk : MethodName := ⟨RX5, "canAsk", "(III)Z"⟩
abbrev cX5_lawOf : ByteArray := prog_1_method_44_code
def yX5_lawOf : MethodName := ⟨RX5, "lawOf", "(I)I"⟩
abbrev cX5_draw : ByteArray := prog_1_method_45_code
def yX5_draw : MethodName := ⟨RX5, "draw", "(I)I"⟩
abbrev cX5_root : ByteArray := prog_1_method_46_code
def yX5_root : MethodName := ⟨RX5, "root", "(I)I"⟩
abbrev cX5_thousandByRoot : ByteArray := prog_1_method_47_code
def yX5_thousandByRoot : MethodName := ⟨RX5, "thousandByRoot", "(I)I"⟩
abbrev cX5_play : ByteArray := prog_1_method_48_code
def yX5_play : MethodName := ⟨RX5, "play", "(I)V"⟩
abbrev cX5_settle : ByteArray := prog_1_method_49_code
def yX5_settle : MethodName := ⟨RX5, "settle", "(I)V"⟩
abbrev cX5_settleAll : ByteArray := prog_1_method_50_code
def yX5_settleAll : MethodName := ⟨RX5, "settleAll", "(I)V"⟩
abbrev cX5_ruleIn : ByteArray := prog_1_method_51_code
def yX5_ruleIn : MethodName := ⟨RX5, "ruleIn", "(LWhereShe$World;II)I"⟩
abbrev cX5_isTelling : ByteArray := prog_1_method_52_code
def yX5_isTelling : MethodName := ⟨RX5, "isTelling", "(II)Z"⟩
abbrev cX5_weigh : ByteArray := prog_1_method_53_code
def yX5_weigh : MethodName := ⟨RX5, "weigh", "(IIII)V"⟩
abbrev cX5_weighedChance : ByteArray := prog_1_method_54_code
def yX5_weighedChance : MethodName := ⟨RX5, "weighedChance", "(II)I"⟩
abbrev cX5_partedBy : ByteArray := prog_1_method_55_code
def yX5_partedBy : MethodName := ⟨RX5, "partedBy", "(II)I"⟩
abbrev cX5_listCouples : ByteArray := prog_1_method_56_code
def yX5_listCouples : MethodName := ⟨RX5, "listCouples", "(I)I"⟩
abbrev cX5_partsAll : ByteArray := prog_1_method_57_code
def yX5_partsAll : MethodName := ⟨RX5, "partsAll", "(II)Z"⟩
abbrev cX5_actParts : ByteArray := prog_1_method_58_code
def yX5_actParts : MethodName := ⟨RX5, "actParts", "(IIII)Z"⟩
abbrev cX5_firstMove : ByteArray := prog_1_method_59_code
def yX5_firstMove : MethodName := ⟨RX5, "firstMove", "(III)I"⟩
abbrev cX5_agree : ByteArray := prog_1_method_60_code
def yX5_agree : MethodName := ⟨RX5, "agree", "(II)V"⟩
abbrev cX5_countAgreed : ByteArray := prog_1_method_61_code
def yX5_countAgreed : MethodName := ⟨RX5, "countAgreed", "(I)V"⟩
abbrev cX5_oddsOf : ByteArray := prog_1_method_62_code
def yX5_oddsOf : MethodName := ⟨RX5, "oddsOf", "(I)I"⟩
abbrev cX5_powerOfNine : ByteArray := prog_1_method_63_code
def yX5_powerOfNine : MethodName := ⟨RX5, "powerOfNine", "(I)J"⟩
abbrev cX5_mostAgreed : ByteArray := prog_1_method_64_code
def yX5_mostAgreed : MethodName := ⟨RX5, "mostAgreed", "()I"⟩
abbrev cX5_itsRule : ByteArray := prog_1_method_65_code
def yX5_itsRule : MethodName := ⟨RX5, "itsRule", "(I)I"⟩
abbrev cX5_lastRight : ByteArray := prog_1_method_66_code
def yX5_lastRight : MethodName := ⟨RX5, "lastRight", "(II)I"⟩
abbrev cX5_isRight : ByteArray := prog_1_method_67_code
def yX5_isRight : MethodName := ⟨RX5, "isRight", "(I)Z"⟩
abbrev cX5_isLong : ByteArray := prog_1_method_68_code
def yX5_isLong : MethodName := ⟨RX5, "isLong", "(I)Z"⟩
abbrev cX5_isRare : ByteArray := prog_1_method_69_code
def yX5_isRare : MethodName := ⟨RX5, "isRare", "(II)Z"⟩
abbrev cX5_shareOf : ByteArray := prog_1_method_70_code
def yX5_shareOf : MethodName := ⟨RX5, "shareOf", "(I)I"⟩
abbrev cX5_joined : ByteArray := prog_1_method_71_code
def yX5_joined : MethodName := ⟨RX5, "joined", "()I"⟩
abbrev cX5_farApart : ByteArray := prog_1_method_72_code
def yX5_farApart : MethodName := ⟨RX5, "farApart", "()I"⟩
abbrev cX5_offHouses : ByteArray := prog_1_method_73_code
def yX5_offHouses : MethodName := ⟨RX5, "offHouses", "()I"⟩
abbrev cX5_haveHouses : ByteArray := prog_1_method_74_code
def yX5_haveHouses : MethodName := ⟨RX5, "haveHouses", "()I"⟩
abbrev cX5_countStep : ByteArray := prog_1_method_75_code
def yX5_countStep : MethodName := ⟨RX5, "countStep", "(I)V"⟩
abbrev cX5_turn : ByteArray := prog_1_method_76_code
def yX5_turn : MethodName := ⟨RX5, "turn", "()I"⟩
abbrev cX5_scoreOf : ByteArray := prog_1_method_77_code
def yX5_scoreOf : MethodName := ⟨RX5, "scoreOf", "(I)I"⟩
abbrev cX5_level : ByteArray := prog_1_method_78_code
def yX5_level : MethodName := ⟨RX5, "level", "(I)I"⟩
abbrev cX5_farApartBy : ByteArray := prog_1_method_79_code
def yX5_farApartBy : MethodName := ⟨RX5, "farApartBy", "(IIIII)I"⟩
def RX6 : String := "WhereSheModel"
def TX6 : u_T := fun k => match k with
  | 0 => ("WhereSheModel", "w", "[I", true)
  | 1 => ("WhereSheModel", "kept", "[I", true)
  | 2 => ("WhereSheModel", "hasImage", "Z", false)
  | 3 => ("WhereSheModel", "freshAct", "[I", true)
  | 4 => ("WhereSheModel", "freshLine", "[I", true)
  | 5 => ("WhereSheModel", "freshStep", "[I", true)
  | 6 => ("WhereSheModel", "tape", "[I", true)
  | 7 => ("WhereSheModel", "pile", "[I", true)
  | 8 => ("WhereSheModel", "facts", "[I", true)
  | 9 => ("WhereSheModel", "sort", "I", false)
  | 10 => ("WhereSheModel", "lines", "I", false)
  | 11 => ("WhereSheModel", "steps", "I", false)
  | 12 => ("WhereSheModel", "taped", "I", false)
  | 13 => ("WhereSheModel", "at", "I", false)
  | 14 => ("WhereSheModel", "token", "I", false)
  | 15 => ("WhereSheModel", "tokenAt", "I", false)
  | 16 => ("WhereSheModel", "value", "I", false)
  | 17 => ("WhereSheModel", "wrong", "I", false)
  | 18 => ("WhereSheModel", "wrongAt", "I", false)
  | 19 => ("WhereSheModel", "faultKind", "I", false)
  | 20 => ("WhereSheModel", "depth", "I", false)
  | 21 => ("WhereSheModel", "faultPlace", "I", false)
  | 22 => ("WhereSheModel", "isHere", "[Z", true)
  | 23 => ("WhereSheModel", "worn", "[Z", true)
  | 24 => ("WhereSheModel", "saw", "[Z", true)
  | 25 => ("WhereSheModel", "screen", "[I", true)
  | 26 => ("WhereSheModel", "box", "[I", true)
  | 27 => ("WhereSheModel", "moves", "[I", true)
  | 28 => ("WhereSheModel", "ahead", "[I", true)
  | 29 => ("WhereSheModel", "first", "[I", true)
  | 30 => ("WhereSheModel", "holds", "[I", true)
  | 31 => ("WhereSheModel", "last", "[I", true)
  | 32 => ("WhereSheModel", "puts", "[I", true)
  | 33 => ("WhereSheModel", "second", "[I", true)
  | 34 => ("WhereSheModel", "pictures", "[I", true)
  | 35 => ("WhereSheModel", "couples", "[I", true)
  | 36 => ("WhereSheModel", "product", "[J", true)
  | 37 => ("WhereSheModel", "beside", "[I", true)
  | 38 => ("WhereSheModel", "choose", "[J", true)
  | 39 => ("WhereSheModel", "told0", "I", false)
  | _ => ("WhereSheModel", "right0", "I", false)
def tyX6 : Nat → FieldType := fun k => match k with
  | 0 => .array .int
  | 1 => .array .int
  | 2 => .boolean
  | 3 => .array .int
  | 4 => .array .int
  | 5 => .array .int
  | 6 => .array .int
  | 7 => .array .int
  | 8 => .array .int
  | 9 => .int
  | 10 => .int
  | 11 => .int
  | 12 => .int
  | 13 => .int
  | 14 => .int
  | 15 => .int
  | 16 => .int
  | 17 => .int
  | 18 => .int
  | 19 => .int
  | 20 => .int
  | 21 => .int
  | 22 => .array .boolean
  | 23 => .array .boolean
  | 24 => .array .boolean
  | 25 => .array .int
  | 26 => .array .int
  | 27 => .array .int
  | 28 => .array .int
  | 29 => .array .int
  | 30 => .array .int
  | 31 => .array .int
  | 32 => .array .int
  | 33 => .array .int
  | 34 => .array .int
  | 35 => .array .int
  | 36 => .array .long
  | 37 => .array .int
  | 38 => .array .long
  | 39 => .int
  | _ => .int
abbrev wsX60 : List Cond := u_ws RX6 TX6 41
theorem nmX6 : ∀ a, a < 41 → ∀ b, b < 41 → a ≠ b → (TX6 a).2.1 ≠ (TX6 b).2.1 := by decide +kernel
theorem tyX6_ok : ∀ k, k < 41 → parseFieldDescriptor (TX6 k).2.2.1 = some (tyX6 k) := by decide +kernel
abbrev cX6_init : ByteArray := prog_8_method_1_code
def yX6_init : MethodName := ⟨RX6, "<init>", "()V"⟩
abbrev cX6_isIn : ByteArray := prog_8_method_2_code
def yX6_isIn : MethodName := ⟨RX6, "isIn", "(III)Z"⟩
abbrev cX6_apart : ByteArray := prog_8_method_3_code
def yX6_apart : MethodName := ⟨RX6, "apart", "(II)I"⟩
abbrev cX6_root : ByteArray := prog_8_method_4_code
def yX6_root : MethodName := ⟨RX6, "root", "(I)I"⟩
abbrev cX6_state : ByteArray := prog_8_method_5_code
def yX6_state : MethodName := ⟨RX6, "state", "(I)I"⟩
abbrev cX6_draw : ByteArray := prog_8_method_6_code
def yX6_draw : MethodName := ⟨RX6, "draw", "(I)I"⟩
abbrev cX6_feed : ByteArray := prog_8_method_7_code
def yX6_feed : MethodName := ⟨RX6, "feed", "(IIIII)I"⟩
abbrev cX6_end : ByteArray := prog_8_method_8_code
def yX6_end : MethodName := ⟨RX6, "end", "(I)Z"⟩
abbrev cX6_see : ByteArray := prog_8_method_9_code
def yX6_see : MethodName := ⟨RX6, "see", "(I)I"⟩
abbrev cX6_isLetter : ByteArray := prog_8_method_10_code
def yX6_isLetter : MethodName := ⟨RX6, "isLetter", "(I)Z"⟩
abbrev cX6_isDigit : ByteArray := prog_8_method_11_code
def yX6_isDigit : MethodName := ⟨RX6, "isDigit", "(I)Z"⟩
abbrev cX6_is : ByteArray := prog_8_method_12_code
def yX6_is : MethodName := ⟨RX6, "is", "(Ljava/lang/String;)Z"⟩
abbrev cX6_actWord : ByteArray := prog_8_method_13_code
def yX6_actWord : MethodName := ⟨RX6, "actWord", "()I"⟩
abbrev cX6_lawWord : ByteArray := prog_8_method_14_code
def yX6_lawWord : MethodName := ⟨RX6, "lawWord", "()I"⟩
abbrev cX6_next0 : ByteArray := prog_8_method_15_code
def yX6_next0 : MethodName := ⟨RX6, "next0", "()V"⟩
abbrev cX6_bad : ByteArray := prog_8_method_16_code
def yX6_bad : MethodName := ⟨RX6, "bad", "(I)Z"⟩
abbrev cX6_need0 : ByteArray := prog_8_method_17_code
def yX6_need0 : MethodName := ⟨RX6, "need0", "(I)Z"⟩
abbrev cX6_number : ByteArray := prog_8_method_18_code
def yX6_number : MethodName := ⟨RX6, "number", "(II)Z"⟩
abbrev cX6_lay : ByteArray := prog_8_method_19_code
def yX6_lay : MethodName := ⟨RX6, "lay", "(II)V"⟩
abbrev cX6_opens : ByteArray := prog_8_method_20_code
def yX6_opens : MethodName := ⟨RX6, "opens", "()Z"⟩
abbrev cX6_sumUp : ByteArray := prog_8_method_21_code
def yX6_sumUp : MethodName := ⟨RX6, "sumUp", "()Z"⟩
abbrev cX6_product : ByteArray := prog_8_method_22_code
def yX6_product : MethodName := ⟨RX6, "product", "()Z"⟩
abbrev cX6_unit : ByteArray := prog_8_method_23_code
def yX6_unit : MethodName := ⟨RX6, "unit", "()Z"⟩
abbrev cX6_any : ByteArray := prog_8_method_24_code
def yX6_any : MethodName := ⟨RX6, "any", "()Z"⟩
abbrev cX6_every : ByteArray := prog_8_method_25_code
def yX6_every : MethodName := ⟨RX6, "every", "()Z"⟩
abbrev cX6_one : ByteArray := prog_8_method_26_code
def yX6_one : MethodName := ⟨RX6, "one", "()Z"⟩
abbrev cX6_argument : ByteArray := prog_8_method_27_code
def yX6_argument : MethodName := ⟨RX6, "argument", "(II)Z"⟩
abbrev cX6_anAct : ByteArray := prog_8_method_28_code
def yX6_anAct : MethodName := ⟨RX6, "anAct", "()Z"⟩
abbrev cX6_aLine : ByteArray := prog_8_method_29_code
def yX6_aLine : MethodName := ⟨RX6, "aLine", "()Z"⟩
abbrev cX6_text : ByteArray := prog_8_method_30_code
def yX6_text : MethodName := ⟨RX6, "text", "(II)I"⟩
abbrev cX6_keeps : ByteArray := prog_8_method_31_code
def yX6_keeps : MethodName := ⟨RX6, "keeps", "(I)V"⟩
abbrev cX6_fault : ByteArray := prog_8_method_32_code
def yX6_fault : MethodName := ⟨RX6, "fault", "(I)I"⟩
abbrev cX6_begins : ByteArray := prog_8_method_33_code
def yX6_begins : MethodName := ⟨RX6, "begins", "()V"⟩
abbrev cX6_canSee : ByteArray := prog_8_method_34_code
def yX6_canSee : MethodName := ⟨RX6, "canSee", "(I)Z"⟩
abbrev cX6_takesForSeeing : ByteArray := prog_8_method_35_code
def yX6_takesForSeeing : MethodName := ⟨RX6, "takesForSeeing", "(II)Z"⟩
abbrev cX6_moves : ByteArray := prog_8_method_36_code
def yX6_moves : MethodName := ⟨RX6, "moves", "(IIIZ)V"⟩
abbrev cX6_tells : ByteArray := prog_8_method_37_code
def yX6_tells : MethodName := ⟨RX6, "tells", "(IIII)V"⟩
abbrev cX6_lifts : ByteArray := prog_8_method_38_code
def yX6_lifts : MethodName := ⟨RX6, "lifts", "(II)V"⟩
abbrev cX6_acts : ByteArray := prog_8_method_39_code
def yX6_acts : MethodName := ⟨RX6, "acts", "(IIIII)V"⟩
abbrev cX6_goes : ByteArray := prog_8_method_40_code
def yX6_goes : MethodName := ⟨RX6, "goes", "(I)V"⟩
abbrev cX6_isScene : ByteArray := prog_8_method_41_code
def yX6_isScene : MethodName := ⟨RX6, "isScene", "(I)Z"⟩
abbrev cX6_isWho : ByteArray := prog_8_method_42_code
def yX6_isWho : MethodName := ⟨RX6, "isWho", "(I)Z"⟩
abbrev cX6_isThing : ByteArray := prog_8_method_43_code
def yX6_isThing : MethodName := ⟨RX6, "isThing", "(I)Z"⟩
abbrev cX6_after : ByteArray := prog_8_method_44_code
def yX6_after : MethodName := ⟨RX6, "after", "(IIII)I"⟩
abbrev cX6_thinks : ByteArray := prog_8_method_45_code
def yX6_thinks : MethodName := ⟨RX6, "thinks", "(IIII)I"⟩
abbrev cX6_here : ByteArray := prog_8_method_46_code
def yX6_here : MethodName := ⟨RX6, "here", "(III)I"⟩
abbrev cX6_asked : ByteArray := prog_8_method_47_code
def yX6_asked : MethodName := ⟨RX6, "asked", "(II)I"⟩
abbrev cX6_isQuestion : ByteArray := prog_8_method_48_code
def yX6_isQuestion : MethodName := ⟨RX6, "isQuestion", "(I)Z"⟩
abbrev cX6_question : ByteArray := prog_8_method_49_code
def yX6_question : MethodName := ⟨RX6, "question", "(IIIII)I"⟩
abbrev cX6_saysNow : ByteArray := prog_8_method_50_code
def yX6_saysNow : MethodName := ⟨RX6, "saysNow", "(II)I"⟩
abbrev cX6_saysOf : ByteArray := prog_8_method_51_code
def yX6_saysOf : MethodName := ⟨RX6, "saysOf", "(II)I"⟩
abbrev cX6_tellsSome : ByteArray := prog_8_method_52_code
def yX6_tellsSome : MethodName := ⟨RX6, "tellsSome", "(I)Z"⟩
abbrev cX6_says : ByteArray := prog_8_method_53_code
def yX6_says : MethodName := ⟨RX6, "says", "(II)I"⟩
abbrev cX6_ofChild : ByteArray := prog_8_method_54_code
def yX6_ofChild : MethodName := ⟨RX6, "ofChild", "(II)I"⟩
abbrev cX6_isChild : ByteArray := prog_8_method_55_code
def yX6_isChild : MethodName := ⟨RX6, "isChild", "(I)Z"⟩
abbrev cX6_isLaw : ByteArray := prog_8_method_56_code
def yX6_isLaw : MethodName := ⟨RX6, "isLaw", "(I)Z"⟩
abbrev cX6_isHow : ByteArray := prog_8_method_57_code
def yX6_isHow : MethodName := ⟨RX6, "isHow", "(I)Z"⟩
abbrev cX6_child : ByteArray := prog_8_method_58_code
def yX6_child : MethodName := ⟨RX6, "child", "(IIII)I"⟩
abbrev cX6_both : ByteArray := prog_8_method_59_code
def yX6_both : MethodName := ⟨RX6, "both", "(III)I"⟩
abbrev cX6_comesTo : ByteArray := prog_8_method_60_code
def yX6_comesTo : MethodName := ⟨RX6, "comesTo", "(III)I"⟩
abbrev cX6_gathers : ByteArray := prog_8_method_61_code
def yX6_gathers : MethodName := ⟨RX6, "gathers", "(III)V"⟩
abbrev cX6_weighs : ByteArray := prog_8_method_62_code
def yX6_weighs : MethodName := ⟨RX6, "weighs", "(II)I"⟩
abbrev cX6_weight : ByteArray := prog_8_method_63_code
def yX6_weight : MethodName := ⟨RX6, "weight", "(IIII)I"⟩
abbrev cX6_allWeights : ByteArray := prog_8_method_64_code
def yX6_allWeights : MethodName := ⟨RX6, "allWeights", "(I)I"⟩
abbrev cX6_ofAnswer : ByteArray := prog_8_method_65_code
def yX6_ofAnswer : MethodName := ⟨RX6, "ofAnswer", "(II)I"⟩
abbrev cX6_answers : ByteArray := prog_8_method_66_code
def yX6_answers : MethodName := ⟨RX6, "answers", "(IIIIII)V"⟩
abbrev cX6_ask : ByteArray := prog_8_method_67_code
def yX6_ask : MethodName := ⟨RX6, "ask", "(III)I"⟩
abbrev cX6_isAnswer : ByteArray := prog_8_method_68_code
def yX6_isAnswer : MethodName := ⟨RX6, "isAnswer", "(I)Z"⟩
abbrev cX6_told : ByteArray := prog_8_method_69_code
def yX6_told : MethodName := ⟨RX6, "told", "(IIII)I"⟩
abbrev cX6_answer : ByteArray := prog_8_method_70_code
def yX6_answer : MethodName := ⟨RX6, "answer", "(II)I"⟩
abbrev cX6_chanceOf : ByteArray := prog_8_method_71_code
def yX6_chanceOf : MethodName := ⟨RX6, "chanceOf", "(IIIII)I"⟩
abbrev cX6_chance : ByteArray := prog_8_method_72_code
def yX6_chance : MethodName := ⟨RX6, "chance", "(IIIII)I"⟩
abbrev cX6_isRule : ByteArray := prog_8_method_73_code
def yX6_isRule : MethodName := ⟨RX6, "isRule", "(I)Z"⟩
abbrev cX6_partedBy : ByteArray := prog_8_method_74_code
def yX6_partedBy : MethodName := ⟨RX6, "partedBy", "(II)I"⟩
abbrev cX6_parted : ByteArray := prog_8_method_75_code
def yX6_parted : MethodName := ⟨RX6, "parted", "(II)I"⟩
abbrev cX6_count : ByteArray := prog_8_method_76_code
def yX6_count : MethodName := ⟨RX6, "count", "(I)I"⟩
abbrev cX6_fewest : ByteArray := prog_8_method_77_code
def yX6_fewest : MethodName := ⟨RX6, "fewest", "(I)I"⟩
abbrev cX6_unlikeBehind : ByteArray := prog_8_method_78_code
def yX6_unlikeBehind : MethodName := ⟨RX6, "unlikeBehind", "(IIIIIII)Z"⟩
abbrev cX6_make : ByteArray := prog_8_method_79_code
def yX6_make : MethodName := ⟨RX6, "make", "(III)I"⟩
abbrev cX6_multiplies : ByteArray := prog_8_method_80_code
def yX6_multiplies : MethodName := ⟨RX6, "multiplies", "(I)V"⟩
abbrev cX6_oddsNow : ByteArray := prog_8_method_81_code
def yX6_oddsNow : MethodName := ⟨RX6, "oddsNow", "(I)I"⟩
abbrev cX6_itsRule : ByteArray := prog_8_method_82_code
def yX6_itsRule : MethodName := ⟨RX6, "itsRule", "(I)I"⟩
abbrev cX6_odds : ByteArray := prog_8_method_83_code
def yX6_odds : MethodName := ⟨RX6, "odds", "(II)I"⟩
abbrev cX6_need : ByteArray := prog_8_method_84_code
def yX6_need : MethodName := ⟨RX6, "need", "(II)I"⟩
abbrev cX6_isTelling : ByteArray := prog_8_method_85_code
def yX6_isTelling : MethodName := ⟨RX6, "isTelling", "(I)Z"⟩
abbrev cX6_pulls : ByteArray := prog_8_method_86_code
def yX6_pulls : MethodName := ⟨RX6, "pulls", "(II)I"⟩
abbrev cX6_passes : ByteArray := prog_8_method_87_code
def yX6_passes : MethodName := ⟨RX6, "passes", "(II)I"⟩
abbrev cX6_beside : ByteArray := prog_8_method_88_code
def yX6_beside : MethodName := ⟨RX6, "beside", "(I)I"⟩
abbrev cX6_eyes : ByteArray := prog_8_method_89_code
def yX6_eyes : MethodName := ⟨RX6, "eyes", "(II)I"⟩
abbrev cX6_isRare : ByteArray := prog_8_method_90_code
def yX6_isRare : MethodName := ⟨RX6, "isRare", "(II)Z"⟩
abbrev cX6_isLong : ByteArray := prog_8_method_91_code
def yX6_isLong : MethodName := ⟨RX6, "isLong", "(I)Z"⟩
abbrev cX6_way : ByteArray := prog_8_method_92_code
def yX6_way : MethodName := ⟨RX6, "way", "(I)I"⟩
abbrev cX6_house : ByteArray := prog_8_method_93_code
def yX6_house : MethodName := ⟨RX6, "house", "(II)I"⟩
abbrev cX6_share : ByteArray := prog_8_method_94_code
def yX6_share : MethodName := ⟨RX6, "share", "(I)I"⟩
abbrev cX6_houses : ByteArray := prog_8_method_95_code
def yX6_houses : MethodName := ⟨RX6, "houses", "(I)I"⟩
abbrev cX6_sorts : ByteArray := prog_8_method_96_code
def yX6_sorts : MethodName := ⟨RX6, "sorts", "(II)I"⟩
abbrev cX6_curves : ByteArray := prog_8_method_97_code
def yX6_curves : MethodName := ⟨RX6, "curves", "(I)V"⟩
abbrev cX6_curve : ByteArray := prog_8_method_98_code
def yX6_curve : MethodName := ⟨RX6, "curve", "(II)I"⟩
abbrev cX6_level : ByteArray := prog_8_method_99_code
def yX6_level : MethodName := ⟨RX6, "level", "(I)I"⟩
abbrev cX6_scoreOf : ByteArray := prog_8_method_100_code
def yX6_scoreOf : MethodName := ⟨RX6, "scoreOf", "(I)I"⟩
abbrev cX6_score : ByteArray := prog_8_method_101_code
def yX6_score : MethodName := ⟨RX6, "score", "(I)I"⟩
abbrev cX6_next : ByteArray := prog_8_method_102_code
def yX6_next : MethodName := ⟨RX6, "next", "(IIIII)I"⟩
abbrev cX6_image : ByteArray := prog_8_method_103_code
def yX6_image : MethodName := ⟨RX6, "image", "(Z)Z"⟩
abbrev cX6_look : ByteArray := prog_8_method_104_code
def yX6_look : MethodName := ⟨RX6, "look", "(I)I"⟩
def RJx145de : String := "java/io/Serializable"
def TJx145de : u_T := fun k => match k with
  | _ => ("", "", "", false)
def tyJx145de : Nat → FieldType := fun k => match k with
  | _ => .int
abbrev wsJx145de0 : List Cond := u_ws RJx145de TJx145de 0
theorem nmJx145de : ∀ a, a < 0 → ∀ b, b < 0 → a ≠ b → (TJx145de a).2.1 ≠ (TJx145de b).2.1 := by decide +kernel
theorem tyJx145de_ok : ∀ k, k < 0 → parseFieldDescriptor (TJx145de k).2.2.1 = some (tyJx145de k) := by decide +kernel
def RJx9f9b0 : String := "java/lang/CharSequence"
def TJx9f9b0 : u_T := fun k => match k with
  | _ => ("", "", "", false)
def tyJx9f9b0 : Nat → FieldType := fun k => match k with
  | _ => .int
abbrev wsJx9f9b00 : List Cond := u_ws RJx9f9b0 TJx9f9b0 0
theorem nmJx9f9b0 : ∀ a, a < 0 → ∀ b, b < 0 → a ≠ b → (TJx9f9b0 a).2.1 ≠ (TJx9f9b0 b).2.1 := by decide +kernel
theorem tyJx9f9b0_ok : ∀ k, k < 0 → parseFieldDescriptor (TJx9f9b0 k).2.2.1 = some (tyJx9f9b0 k) := by decide +kernel
def RJ11 : String := "java/lang/Character"
def TJ11 : u_T := fun k => match k with
  | _ => ("", "", "", false)
def tyJ11 : Nat → FieldType := fun k => match k with
  | _ => .int
abbrev wsJ110 : List Cond := u_ws RJ11 TJ11 0
theorem nmJ11 : ∀ a, a < 0 → ∀ b, b < 0 → a ≠ b → (TJ11 a).2.1 ≠ (TJ11 b).2.1 := by decide +kernel
theorem tyJ11_ok : ∀ k, k < 0 → parseFieldDescriptor (TJ11 k).2.2.1 = some (tyJ11 k) := by decide +kernel
abbrev cJ11_isValidCodePoint_9a6ad : ByteArray := prog_9_method_11_code
def yJ11_isValidCodePoint_9a6ad : MethodName := ⟨RJ11, "isValidCodePoint", "(I)Z"⟩
abbrev cJ11_highSurrogate_5068e : ByteArray := prog_9_method_28_code
def yJ11_highSurrogate_5068e : MethodName := ⟨RJ11, "highSurrogate", "(I)C"⟩
abbrev cJ11_lowSurrogate_5068e : ByteArray := prog_9_method_29_code
def yJ11_lowSurrogate_5068e : MethodName := ⟨RJ11, "lowSurrogate", "(I)C"⟩
def RJxb160c : String := "java/lang/Comparable"
def TJxb160c : u_T := fun k => match k with
  | _ => ("", "", "", false)
def tyJxb160c : Nat → FieldType := fun k => match k with
  | _ => .int
abbrev wsJxb160c0 : List Cond := u_ws RJxb160c TJxb160c 0
theorem nmJxb160c : ∀ a, a < 0 → ∀ b, b < 0 → a ≠ b → (TJxb160c a).2.1 ≠ (TJxb160c b).2.1 := by decide +kernel
theorem tyJxb160c_ok : ∀ k, k < 0 → parseFieldDescriptor (TJxb160c k).2.2.1 = some (tyJxb160c k) := by decide +kernel
def RJ6 : String := "java/lang/Integer"
def TJ6 : u_T := fun k => match k with
  | _ => ("", "", "", false)
def tyJ6 : Nat → FieldType := fun k => match k with
  | _ => .int
abbrev wsJ60 : List Cond := u_ws RJ6 TJ6 0
theorem nmJ6 : ∀ a, a < 0 → ∀ b, b < 0 → a ≠ b → (TJ6 a).2.1 ≠ (TJ6 b).2.1 := by decide +kernel
theorem tyJ6_ok : ∀ k, k < 0 → parseFieldDescriptor (TJ6 k).2.2.1 = some (tyJ6 k) := by decide +kernel
abbrev cJ6_bitCount_0f7a4 : ByteArray := prog_10_method_49_code
def yJ6_bitCount_0f7a4 : MethodName := ⟨RJ6, "bitCount", "(I)I"⟩
def RJ9 : String := "java/lang/Math"
def TJ9 : u_T := fun k => match k with
  | _ => ("", "", "", false)
def tyJ9 : Nat → FieldType := fun k => match k with
  | _ => .int
abbrev wsJ90 : List Cond := u_ws RJ9 TJ9 0
theorem nmJ9 : ∀ a, a < 0 → ∀ b, b < 0 → a ≠ b → (TJ9 a).2.1 ≠ (TJ9 b).2.1 := by decide +kernel
theorem tyJ9_ok : ∀ k, k < 0 → parseFieldDescriptor (TJ9 k).2.2.1 = some (tyJ9 k) := by decide +kernel
abbrev cJ9_floorMod_7cf53 : ByteArray := prog_11_method_50_code
def yJ9_floorMod_7cf53 : MethodName := ⟨RJ9, "floorMod", "(II)I"⟩
abbrev cJ9_abs_0f7a4 : ByteArray := prog_11_method_59_code
def yJ9_abs_0f7a4 : MethodName := ⟨RJ9, "abs", "(I)I"⟩
abbrev cJ9_max_7cf53 : ByteArray := prog_11_method_65_code
def yJ9_max_7cf53 : MethodName := ⟨RJ9, "max", "(II)I"⟩
abbrev cJ9_min_7cf53 : ByteArray := prog_11_method_69_code
def yJ9_min_7cf53 : MethodName := ⟨RJ9, "min", "(II)I"⟩
def RJ0 : String := "java/lang/String"
def TJ0 : u_T := fun k => match k with
  | _ => ("", "", "", false)
def tyJ0 : Nat → FieldType := fun k => match k with
  | _ => .int
abbrev wsJ00 : List Cond := u_ws RJ0 TJ0 0
theorem nmJ0 : ∀ a, a < 0 → ∀ b, b < 0 → a ≠ b → (TJ0 a).2.1 ≠ (TJ0 b).2.1 := by decide +kernel
theorem tyJ0_ok : ∀ k, k < 0 → parseFieldDescriptor (TJ0 k).2.2.1 = some (tyJ0 k) := by decide +kernel
abbrev cJ0_length_8abf5 : ByteArray := prog_12_method_54_code
def yJ0_length_8abf5 : MethodName := ⟨RJ0, "length", "()I"⟩
abbrev cJ0_charAt_5068e : ByteArray := prog_12_method_56_code
def yJ0_charAt_5068e : MethodName := ⟨RJ0, "charAt", "(I)C"⟩
abbrev cJ0_indexOf_0f7a4 : ByteArray := prog_12_method_79_code
def yJ0_indexOf_0f7a4 : MethodName := ⟨RJ0, "indexOf", "(I)I"⟩
abbrev cJ0_indexOf_7cf53 : ByteArray := prog_12_method_80_code
def yJ0_indexOf_7cf53 : MethodName := ⟨RJ0, "indexOf", "(II)I"⟩
abbrev cJ0_coder_7d493 : ByteArray := prog_12_method_152_code
def yJ0_coder_7d493 : MethodName := ⟨RJ0, "coder", "()B"⟩
abbrev cJ0_isLatin1_aae02 : ByteArray := prog_12_method_154_code
def yJ0_isLatin1_aae02 : MethodName := ⟨RJ0, "isLatin1", "()Z"⟩
abbrev cJ0_checkIndex_df160 : ByteArray := prog_12_method_155_code
def yJ0_checkIndex_df160 : MethodName := ⟨RJ0, "checkIndex", "(II)V"⟩
abbrev cJ0_checkBoundsBeginEnd_23922 : ByteArray := prog_12_method_158_code
def yJ0_checkBoundsBeginEnd_23922 : MethodName := ⟨RJ0, "checkBoundsBeginEnd", "(III)V"⟩
def RJ1 : String := "java/lang/StringLatin1"
def TJ1 : u_T := fun k => match k with
  | _ => ("", "", "", false)
def tyJ1 : Nat → FieldType := fun k => match k with
  | _ => .int
abbrev wsJ10 : List Cond := u_ws RJ1 TJ1 0
theorem nmJ1 : ∀ a, a < 0 → ∀ b, b < 0 → a ≠ b → (TJ1 a).2.1 ≠ (TJ1 b).2.1 := by decide +kernel
theorem tyJ1_ok : ∀ k, k < 0 → parseFieldDescriptor (TJ1 k).2.2.1 = some (tyJ1 k) := by decide +kernel
abbrev cJ1_charAt_3b067 : ByteArray := prog_13_method_2_code
def yJ1_charAt_3b067 : MethodName := ⟨RJ1, "charAt", "([BI)C"⟩
abbrev cJ1_canEncode_9a6ad : ByteArray := prog_13_method_4_code
def yJ1_canEncode_9a6ad : MethodName := ⟨RJ1, "canEncode", "(I)Z"⟩
abbrev cJ1_indexOf_4cfef : ByteArray := prog_13_method_22_code
def yJ1_indexOf_4cfef : MethodName := ⟨RJ1, "indexOf", "([BIII)I"⟩
abbrev cJ1_indexOfChar_4cfef : ByteArray := prog_13_method_23_code
def yJ1_indexOfChar_4cfef : MethodName := ⟨RJ1, "indexOfChar", "([BIII)I"⟩
def RJ2 : String := "java/lang/StringUTF16"
def TJ2 : u_T := fun k => match k with
  | _ => ("", "", "", false)
def tyJ2 : Nat → FieldType := fun k => match k with
  | _ => .int
abbrev wsJ20 : List Cond := u_ws RJ2 TJ2 0
theorem nmJ2 : ∀ a, a < 0 → ∀ b, b < 0 → a ≠ b → (TJ2 a).2.1 ≠ (TJ2 b).2.1 := by decide +kernel
theorem tyJ2_ok : ∀ k, k < 0 → parseFieldDescriptor (TJ2 k).2.2.1 = some (tyJ2 k) := by decide +kernel
abbrev cJ2_getChar_3b067 : ByteArray := prog_14_method_5_code
def yJ2_getChar_3b067 : MethodName := ⟨RJ2, "getChar", "([BI)C"⟩
abbrev cJ2_length_9d52b : ByteArray := prog_14_method_6_code
def yJ2_length_9d52b : MethodName := ⟨RJ2, "length", "([B)I"⟩
abbrev cJ2_indexOf_4cfef : ByteArray := prog_14_method_40_code
def yJ2_indexOf_4cfef : MethodName := ⟨RJ2, "indexOf", "([BIII)I"⟩
abbrev cJ2_indexOfChar_4cfef : ByteArray := prog_14_method_47_code
def yJ2_indexOfChar_4cfef : MethodName := ⟨RJ2, "indexOfChar", "([BIII)I"⟩
abbrev cJ2_indexOfCharUnsafe_4cfef : ByteArray := prog_14_method_48_code
def yJ2_indexOfCharUnsafe_4cfef : MethodName := ⟨RJ2, "indexOfCharUnsafe", "([BIII)I"⟩
abbrev cJ2_indexOfSupplementary_4cfef : ByteArray := prog_14_method_49_code
def yJ2_indexOfSupplementary_4cfef : MethodName := ⟨RJ2, "indexOfSupplementary", "([BIII)I"⟩
abbrev cJ2_charAt_3b067 : ByteArray := prog_14_method_83_code
def yJ2_charAt_3b067 : MethodName := ⟨RJ2, "charAt", "([BI)C"⟩
abbrev cJ2_checkIndex_2214a : ByteArray := prog_14_method_91_code
def yJ2_checkIndex_2214a : MethodName := ⟨RJ2, "checkIndex", "(I[B)V"⟩
abbrev cJ2_checkBoundsBeginEnd_d044e : ByteArray := prog_14_method_93_code
def yJ2_checkBoundsBeginEnd_d044e : MethodName := ⟨RJ2, "checkBoundsBeginEnd", "(II[B)V"⟩
def RJ10 : String := "java/lang/System"
def TJ10 : u_T := fun k => match k with
  | _ => ("", "", "", false)
def tyJ10 : Nat → FieldType := fun k => match k with
  | _ => .int
abbrev wsJ100 : List Cond := u_ws RJ10 TJ10 0
theorem nmJ10 : ∀ a, a < 0 → ∀ b, b < 0 → a ≠ b → (TJ10 a).2.1 ≠ (TJ10 b).2.1 := by decide +kernel
theorem tyJ10_ok : ∀ k, k < 0 → parseFieldDescriptor (TJ10 k).2.2.1 = some (tyJ10 k) := by decide +kernel
def RJxfd54e : String := "java/lang/constant/Constable"
def TJxfd54e : u_T := fun k => match k with
  | _ => ("", "", "", false)
def tyJxfd54e : Nat → FieldType := fun k => match k with
  | _ => .int
abbrev wsJxfd54e0 : List Cond := u_ws RJxfd54e TJxfd54e 0
theorem nmJxfd54e : ∀ a, a < 0 → ∀ b, b < 0 → a ≠ b → (TJxfd54e a).2.1 ≠ (TJxfd54e b).2.1 := by decide +kernel
theorem tyJxfd54e_ok : ∀ k, k < 0 → parseFieldDescriptor (TJxfd54e k).2.2.1 = some (tyJxfd54e k) := by decide +kernel
def RJx3cf43 : String := "java/lang/constant/ConstantDesc"
def TJx3cf43 : u_T := fun k => match k with
  | _ => ("", "", "", false)
def tyJx3cf43 : Nat → FieldType := fun k => match k with
  | _ => .int
abbrev wsJx3cf430 : List Cond := u_ws RJx3cf43 TJx3cf43 0
theorem nmJx3cf43 : ∀ a, a < 0 → ∀ b, b < 0 → a ≠ b → (TJx3cf43 a).2.1 ≠ (TJx3cf43 b).2.1 := by decide +kernel
theorem tyJx3cf43_ok : ∀ k, k < 0 → parseFieldDescriptor (TJx3cf43 k).2.2.1 = some (tyJx3cf43 k) := by decide +kernel
def RJ7 : String := "java/util/Arrays"
def TJ7 : u_T := fun k => match k with
  | _ => ("", "", "", false)
def tyJ7 : Nat → FieldType := fun k => match k with
  | _ => .int
abbrev wsJ70 : List Cond := u_ws RJ7 TJ7 0
theorem nmJ7 : ∀ a, a < 0 → ∀ b, b < 0 → a ≠ b → (TJ7 a).2.1 ≠ (TJ7 b).2.1 := by decide +kernel
theorem tyJ7_ok : ∀ k, k < 0 → parseFieldDescriptor (TJ7 k).2.2.1 = some (tyJ7 k) := by decide +kernel
abbrev cJ7_fill_53178 : ByteArray := prog_16_method_103_code
def yJ7_fill_53178 : MethodName := ⟨RJ7, "fill", "([II)V"⟩
def RJ3 : String := "jdk/internal/util/Preconditions"
def TJ3 : u_T := fun k => match k with
  | _ => ("", "", "", false)
def tyJ3 : Nat → FieldType := fun k => match k with
  | _ => .int
abbrev wsJ30 : List Cond := u_ws RJ3 TJ3 0
theorem nmJ3 : ∀ a, a < 0 → ∀ b, b < 0 → a ≠ b → (TJ3 a).2.1 ≠ (TJ3 b).2.1 := by decide +kernel
theorem tyJ3_ok : ∀ k, k < 0 → parseFieldDescriptor (TJ3 k).2.2.1 = some (tyJ3 k) := by decide +kernel
abbrev cJ3_checkIndex_8e157 : ByteArray := prog_17_method_11_code
def yJ3_checkIndex_8e157 : MethodName := ⟨RJ3, "checkIndex", "(IILjava/util/function/BiFunction;)I"⟩
abbrev cJ3_checkFromToIndex_8c36e : ByteArray := prog_17_method_12_code
def yJ3_checkFromToIndex_8c36e : MethodName := ⟨RJ3, "checkFromToIndex", "(IIILjava/util/function/BiFunction;)I"⟩
def RL : String := "WhereSheLaw"
abbrev cL_law : ByteArray := code
def yL_law : MethodName := ⟨RL, "law", "([I)Z"⟩
def wsX2_init : List Cond := .code yX2_init cX2_init 3 none :: ([.methodLink RX2 3 objectInit, .instanceMethod objectInit, .code objectInit ⟨#[0xb1]⟩ 1 none, .fieldLink RX2 9 "WhereShe$Rows" "size" "I", .methodLink RX2 15 Lib.Math.max.name, .static Lib.Math.max.name, .initialized "java/lang/Math", .code Lib.Math.max.name Lib.Math.max.code 2 (some .int), .fieldLink RX2 21 "WhereShe$Rows" "most" "I", .fieldLink RX2 24 "WhereShe$Rows" "width" "I", .arrayClass .int, .fieldLink RX2 27 "WhereShe$Rows" "cells" "[I"] ++ wsX20)
def wsX0_init_r1 : List Cond := [Cond.methodLink RX0 3 objectInit, Cond.instanceMethod objectInit, Cond.code objectInit ⟨#[0xb1]⟩ 1 none, Cond.fieldLink RX0 9 "WhereShe$Kept" "state" "I", Cond.arrayClass .int, Cond.fieldLink RX0 15 "WhereShe$Kept" "acts" "[I", Cond.fieldLink RX0 19 "WhereShe$Kept" "actCount" "[I", Cond.fieldLink RX0 22 "WhereShe$Kept" "lines" "[I", Cond.fieldLink RX0 25 "WhereShe$Kept" "lineCount" "[I", Cond.fieldLink RX0 28 "WhereShe$Kept" "code" "[I", Cond.classLink RX0 31 RX2, Cond.instantiable RX2 4, Cond.initialized RX2, Cond.fieldLink RX0 36 "WhereShe$Kept" "questions" "LWhereShe$Rows;", Cond.fieldLink RX0 40 "WhereShe$Kept" "said" "[I", Cond.fieldLink RX0 43 "WhereShe$Kept" "children" "LWhereShe$Rows;", Cond.fieldLink RX0 46 "WhereShe$Kept" "answers" "LWhereShe$Rows;", Cond.fieldLink RX0 49 "WhereShe$Kept" "eyes" "LWhereShe$Rows;", Cond.fieldLink RX0 52 "WhereShe$Kept" "houses" "LWhereShe$Rows;", Cond.methodLink RX0 33 yX2_init, Cond.instanceMethod yX2_init, Cond.code yX2_init cX2_init 3 none, Cond.methodLink RX2 3 objectInit, Cond.fieldLink RX2 9 "WhereShe$Rows" "size" "I"]
abbrev vwCl : List vw_C := [(RX0, TX0, 12), (RX1, TX1, 13), (RX2, TX2, 4), (RX3, TX3, 4), (RX4, TX4, 13), (RX5, TX5, 11), (RX6, TX6, 41)]
/-- the objects of WhereShe$Kept, kind 0: what each holds, by its address -/
structure wK_O_Kept where
  f_state : Nat → Int32
  f_acts : Nat → Option Nat
  f_actCount : Nat → Option Nat
  f_lines : Nat → Option Nat
  f_lineCount : Nat → Option Nat
  f_code : Nat → Option Nat
  f_questions : Nat → Option Nat
  f_said : Nat → Option Nat
  f_children : Nat → Option Nat
  f_answers : Nat → Option Nat
  f_eyes : Nat → Option Nat
  f_houses : Nat → Option Nat
/-- the objects of WhereShe$Reader, kind 1: what each holds, by its address -/
structure wK_O_Reader where
  f_tape : Nat → Option Nat
  f_size : Nat → Int32
  f_fault : Nat → Int32
  f_faultPlace : Nat → Int32
  f_kind : Nat → Option Nat
  f_value : Nat → Option Nat
  f_spot : Nat → Option Nat
  f_tokens : Nat → Int32
  f_at : Nat → Int32
  f_acts : Nat → Option Nat
  f_lines : Nat → Option Nat
  f_code : Nat → Option Nat
  f_codeSize : Nat → Int32
/-- the objects of WhereShe$Rows, kind 2: what each holds, by its address -/
structure wK_O_Rows where
  f_most : Nat → Int32
  f_width : Nat → Int32
  f_cells : Nat → Option Nat
  f_size : Nat → Int32
/-- the objects of WhereShe$Scale, kind 3: what each holds, by its address -/
structure wK_O_Scale where
  f_weight : Nat → Option Nat
  f_all : Nat → Int32
  f_given : Nat → Option Nat
  f_stack : Nat → Option Nat
/-- the objects of WhereShe$World, kind 4: what each holds, by its address -/
structure wK_O_World where
  f_here : Nat → Option Nat
  f_screen : Nat → Option Nat
  f_worn : Nat → Option Nat
  f_place : Nat → Option Nat
  f_before : Nat → Option Nat
  f_first : Nat → Option Nat
  f_moves : Nat → Option Nat
  f_picture : Nat → Option Nat
  f_held : Nat → Option Nat
  f_last : Nat → Option Nat
  f_put : Nat → Option Nat
  f_saw : Nat → Option Nat
  f_second : Nat → Option Nat
/-- the objects of WhereShe, kind 5: what each holds, by its address -/
structure wK_O_WhereShe where
  f_now : Nat → Option Nat
  f_kept : Nat → Option Nat
  f_hasImage : Nat → Int32
  f_reader : Nat → Option Nat
  f_world : Nat → Option Nat
  f_trial : Nat → Option Nat
  f_scale : Nat → Option Nat
  f_agreed : Nat → Option Nat
  f_couples : Nat → Option Nat
  f_apart : Nat → Option Nat
  f_tally : Nat → Option Nat
/-- the objects of WhereSheModel, kind 6: what each holds, by its address -/
structure wK_O_WhereSheModel where
  f_w : Nat → Option Nat
  f_kept : Nat → Option Nat
  f_hasImage : Nat → Int32
  f_freshAct : Nat → Option Nat
  f_freshLine : Nat → Option Nat
  f_freshStep : Nat → Option Nat
  f_tape : Nat → Option Nat
  f_pile : Nat → Option Nat
  f_facts : Nat → Option Nat
  f_sort : Nat → Int32
  f_lines : Nat → Int32
  f_steps : Nat → Int32
  f_taped : Nat → Int32
  f_at : Nat → Int32
  f_token : Nat → Int32
  f_tokenAt : Nat → Int32
  f_value : Nat → Int32
  f_wrong : Nat → Int32
  f_wrongAt : Nat → Int32
  f_faultKind : Nat → Int32
  f_depth : Nat → Int32
  f_faultPlace : Nat → Int32
  f_isHere : Nat → Option Nat
  f_worn : Nat → Option Nat
  f_saw : Nat → Option Nat
  f_screen : Nat → Option Nat
  f_box : Nat → Option Nat
  f_moves : Nat → Option Nat
  f_ahead : Nat → Option Nat
  f_first : Nat → Option Nat
  f_holds : Nat → Option Nat
  f_last : Nat → Option Nat
  f_puts : Nat → Option Nat
  f_second : Nat → Option Nat
  f_pictures : Nat → Option Nat
  f_couples : Nat → Option Nat
  f_product : Nat → Option Nat
  f_beside : Nat → Option Nat
  f_choose : Nat → Option Nat
  f_told0 : Nat → Int32
  f_right0 : Nat → Int32
/-- the arrays of kind 7: what each holds, by its address -/
structure wK_R_B where
  len : Nat → Nat
  row : Nat → Nat → Int32
/-- the arrays of kind 8: what each holds, by its address -/
structure wK_R_I where
  len : Nat → Nat
  row : Nat → Nat → Int32
/-- the arrays of kind 9: what each holds, by its address -/
structure wK_R_J where
  len : Nat → Nat
  row : Nat → Nat → Int64
/-- the arrays of kind 10: what each holds, by its address -/
structure wK_R_Z where
  len : Nat → Nat
  row : Nat → Nat → Int32
/-- the pool: the addresses, the kind of each, and the kinds -/
structure wPS where
  L : List Nat
  K : Nat → Nat
  O_Kept : wK_O_Kept
  O_Reader : wK_O_Reader
  O_Rows : wK_O_Rows
  O_Scale : wK_O_Scale
  O_World : wK_O_World
  O_WhereShe : wK_O_WhereShe
  O_WhereSheModel : wK_O_WhereSheModel
  R_B : wK_R_B
  R_I : wK_R_I
  R_J : wK_R_J
  R_Z : wK_R_Z
/-- the empty pool -/
