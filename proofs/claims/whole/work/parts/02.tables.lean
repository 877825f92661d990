def RX0 : String := "SpoonCards$Card"
def TX0 : u_T := fun k => match k with
  | 0 => ("SpoonCards$Card", "ingredients", "I", false)
  | 1 => ("SpoonCards$Card", "steps", "I", false)
  | 2 => ("SpoonCards$Card", "cardServings", "I", false)
  | 3 => ("SpoonCards$Card", "wantedServings", "I", false)
  | 4 => ("SpoonCards$Card", "amounts", "[I", true)
  | 5 => ("SpoonCards$Card", "stepMinutes", "[I", true)
  | 6 => ("SpoonCards$Card", "stepPan", "[I", true)
  | 7 => ("SpoonCards$Card", "stepHands", "[I", true)
  | 8 => ("SpoonCards$Card", "uses", "[I", true)
  | 9 => ("SpoonCards$Card", "needs", "[I", true)
  | 10 => ("SpoonCards$Card", "pieces", "[I", true)
  | _ => ("SpoonCards$Card", "settings", "[I", true)
def tyX0 : Nat → FieldType := fun k => match k with
  | 0 => .int
  | 1 => .int
  | 2 => .int
  | 3 => .int
  | 4 => .array .int
  | 5 => .array .int
  | 6 => .array .int
  | 7 => .array .int
  | 8 => .array .int
  | 9 => .array .int
  | 10 => .array .int
  | _ => .array .int
theorem nmX0 : ∀ a, a < 12 → ∀ b, b < 12 → a ≠ b → (TX0 a).2.1 ≠ (TX0 b).2.1 := by decide +kernel
theorem tyX0_ok : ∀ k, k < 12 → parseFieldDescriptor (TX0 k).2.2.1 = some (tyX0 k) := by decide +kernel
def RX1 : String := "SpoonCards$CardText"
def TX1 : u_T := fun k => match k with
  | 0 => ("SpoonCards$CardText", "signs", "[C", true)
  | 1 => ("SpoonCards$CardText", "length", "I", false)
  | 2 => ("SpoonCards$CardText", "leftOut", "I", false)
  | 3 => ("SpoonCards$CardText", "at", "I", false)
  | 4 => ("SpoonCards$CardText", "wrong", "Z", false)
  | 5 => ("SpoonCards$CardText", "action", "I", false)
  | 6 => ("SpoonCards$CardText", "first", "I", false)
  | 7 => ("SpoonCards$CardText", "second", "I", false)
  | _ => ("SpoonCards$CardText", "third", "I", false)
def tyX1 : Nat → FieldType := fun k => match k with
  | 0 => .array .char
  | 1 => .int
  | 2 => .int
  | 3 => .int
  | 4 => .boolean
  | 5 => .int
  | 6 => .int
  | 7 => .int
  | _ => .int
theorem nmX1 : ∀ a, a < 9 → ∀ b, b < 9 → a ≠ b → (TX1 a).2.1 ≠ (TX1 b).2.1 := by decide +kernel
theorem tyX1_ok : ∀ k, k < 9 → parseFieldDescriptor (TX1 k).2.2.1 = some (tyX1 k) := by decide +kernel
def RX2 : String := "SpoonCards$Memory"
def TX2 : u_T := fun k => match k with
  | 0 => ("SpoonCards$Memory", "states", "[LSpoonCards$Card;", true)
  | 1 => ("SpoonCards$Memory", "next", "I", false)
  | _ => ("SpoonCards$Memory", "count", "I", false)
def tyX2 : Nat → FieldType := fun k => match k with
  | 0 => .array (.object "SpoonCards$Card")
  | 1 => .int
  | _ => .int
theorem nmX2 : ∀ a, a < 3 → ∀ b, b < 3 → a ≠ b → (TX2 a).2.1 ≠ (TX2 b).2.1 := by decide +kernel
theorem tyX2_ok : ∀ k, k < 3 → parseFieldDescriptor (TX2 k).2.2.1 = some (tyX2 k) := by decide +kernel
def RX3 : String := "SpoonCards$Plan"
def TX3 : u_T := fun k => match k with
  | 0 => ("SpoonCards$Plan", "card", "LSpoonCards$Card;", true)
  | 1 => ("SpoonCards$Plan", "begin", "[I", true)
  | 2 => ("SpoonCards$Plan", "end", "[I", true)
  | 3 => ("SpoonCards$Plan", "way", "[I", true)
  | 4 => ("SpoonCards$Plan", "weight", "[I", true)
  | 5 => ("SpoonCards$Plan", "order", "[I", true)
  | 6 => ("SpoonCards$Plan", "begunSteps", "I", false)
  | 7 => ("SpoonCards$Plan", "stuckSteps", "I", false)
  | 8 => ("SpoonCards$Plan", "wholeMinutes", "I", false)
  | 9 => ("SpoonCards$Plan", "doneSteps", "I", false)
  | 10 => ("SpoonCards$Plan", "freeCooks", "I", false)
  | _ => ("SpoonCards$Plan", "freePieces", "[I", true)
def tyX3 : Nat → FieldType := fun k => match k with
  | 0 => .object "SpoonCards$Card"
  | 1 => .array .int
  | 2 => .array .int
  | 3 => .array .int
  | 4 => .array .int
  | 5 => .array .int
  | 6 => .int
  | 7 => .int
  | 8 => .int
  | 9 => .int
  | 10 => .int
  | _ => .array .int
theorem nmX3 : ∀ a, a < 12 → ∀ b, b < 12 → a ≠ b → (TX3 a).2.1 ≠ (TX3 b).2.1 := by decide +kernel
theorem tyX3_ok : ∀ k, k < 12 → parseFieldDescriptor (TX3 k).2.2.1 = some (tyX3 k) := by decide +kernel
def RX4 : String := "SpoonCards"
def TX4 : u_T := fun k => match k with
  | 0 => ("SpoonCards", "text", "LSpoonCards$CardText;", true)
  | 1 => ("SpoonCards", "presentPlan", "LSpoonCards$Plan;", true)
  | 2 => ("SpoonCards", "present", "LSpoonCards$Card;", true)
  | 3 => ("SpoonCards", "trialPlan", "LSpoonCards$Plan;", true)
  | 4 => ("SpoonCards", "trial", "LSpoonCards$Card;", true)
  | 5 => ("SpoonCards", "memory", "LSpoonCards$Memory;", true)
  | 6 => ("SpoonCards", "slots", "[LSpoonCards$Card;", true)
  | _ => ("SpoonCards", "saved", "[Z", true)
def tyX4 : Nat → FieldType := fun k => match k with
  | 0 => .object "SpoonCards$CardText"
  | 1 => .object "SpoonCards$Plan"
  | 2 => .object "SpoonCards$Card"
  | 3 => .object "SpoonCards$Plan"
  | 4 => .object "SpoonCards$Card"
  | 5 => .object "SpoonCards$Memory"
  | 6 => .array (.object "SpoonCards$Card")
  | _ => .array .boolean
theorem nmX4 : ∀ a, a < 8 → ∀ b, b < 8 → a ≠ b → (TX4 a).2.1 ≠ (TX4 b).2.1 := by decide +kernel
theorem tyX4_ok : ∀ k, k < 8 → parseFieldDescriptor (TX4 k).2.2.1 = some (tyX4 k) := by decide +kernel
def RX5 : String := "SpoonCardsModel"
def TX5 : u_T := fun k => match k with
  | 0 => ("SpoonCardsModel", "refusal", "I", false)
  | 1 => ("SpoonCardsModel", "now", "[I", true)
  | 2 => ("SpoonCardsModel", "trial", "[I", true)
  | 3 => ("SpoonCardsModel", "read", "[I", true)
  | 4 => ("SpoonCardsModel", "book", "[I", true)
  | 5 => ("SpoonCardsModel", "states", "I", false)
  | 6 => ("SpoonCardsModel", "kept", "[I", true)
  | 7 => ("SpoonCardsModel", "isKept", "[Z", true)
  | 8 => ("SpoonCardsModel", "begin", "[I", true)
  | 9 => ("SpoonCardsModel", "end", "[I", true)
  | 10 => ("SpoonCardsModel", "order", "[I", true)
  | 11 => ("SpoonCardsModel", "begunMany", "I", false)
  | 12 => ("SpoonCardsModel", "way", "[I", true)
  | 13 => ("SpoonCardsModel", "text", "[I", true)
  | 14 => ("SpoonCardsModel", "length", "I", false)
  | 15 => ("SpoonCardsModel", "at", "I", false)
  | 16 => ("SpoonCardsModel", "good", "Z", false)
  | _ => ("SpoonCardsModel", "leftOut", "I", false)
def tyX5 : Nat → FieldType := fun k => match k with
  | 0 => .int
  | 1 => .array .int
  | 2 => .array .int
  | 3 => .array .int
  | 4 => .array .int
  | 5 => .int
  | 6 => .array .int
  | 7 => .array .boolean
  | 8 => .array .int
  | 9 => .array .int
  | 10 => .array .int
  | 11 => .int
  | 12 => .array .int
  | 13 => .array .int
  | 14 => .int
  | 15 => .int
  | 16 => .boolean
  | _ => .int
theorem nmX5 : ∀ a, a < 18 → ∀ b, b < 18 → a ≠ b → (TX5 a).2.1 ≠ (TX5 b).2.1 := by decide +kernel
theorem tyX5_ok : ∀ k, k < 18 → parseFieldDescriptor (TX5 k).2.2.1 = some (tyX5 k) := by decide +kernel
def xcn (c : Nat) : String := match c with
  | 0 => "SpoonCards$Card"
  | 1 => "SpoonCards$CardText"
  | 2 => "SpoonCards$Memory"
  | 3 => "SpoonCards$Plan"
  | 4 => "SpoonCards"
  | 5 => "SpoonCardsModel"
  | 6 => "SpoonCardsLaw"
  | 7 => "java/lang/Integer"
  | _ => "java/lang/Math"
abbrev xMe : Type := MethodName × ByteArray × Nat × Option FieldType × List (Nat × Nat × Nat × Nat)
def xmt0 : List xMe := [(⟨"SpoonCards$Card", "<init>", "()V"⟩, prog_2_method_1_code, 1, none, []),
  (⟨"SpoonCards$Card", "makeNew", "()V"⟩, prog_2_method_2_code, 2, none, []),
  (⟨"SpoonCards$Card", "copyFrom", "(LSpoonCards$Card;)V"⟩, prog_2_method_3_code, 2, none, []),
  (⟨"SpoonCards$Card", "hasIngredient", "(I)Z"⟩, prog_2_method_4_code, 2, (some .boolean), []),
  (⟨"SpoonCards$Card", "hasStep", "(I)Z"⟩, prog_2_method_5_code, 2, (some .boolean), []),
  (⟨"SpoonCards$Card", "attempt", "(IIII)Z"⟩, prog_2_method_6_code, 5, (some .boolean), []),
  (⟨"SpoonCards$Card", "faultOf", "(IIII)I"⟩, prog_2_method_7_code, 5, (some .int), []),
  (⟨"SpoonCards$Card", "firstFault", "(ZZZ)I"⟩, prog_2_method_8_code, 3, (some .int), []),
  (⟨"SpoonCards$Card", "perform", "(IIII)I"⟩, prog_2_method_9_code, 5, (some .int), []),
  (⟨"SpoonCards$Card", "addStep", "(III)I"⟩, prog_2_method_10_code, 4, (some .int), []),
  (⟨"SpoonCards$Card", "replace", "([III)I"⟩, prog_2_method_11_code, 4, (some .int), []),
  (⟨"SpoonCards$Card", "scaled", "(II)I"⟩, prog_2_method_12_code, 4, (some .int), []),
  (⟨"SpoonCards$Card", "rounded", "(II)I"⟩, prog_2_method_13_code, 6, (some .int), []),
  (⟨"SpoonCards$Card", "leastMeasure", "()I"⟩, prog_2_method_14_code, 2, (some .int), []),
  (⟨"SpoonCards$Card", "spoonsAmong", "(III)I"⟩, prog_2_method_15_code, 7, (some .int), []),
  (⟨"SpoonCards$Card", "allSpoons", "(I)I"⟩, prog_2_method_16_code, 4, (some .int), []),
  (⟨"SpoonCards$Card", "grainsOff", "(I)I"⟩, prog_2_method_17_code, 4, (some .int), []),
  (⟨"SpoonCards$Card", "usersOf", "(I)I"⟩, prog_2_method_18_code, 4, (some .int), []),
  (⟨"SpoonCards$Card", "unusedIngredients", "()I"⟩, prog_2_method_19_code, 3, (some .int), []),
  (⟨"SpoonCards$Card", "allMinutes", "()I"⟩, prog_2_method_20_code, 3, (some .int), []),
  (⟨"SpoonCards$Card", "neededBy", "(I)I"⟩, prog_2_method_21_code, 4, (some .int), []),
  (⟨"SpoonCards$Card", "needsInAll", "(I)I"⟩, prog_2_method_22_code, 5, (some .int), []),
  (⟨"SpoonCards$CardText", "<init>", "()V"⟩, prog_3_method_1_code, 1, none, []),
  (⟨"SpoonCards$CardText", "add", "(C)I"⟩, prog_3_method_2_code, 2, (some .int), []),
  (⟨"SpoonCards$CardText", "readInto", "(LSpoonCards$Card;)I"⟩, prog_3_method_3_code, 3, (some .int), []),
  (⟨"SpoonCards$CardText", "readCommand", "(LSpoonCards$Card;)V"⟩, prog_3_method_4_code, 2, none, []),
  (⟨"SpoonCards$CardText", "keep", "(IIII)V"⟩, prog_3_method_5_code, 5, none, []),
  (⟨"SpoonCards$CardText", "readStep", "()I"⟩, prog_3_method_6_code, 1, (some .int), []),
  (⟨"SpoonCards$CardText", "readPan", "()I"⟩, prog_3_method_7_code, 2, (some .int), []),
  (⟨"SpoonCards$CardText", "readGrains", "()I"⟩, prog_3_method_8_code, 5, (some .int), []),
  (⟨"SpoonCards$CardText", "readNumber", "(II)I"⟩, prog_3_method_9_code, 6, (some .int), []),
  (⟨"SpoonCards$CardText", "readDigit", "(II)I"⟩, prog_3_method_10_code, 4, (some .int), []),
  (⟨"SpoonCards$CardText", "readLetter", "([C)I"⟩, prog_3_method_11_code, 3, (some .int), []),
  (⟨"SpoonCards$CardText", "readSign", "(C)V"⟩, prog_3_method_12_code, 2, none, []),
  (⟨"SpoonCards$CardText", "isNext", "(C)Z"⟩, prog_3_method_13_code, 2, (some .boolean), []),
  (⟨"SpoonCards$Memory", "<init>", "()V"⟩, prog_4_method_1_code, 2, none, []),
  (⟨"SpoonCards$Memory", "remember", "(LSpoonCards$Card;)V"⟩, prog_4_method_2_code, 2, none, []),
  (⟨"SpoonCards$Memory", "takeBack", "(LSpoonCards$Card;)I"⟩, prog_4_method_3_code, 2, (some .int), []),
  (⟨"SpoonCards$Memory", "forget", "()V"⟩, prog_4_method_4_code, 1, none, []),
  (⟨"SpoonCards$Plan", "<init>", "()V"⟩, prog_5_method_1_code, 1, none, []),
  (⟨"SpoonCards$Plan", "longestWay", "()I"⟩, prog_5_method_2_code, 3, (some .int), []),
  (⟨"SpoonCards$Plan", "firstUse", "(I)I"⟩, prog_5_method_3_code, 3, (some .int), []),
  (⟨"SpoonCards$Plan", "countAt", "(II)I"⟩, prog_5_method_4_code, 5, (some .int), []),
  (⟨"SpoonCards$Plan", "isCountedAt", "(III)Z"⟩, prog_5_method_5_code, 5, (some .boolean), []),
  (⟨"SpoonCards$Plan", "freeAgain", "(I)I"⟩, prog_5_method_6_code, 2, (some .int), []),
  (⟨"SpoonCards$Plan", "make", "()V"⟩, prog_5_method_7_code, 3, none, []),
  (⟨"SpoonCards$Plan", "weigh", "()V"⟩, prog_5_method_8_code, 3, none, []),
  (⟨"SpoonCards$Plan", "weightBy", "(II)I"⟩, prog_5_method_9_code, 3, (some .int), []),
  (⟨"SpoonCards$Plan", "findWays", "()V"⟩, prog_5_method_10_code, 3, none, []),
  (⟨"SpoonCards$Plan", "lengthenWays", "(I)V"⟩, prog_5_method_11_code, 3, none, [])]
def xmt1 : List xMe := [(⟨"SpoonCards$Plan", "lookAround", "(I)V"⟩, prog_5_method_12_code, 4, none, []),
  (⟨"SpoonCards$Plan", "takePiece", "(I)V"⟩, prog_5_method_13_code, 3, none, []),
  (⟨"SpoonCards$Plan", "beginSteps", "(I)V"⟩, prog_5_method_14_code, 4, none, []),
  (⟨"SpoonCards$Plan", "firstToBegin", "()I"⟩, prog_5_method_15_code, 3, (some .int), []),
  (⟨"SpoonCards$Plan", "canBegin", "(I)Z"⟩, prog_5_method_16_code, 3, (some .boolean), []),
  (⟨"SpoonCards$Plan", "nextChange", "(I)I"⟩, prog_5_method_17_code, 5, (some .int), []),
  (⟨"SpoonCards$Plan", "sooner", "(III)I"⟩, prog_5_method_18_code, 3, (some .int), []),
  (⟨"SpoonCards", "<init>", "()V"⟩, prog_1_method_1_code, 1, none, []),
  (⟨"SpoonCards", "append", "(I)I"⟩, prog_1_method_2_code, 2, (some .int), []),
  (⟨"SpoonCards", "clearText", "()I"⟩, prog_1_method_3_code, 2, (some .int), []),
  (⟨"SpoonCards", "errorPosition", "()I"⟩, prog_1_method_4_code, 1, (some .int), []),
  (⟨"SpoonCards", "load", "()I"⟩, prog_1_method_5_code, 2, (some .int), []),
  (⟨"SpoonCards", "about", "(I)I"⟩, prog_1_method_6_code, 2, (some .int), []),
  (⟨"SpoonCards", "ingredientOf", "(II)I"⟩, prog_1_method_7_code, 4, (some .int), []),
  (⟨"SpoonCards", "spoons", "(II)I"⟩, prog_1_method_8_code, 3, (some .int), []),
  (⟨"SpoonCards", "stepOf", "(II)I"⟩, prog_1_method_9_code, 3, (some .int), []),
  (⟨"SpoonCards", "begun", "(I)I"⟩, prog_1_method_10_code, 2, (some .int), []),
  (⟨"SpoonCards", "pieces", "(I)I"⟩, prog_1_method_11_code, 2, (some .int), []),
  (⟨"SpoonCards", "setting", "(I)I"⟩, prog_1_method_12_code, 2, (some .int), []),
  (⟨"SpoonCards", "during", "(II)I"⟩, prog_1_method_13_code, 3, (some .int), []),
  (⟨"SpoonCards", "ingredient", "(I)I"⟩, prog_1_method_14_code, 2, (some .int), []),
  (⟨"SpoonCards", "amount", "(II)I"⟩, prog_1_method_15_code, 3, (some .int), []),
  (⟨"SpoonCards", "servings", "(II)I"⟩, prog_1_method_16_code, 3, (some .int), []),
  (⟨"SpoonCards", "step", "(IIZ)I"⟩, prog_1_method_17_code, 4, (some .int), []),
  (⟨"SpoonCards", "minutes", "(II)I"⟩, prog_1_method_18_code, 3, (some .int), []),
  (⟨"SpoonCards", "use", "(IIZ)I"⟩, prog_1_method_19_code, 4, (some .int), []),
  (⟨"SpoonCards", "need", "(IIZ)I"⟩, prog_1_method_20_code, 4, (some .int), []),
  (⟨"SpoonCards", "pans", "(II)I"⟩, prog_1_method_21_code, 3, (some .int), []),
  (⟨"SpoonCards", "set", "(II)I"⟩, prog_1_method_22_code, 3, (some .int), []),
  (⟨"SpoonCards", "undo", "()I"⟩, prog_1_method_23_code, 1, (some .int), []),
  (⟨"SpoonCards", "ifPan", "(II)I"⟩, prog_1_method_24_code, 3, (some .int), []),
  (⟨"SpoonCards", "ifServed", "(II)I"⟩, prog_1_method_25_code, 3, (some .int), []),
  (⟨"SpoonCards", "slack", "(I)I"⟩, prog_1_method_26_code, 3, (some .int), []),
  (⟨"SpoonCards", "bestRule", "()I"⟩, prog_1_method_27_code, 8, (some .int), []),
  (⟨"SpoonCards", "bestServings", "(II)I"⟩, prog_1_method_28_code, 7, (some .int), []),
  (⟨"SpoonCards", "runScript", "(IJ)I"⟩, prog_1_method_29_code, 11, (some .int), []),
  (⟨"SpoonCards", "simulate", "(JI)I"⟩, prog_1_method_30_code, 8, (some .int), []),
  (⟨"SpoonCards", "save", "(I)I"⟩, prog_1_method_31_code, 2, (some .int), []),
  (⟨"SpoonCards", "restore", "(I)I"⟩, prog_1_method_32_code, 2, (some .int), []),
  (⟨"SpoonCards", "act", "(IIII)I"⟩, prog_1_method_33_code, 5, (some .int), []),
  (⟨"SpoonCards", "refuse", "(I)V"⟩, prog_1_method_34_code, 1, none, []),
  (⟨"SpoonCards", "requirePlace", "(Z)V"⟩, prog_1_method_35_code, 1, none, []),
  (⟨"SpoonCards", "requireArgument", "(Z)V"⟩, prog_1_method_36_code, 1, none, []),
  (⟨"SpoonCards", "requireState", "(Z)V"⟩, prog_1_method_37_code, 1, none, []),
  (⟨"SpoonCards", "within", "(III)Z"⟩, prog_1_method_38_code, 3, (some .boolean), []),
  (⟨"SpoonCards", "isKind", "(I)Z"⟩, prog_1_method_39_code, 1, (some .boolean), []),
  (⟨"SpoonCards", "isSetting", "(I)Z"⟩, prog_1_method_40_code, 1, (some .boolean), []),
  (⟨"SpoonCards", "isSlot", "(I)Z"⟩, prog_1_method_41_code, 1, (some .boolean), []),
  (⟨"SpoonCards", "bit", "(Z)I"⟩, prog_1_method_42_code, 1, (some .int), []),
  (⟨"SpoonCards", "contains", "(II)Z"⟩, prog_1_method_43_code, 2, (some .boolean), [])]
def xmt2 : List xMe := [(⟨"SpoonCards", "with", "(IIZ)I"⟩, prog_1_method_44_code, 3, (some .int), []),
  (⟨"SpoonCards", "succeeds", "(I)Z"⟩, prog_1_method_45_code, 5, (some .boolean), []),
  (⟨"SpoonCards", "beginsBy", "(II)Z"⟩, prog_1_method_46_code, 3, (some .boolean), []),
  (⟨"SpoonCards", "takesAtMost", "(II)Z"⟩, prog_1_method_47_code, 3, (some .boolean), []),
  (⟨"SpoonCards", "takeTurn", "(II)V"⟩, prog_1_method_48_code, 3, none, []),
  (⟨"SpoonCardsModel", "<init>", "()V"⟩, prog_7_method_1_code, 1, none, []),
  (⟨"SpoonCardsModel", "thrown", "()I"⟩, prog_7_method_2_code, 1, (some .int), []),
  (⟨"SpoonCardsModel", "refused", "(I)Z"⟩, prog_7_method_3_code, 2, (some .boolean), []),
  (⟨"SpoonCardsModel", "in", "(JJJ)Z"⟩, prog_7_method_4_code, 6, (some .boolean), []),
  (⟨"SpoonCardsModel", "tens", "(I)J"⟩, prog_7_method_5_code, 4, (some .long), []),
  (⟨"SpoonCardsModel", "has", "(II)Z"⟩, prog_7_method_6_code, 2, (some .boolean), []),
  (⟨"SpoonCardsModel", "bits", "(II)I"⟩, prog_7_method_7_code, 4, (some .int), []),
  (⟨"SpoonCardsModel", "fresh", "([I)V"⟩, prog_7_method_8_code, 2, none, []),
  (⟨"SpoonCardsModel", "copy", "([I[I)V"⟩, prog_7_method_9_code, 3, none, []),
  (⟨"SpoonCardsModel", "isIngredient", "([II)Z"⟩, prog_7_method_10_code, 2, (some .boolean), []),
  (⟨"SpoonCardsModel", "isStep", "([II)Z"⟩, prog_7_method_11_code, 2, (some .boolean), []),
  (⟨"SpoonCardsModel", "isKind", "(I)Z"⟩, prog_7_method_12_code, 1, (some .boolean), []),
  (⟨"SpoonCardsModel", "isGrains", "(I)Z"⟩, prog_7_method_13_code, 1, (some .boolean), []),
  (⟨"SpoonCardsModel", "isMinutes", "(I)Z"⟩, prog_7_method_14_code, 1, (some .boolean), []),
  (⟨"SpoonCardsModel", "isServings", "(I)Z"⟩, prog_7_method_15_code, 1, (some .boolean), []),
  (⟨"SpoonCardsModel", "isPieces", "(I)Z"⟩, prog_7_method_16_code, 1, (some .boolean), []),
  (⟨"SpoonCardsModel", "isSetting", "(II)Z"⟩, prog_7_method_17_code, 2, (some .boolean), []),
  (⟨"SpoonCardsModel", "grains", "(I)I"⟩, prog_7_method_18_code, 1, (some .int), []),
  (⟨"SpoonCardsModel", "scaled", "([II)I"⟩, prog_7_method_19_code, 3, (some .int), []),
  (⟨"SpoonCardsModel", "least", "([I)I"⟩, prog_7_method_20_code, 2, (some .int), []),
  (⟨"SpoonCardsModel", "rounded", "([II)I"⟩, prog_7_method_21_code, 6, (some .int), []),
  (⟨"SpoonCardsModel", "spoon", "([III)I"⟩, prog_7_method_22_code, 5, (some .int), []),
  (⟨"SpoonCardsModel", "spoonsOf", "([II)I"⟩, prog_7_method_23_code, 4, (some .int), []),
  (⟨"SpoonCardsModel", "allSpoons", "([I)I"⟩, prog_7_method_24_code, 3, (some .int), []),
  (⟨"SpoonCardsModel", "off", "([I)I"⟩, prog_7_method_25_code, 4, (some .int), []),
  (⟨"SpoonCardsModel", "needers", "([II)I"⟩, prog_7_method_26_code, 4, (some .int), []),
  (⟨"SpoonCardsModel", "allNeeds", "([II)I"⟩, prog_7_method_27_code, 5, (some .int), []),
  (⟨"SpoonCardsModel", "layWays", "([I)V"⟩, prog_7_method_28_code, 6, none, []),
  (⟨"SpoonCardsModel", "longest", "([I)I"⟩, prog_7_method_29_code, 4, (some .int), []),
  (⟨"SpoonCardsModel", "isOn", "(II)Z"⟩, prog_7_method_30_code, 3, (some .boolean), []),
  (⟨"SpoonCardsModel", "busy", "([II)I"⟩, prog_7_method_31_code, 5, (some .int), []),
  (⟨"SpoonCardsModel", "inUse", "([III)I"⟩, prog_7_method_32_code, 6, (some .int), []),
  (⟨"SpoonCardsModel", "washed", "([III)I"⟩, prog_7_method_33_code, 7, (some .int), []),
  (⟨"SpoonCardsModel", "done", "([II)I"⟩, prog_7_method_34_code, 5, (some .int), []),
  (⟨"SpoonCardsModel", "canBegin", "([III)Z"⟩, prog_7_method_35_code, 6, (some .boolean), []),
  (⟨"SpoonCardsModel", "rank", "([II)I"⟩, prog_7_method_36_code, 3, (some .int), []),
  (⟨"SpoonCardsModel", "next", "([II)I"⟩, prog_7_method_37_code, 5, (some .int), []),
  (⟨"SpoonCardsModel", "later", "([II)I"⟩, prog_7_method_38_code, 7, (some .int), []),
  (⟨"SpoonCardsModel", "plan", "([I)V"⟩, prog_7_method_39_code, 4, none, []),
  (⟨"SpoonCardsModel", "whole", "([I)I"⟩, prog_7_method_40_code, 4, (some .int), []),
  (⟨"SpoonCardsModel", "stuck", "([I)I"⟩, prog_7_method_41_code, 2, (some .int), []),
  (⟨"SpoonCardsModel", "put", "([III)I"⟩, prog_7_method_42_code, 4, (some .int), []),
  (⟨"SpoonCardsModel", "goIngredient", "([II)I"⟩, prog_7_method_43_code, 2, (some .int), []),
  (⟨"SpoonCardsModel", "goServings", "([III)I"⟩, prog_7_method_44_code, 3, (some .int), []),
  (⟨"SpoonCardsModel", "isLaid", "(II)Z"⟩, prog_7_method_45_code, 2, (some .boolean), [])]
def xmt3 : List xMe := [(⟨"SpoonCardsModel", "goStep", "([IIIZ)I"⟩, prog_7_method_46_code, 5, (some .int), []),
  (⟨"SpoonCardsModel", "goUse", "([IIIZ)I"⟩, prog_7_method_47_code, 5, (some .int), []),
  (⟨"SpoonCardsModel", "canNeed", "([IIIZ)Z"⟩, prog_7_method_48_code, 4, (some .boolean), []),
  (⟨"SpoonCardsModel", "goNeed", "([IIIZ)I"⟩, prog_7_method_49_code, 5, (some .int), []),
  (⟨"SpoonCardsModel", "remember", "()V"⟩, prog_7_method_50_code, 2, none, []),
  (⟨"SpoonCardsModel", "append", "(I)I"⟩, prog_7_method_51_code, 2, (some .int), []),
  (⟨"SpoonCardsModel", "clearText", "()I"⟩, prog_7_method_52_code, 2, (some .int), []),
  (⟨"SpoonCardsModel", "here", "()I"⟩, prog_7_method_53_code, 1, (some .int), []),
  (⟨"SpoonCardsModel", "take", "(Z)V"⟩, prog_7_method_54_code, 2, none, []),
  (⟨"SpoonCardsModel", "digit", "(II)I"⟩, prog_7_method_55_code, 4, (some .int), []),
  (⟨"SpoonCardsModel", "two", "(II)I"⟩, prog_7_method_56_code, 4, (some .int), []),
  (⟨"SpoonCardsModel", "goes", "(Z)Z"⟩, prog_7_method_57_code, 2, (some .boolean), []),
  (⟨"SpoonCardsModel", "measureOf", "(I)I"⟩, prog_7_method_58_code, 1, (some .int), []),
  (⟨"SpoonCardsModel", "readIngredient", "()V"⟩, prog_7_method_59_code, 6, none, []),
  (⟨"SpoonCardsModel", "readStep", "()V"⟩, prog_7_method_60_code, 4, none, []),
  (⟨"SpoonCardsModel", "readUse", "()V"⟩, prog_7_method_61_code, 3, none, []),
  (⟨"SpoonCardsModel", "readNeed", "()V"⟩, prog_7_method_62_code, 4, none, []),
  (⟨"SpoonCardsModel", "readNumber", "(I)V"⟩, prog_7_method_63_code, 4, none, []),
  (⟨"SpoonCardsModel", "readCommand", "()V"⟩, prog_7_method_64_code, 2, none, []),
  (⟨"SpoonCardsModel", "readAll", "()I"⟩, prog_7_method_65_code, 1, (some .int), []),
  (⟨"SpoonCardsModel", "errorPosition", "()I"⟩, prog_7_method_66_code, 1, (some .int), []),
  (⟨"SpoonCardsModel", "load", "()I"⟩, prog_7_method_67_code, 1, (some .int), []),
  (⟨"SpoonCardsModel", "unused", "()I"⟩, prog_7_method_68_code, 3, (some .int), []),
  (⟨"SpoonCardsModel", "allMinutes", "()I"⟩, prog_7_method_69_code, 3, (some .int), []),
  (⟨"SpoonCardsModel", "about", "(I)I"⟩, prog_7_method_70_code, 2, (some .int), []),
  (⟨"SpoonCardsModel", "users", "(I)I"⟩, prog_7_method_71_code, 4, (some .int), []),
  (⟨"SpoonCardsModel", "firstUse", "(I)I"⟩, prog_7_method_72_code, 5, (some .int), []),
  (⟨"SpoonCardsModel", "ingredientOf", "(II)I"⟩, prog_7_method_73_code, 3, (some .int), []),
  (⟨"SpoonCardsModel", "spoons", "(II)I"⟩, prog_7_method_74_code, 3, (some .int), []),
  (⟨"SpoonCardsModel", "stepOf", "(II)I"⟩, prog_7_method_75_code, 3, (some .int), []),
  (⟨"SpoonCardsModel", "begun", "(I)I"⟩, prog_7_method_76_code, 2, (some .int), []),
  (⟨"SpoonCardsModel", "pieces", "(I)I"⟩, prog_7_method_77_code, 2, (some .int), []),
  (⟨"SpoonCardsModel", "setting", "(I)I"⟩, prog_7_method_78_code, 2, (some .int), []),
  (⟨"SpoonCardsModel", "during", "(II)I"⟩, prog_7_method_79_code, 3, (some .int), []),
  (⟨"SpoonCardsModel", "ingredient", "(I)I"⟩, prog_7_method_80_code, 2, (some .int), []),
  (⟨"SpoonCardsModel", "amount", "(II)I"⟩, prog_7_method_81_code, 3, (some .int), []),
  (⟨"SpoonCardsModel", "servings", "(II)I"⟩, prog_7_method_82_code, 3, (some .int), []),
  (⟨"SpoonCardsModel", "step", "(IIZ)I"⟩, prog_7_method_83_code, 4, (some .int), []),
  (⟨"SpoonCardsModel", "minutes", "(II)I"⟩, prog_7_method_84_code, 3, (some .int), []),
  (⟨"SpoonCardsModel", "use", "(IIZ)I"⟩, prog_7_method_85_code, 4, (some .int), []),
  (⟨"SpoonCardsModel", "need", "(IIZ)I"⟩, prog_7_method_86_code, 5, (some .int), []),
  (⟨"SpoonCardsModel", "pans", "(II)I"⟩, prog_7_method_87_code, 3, (some .int), []),
  (⟨"SpoonCardsModel", "set", "(II)I"⟩, prog_7_method_88_code, 3, (some .int), []),
  (⟨"SpoonCardsModel", "undo", "()I"⟩, prog_7_method_89_code, 2, (some .int), []),
  (⟨"SpoonCardsModel", "ifPan", "(II)I"⟩, prog_7_method_90_code, 3, (some .int), []),
  (⟨"SpoonCardsModel", "served", "(II)I"⟩, prog_7_method_91_code, 3, (some .int), []),
  (⟨"SpoonCardsModel", "ifServed", "(II)I"⟩, prog_7_method_92_code, 3, (some .int), []),
  (⟨"SpoonCardsModel", "slack", "(I)I"⟩, prog_7_method_93_code, 5, (some .int), []),
  (⟨"SpoonCardsModel", "bestRule", "()I"⟩, prog_7_method_94_code, 8, (some .int), []),
  (⟨"SpoonCardsModel", "bestServings", "(II)I"⟩, prog_7_method_95_code, 8, (some .int), [])]
def xmt4 : List xMe := [(⟨"SpoonCardsModel", "runServings", "(II)Z"⟩, prog_7_method_96_code, 3, (some .boolean), []),
  (⟨"SpoonCardsModel", "runMinutes", "(II)Z"⟩, prog_7_method_97_code, 3, (some .boolean), []),
  (⟨"SpoonCardsModel", "runNeed", "(IIZ)Z"⟩, prog_7_method_98_code, 5, (some .boolean), []),
  (⟨"SpoonCardsModel", "runPans", "(II)Z"⟩, prog_7_method_99_code, 3, (some .boolean), []),
  (⟨"SpoonCardsModel", "runSet", "(II)Z"⟩, prog_7_method_100_code, 3, (some .boolean), []),
  (⟨"SpoonCardsModel", "beginsBy", "(II)Z"⟩, prog_7_method_101_code, 3, (some .boolean), []),
  (⟨"SpoonCardsModel", "command", "(I)Z"⟩, prog_7_method_102_code, 9, (some .boolean), []),
  (⟨"SpoonCardsModel", "runScript", "(IJ)I"⟩, prog_7_method_103_code, 5, (some .int), []),
  (⟨"SpoonCardsModel", "stir", "(I)V"⟩, prog_7_method_104_code, 5, none, []),
  (⟨"SpoonCardsModel", "simulate", "(JI)I"⟩, prog_7_method_105_code, 7, (some .int), []),
  (⟨"SpoonCardsModel", "save", "(I)I"⟩, prog_7_method_106_code, 3, (some .int), []),
  (⟨"SpoonCardsModel", "restore", "(I)I"⟩, prog_7_method_107_code, 3, (some .int), []),
  (⟨"SpoonCardsLaw", "append", "(LSpoonCards;I[J)I"⟩, method_3_code, 4, (some .int), [(0, 9, 12, 13), (0, 9, 15, 15)]),
  (⟨"SpoonCardsLaw", "load", "(LSpoonCards;[J)I"⟩, method_4_code, 3, (some .int), [(0, 8, 11, 15)]),
  (⟨"SpoonCardsLaw", "about", "(LSpoonCards;I[J)I"⟩, method_5_code, 4, (some .int), [(0, 9, 12, 13)]),
  (⟨"SpoonCardsLaw", "ingredientOf", "(LSpoonCards;II[J)I"⟩, method_6_code, 5, (some .int), [(0, 10, 13, 28), (0, 10, 17, 13)]),
  (⟨"SpoonCardsLaw", "spoons", "(LSpoonCards;II[J)I"⟩, method_7_code, 5, (some .int), [(0, 10, 13, 28), (0, 10, 17, 13)]),
  (⟨"SpoonCardsLaw", "stepOf", "(LSpoonCards;II[J)I"⟩, method_8_code, 5, (some .int), [(0, 10, 13, 28), (0, 10, 17, 13)]),
  (⟨"SpoonCardsLaw", "begun", "(LSpoonCards;I[J)I"⟩, method_9_code, 4, (some .int), [(0, 9, 12, 28)]),
  (⟨"SpoonCardsLaw", "pieces", "(LSpoonCards;I[J)I"⟩, method_10_code, 4, (some .int), [(0, 9, 12, 28)]),
  (⟨"SpoonCardsLaw", "setting", "(LSpoonCards;I[J)I"⟩, method_11_code, 4, (some .int), [(0, 9, 12, 13)]),
  (⟨"SpoonCardsLaw", "during", "(LSpoonCards;II[J)I"⟩, method_12_code, 5, (some .int), [(0, 10, 13, 13)]),
  (⟨"SpoonCardsLaw", "ingredient", "(LSpoonCards;I[J)I"⟩, method_13_code, 4, (some .int), [(0, 9, 12, 13), (0, 9, 15, 15)]),
  (⟨"SpoonCardsLaw", "amount", "(LSpoonCards;II[J)I"⟩, method_14_code, 5, (some .int), [(0, 10, 13, 28), (0, 10, 17, 13)]),
  (⟨"SpoonCardsLaw", "servings", "(LSpoonCards;II[J)I"⟩, method_15_code, 5, (some .int), [(0, 10, 13, 13)]),
  (⟨"SpoonCardsLaw", "step", "(LSpoonCards;IIZ[J)I"⟩, method_16_code, 6, (some .int), [(0, 12, 15, 13), (0, 12, 19, 15)]),
  (⟨"SpoonCardsLaw", "minutes", "(LSpoonCards;II[J)I"⟩, method_17_code, 5, (some .int), [(0, 10, 13, 28), (0, 10, 17, 13)]),
  (⟨"SpoonCardsLaw", "use", "(LSpoonCards;IIZ[J)I"⟩, method_18_code, 6, (some .int), [(0, 12, 15, 28)]),
  (⟨"SpoonCardsLaw", "need", "(LSpoonCards;IIZ[J)I"⟩, method_19_code, 6, (some .int), [(0, 12, 15, 28), (0, 12, 19, 15)]),
  (⟨"SpoonCardsLaw", "pans", "(LSpoonCards;II[J)I"⟩, method_20_code, 5, (some .int), [(0, 10, 13, 28), (0, 10, 17, 13)]),
  (⟨"SpoonCardsLaw", "set", "(LSpoonCards;II[J)I"⟩, method_21_code, 5, (some .int), [(0, 10, 13, 13)]),
  (⟨"SpoonCardsLaw", "undo", "(LSpoonCards;[J)I"⟩, method_22_code, 3, (some .int), [(0, 8, 11, 15)]),
  (⟨"SpoonCardsLaw", "ifPan", "(LSpoonCards;II[J)I"⟩, method_23_code, 5, (some .int), [(0, 10, 13, 28), (0, 10, 17, 13)]),
  (⟨"SpoonCardsLaw", "ifServed", "(LSpoonCards;II[J)I"⟩, method_24_code, 5, (some .int), [(0, 10, 13, 13)]),
  (⟨"SpoonCardsLaw", "slack", "(LSpoonCards;I[J)I"⟩, method_25_code, 4, (some .int), [(0, 9, 12, 28)]),
  (⟨"SpoonCardsLaw", "bestServings", "(LSpoonCards;II[J)I"⟩, method_26_code, 5, (some .int), [(0, 10, 13, 13)]),
  (⟨"SpoonCardsLaw", "runScript", "(LSpoonCards;IJ[J)I"⟩, method_27_code, 6, (some .int), [(0, 11, 14, 13)]),
  (⟨"SpoonCardsLaw", "simulate", "(LSpoonCards;JI[J)I"⟩, method_28_code, 6, (some .int), [(0, 11, 14, 13)]),
  (⟨"SpoonCardsLaw", "save", "(LSpoonCards;I[J)I"⟩, method_29_code, 4, (some .int), [(0, 9, 12, 28)]),
  (⟨"SpoonCardsLaw", "restore", "(LSpoonCards;I[J)I"⟩, method_30_code, 4, (some .int), [(0, 9, 12, 28), (0, 9, 15, 15)]),
  (⟨"SpoonCardsLaw", "law", "([I)Z"⟩, code, 7, (some .boolean), []),
  (⟨"java/lang/Integer", "bitCount", "(I)I"⟩, prog_12_method_49_code, 1, (some .int), [])]
def xm0 : xMe := (⟨"", "", ""⟩, ⟨#[]⟩, 0, none, [])
def xme (k : Nat) : xMe :=
  if k < 50 then (xmt0[k - 0]?).getD xm0 else if k < 100 then (xmt1[k - 50]?).getD xm0 else if k < 150 then (xmt2[k - 100]?).getD xm0 else if k < 200 then (xmt3[k - 150]?).getD xm0 else (xmt4[k - 200]?).getD xm0
def xmn (k : Nat) : MethodName := (xme k).1
def xmb (k : Nat) : ByteArray := (xme k).2.1
def xml (k : Nat) : Nat := (xme k).2.2.1
def xmr (k : Nat) : Option FieldType := (xme k).2.2.2.1
def xmh (k : Nat) : List (Nat × Nat × Nat × Nat) := (xme k).2.2.2.2
abbrev xNu : Type := Nat × Nat × Nat × Nat × Nat × Nat × Nat
def xnt0 : List xNu := [(0, 0, 1, 2, 81, 8, 91), (0, 0, 1, 1, 60, 0, 0), (0, 0, 2, 1, 60, 0, 0), (0, 0, 2, 1, 22, 0, 0), (0, 0, 2, 1, 22, 0, 0), (0, 0, 5, 3, 69, 0, 0), (0, 0, 5, 2, 45, 0, 0), (0, 0, 3, 0, 0, 0, 0), (0, 0, 5, 1, 23, 0, 0), (0, 0, 4, 0, 0, 0, 0), (0, 0, 3, 0, 0, 0, 0), (0, 0, 3, 0, 0, 0, 0), (0, 0, 3, 2, 42, 0, 0), (0, 0, 1, 1, 21, 0, 0), (0, 0, 4, 3, 67, 0, 0), (0, 0, 2, 4, 93, 0, 0), (0, 0, 2, 3, 67, 0, 0), (0, 0, 2, 1, 21, 0, 0), (0, 0, 1, 2, 44, 0, 0), (0, 0, 1, 0, 0, 0, 0), (0, 0, 2, 1, 22, 0, 0), (0, 0, 2, 1, 21, 0, 0), (0, 1, 1, 1, 20, 1, 120), (0, 1, 2, 0, 0, 0, 0), (0, 1, 2, 5, 114, 0, 0), (0, 1, 2, 4, 93, 0, 0), (0, 1, 5, 0, 0, 0, 0), (0, 1, 1, 3, 69, 0, 0), (0, 1, 1, 2, 44, 0, 0), (0, 1, 1, 3, 69, 0, 0), (0, 1, 3, 2, 44, 0, 0), (0, 1, 3, 1, 21, 0, 0), (0, 1, 2, 1, 21, 0, 0), (0, 1, 2, 1, 21, 0, 0), (0, 1, 2, 0, 0, 0, 0), (0, 2, 1, 3, 101, 127, 1456), (0, 2, 2, 2, 81, 0, 0), (0, 2, 2, 2, 81, 0, 0), (0, 2, 1, 0, 0, 0, 0), (0, 3, 1, 3, 101, 15, 177), (0, 3, 1, 3, 82, 0, 0), (0, 3, 2, 1, 21, 0, 0), (0, 3, 3, 2, 45, 0, 0), (0, 3, 4, 1, 21, 0, 0), (0, 3, 2, 0, 0, 0, 0), (0, 3, 1, 5, 109, 0, 0), (0, 3, 1, 3, 82, 0, 0), (0, 3, 3, 2, 45, 0, 0), (0, 3, 1, 2, 60, 0, 0), (0, 3, 2, 1, 21, 0, 0)]
def xnt1 : List xNu := [(0, 3, 2, 3, 64, 0, 0), (0, 3, 2, 2, 42, 0, 0), (0, 3, 2, 4, 86, 0, 0), (0, 3, 1, 3, 64, 0, 0), (0, 3, 2, 2, 42, 0, 0), (0, 3, 2, 1, 22, 0, 0), (0, 3, 3, 0, 0, 0, 0), (0, 4, 1, 4, 122, 182, 2176), (1, 4, 2, 7, 110, 2, 12), (0, 4, 1, 0, 0, 0, 0), (0, 4, 1, 6, 136, 0, 0), (1, 4, 1, 7, 136, 1, 6), (1, 4, 2, 7, 131, 1, 6), (1, 4, 3, 7, 131, 2, 12), (1, 4, 3, 7, 110, 2, 12), (1, 4, 3, 7, 131, 2, 12), (1, 4, 2, 7, 131, 1, 6), (1, 4, 2, 7, 110, 1, 6), (1, 4, 2, 7, 110, 1, 6), (1, 4, 3, 7, 131, 1, 6), (1, 4, 2, 9, 154, 3, 18), (1, 4, 3, 9, 154, 3, 18), (1, 4, 3, 9, 154, 3, 18), (1, 4, 4, 9, 154, 3, 18), (1, 4, 3, 9, 154, 3, 18), (1, 4, 4, 9, 154, 3, 18), (1, 4, 4, 9, 154, 3, 18), (1, 4, 3, 9, 154, 3, 18), (1, 4, 3, 9, 154, 3, 18), (1, 4, 1, 7, 110, 1, 6), (1, 4, 3, 7, 131, 2, 12), (1, 4, 3, 7, 116, 1, 6), (1, 4, 2, 7, 131, 1, 6), (0, 4, 1, 6, 131, 0, 0), (1, 4, 3, 7, 110, 1, 6), (1, 4, 3, 7, 139, 2, 12), (1, 4, 3, 7, 131, 1, 6), (1, 4, 2, 7, 110, 1, 6), (1, 4, 2, 7, 110, 2, 12), (1, 4, 5, 8, 130, 3, 18), (1, 4, 1, 7, 110, 3, 18), (1, 4, 1, 6, 90, 1, 6), (1, 4, 1, 6, 90, 1, 6), (1, 4, 1, 6, 90, 1, 6), (0, 4, 3, 0, 0, 0, 0), (0, 4, 1, 1, 22, 0, 0), (0, 4, 1, 1, 22, 0, 0), (0, 4, 1, 1, 22, 0, 0), (0, 4, 1, 0, 0, 0, 0), (0, 4, 2, 0, 0, 0, 0)]
def xnt2 : List xNu := [(0, 4, 3, 0, 0, 0, 0), (0, 4, 2, 5, 115, 0, 0), (0, 4, 3, 2, 43, 0, 0), (0, 4, 3, 4, 93, 0, 0), (0, 4, 3, 4, 93, 0, 0), (0, 5, 1, 1, 21, 11, 1983), (0, 5, 1, 0, 0, 0, 0), (0, 5, 2, 0, 0, 0, 0), (0, 5, 3, 0, 0, 0, 0), (0, 5, 1, 0, 0, 0, 0), (0, 5, 2, 0, 0, 0, 0), (0, 5, 2, 1, 21, 0, 0), (0, 5, 1, 0, 0, 0, 0), (0, 5, 2, 0, 0, 0, 0), (0, 5, 2, 1, 25, 0, 0), (0, 5, 2, 1, 25, 0, 0), (0, 5, 1, 1, 25, 0, 0), (0, 5, 1, 1, 25, 0, 0), (0, 5, 1, 1, 25, 0, 0), (0, 5, 1, 1, 25, 0, 0), (0, 5, 1, 1, 25, 0, 0), (0, 5, 2, 1, 25, 0, 0), (0, 5, 1, 0, 0, 0, 0), (0, 5, 2, 0, 0, 0, 0), (0, 5, 1, 1, 21, 0, 0), (0, 5, 2, 2, 42, 0, 0), (0, 5, 3, 3, 67, 0, 0), (0, 5, 2, 4, 91, 0, 0), (0, 5, 1, 5, 114, 0, 0), (0, 5, 1, 3, 67, 0, 0), (0, 5, 2, 1, 21, 0, 0), (0, 5, 2, 1, 21, 0, 0), (0, 5, 2, 1, 21, 0, 0), (0, 5, 2, 2, 46, 0, 0), (0, 5, 3, 0, 0, 0, 0), (0, 5, 3, 1, 22, 0, 0), (0, 5, 4, 1, 22, 0, 0), (0, 5, 4, 0, 0, 0, 0), (0, 5, 3, 0, 0, 0, 0), (0, 5, 4, 2, 47, 0, 0), (0, 5, 3, 2, 44, 0, 0), (0, 5, 3, 3, 72, 0, 0), (0, 5, 3, 0, 0, 0, 0), (0, 5, 2, 4, 96, 0, 0), (0, 5, 2, 5, 119, 0, 0), (0, 5, 2, 5, 119, 0, 0), (0, 5, 3, 0, 0, 0, 0), (0, 5, 2, 0, 0, 0, 0), (0, 5, 3, 6, 136, 0, 0), (0, 5, 2, 2, 45, 0, 0)]
def xnt3 : List xNu := [(0, 5, 4, 0, 0, 0, 0), (0, 5, 4, 2, 44, 0, 0), (0, 5, 4, 2, 45, 0, 0), (0, 5, 4, 2, 44, 0, 0), (0, 5, 1, 0, 0, 0, 0), (0, 5, 2, 1, 25, 0, 0), (0, 5, 1, 0, 0, 0, 0), (0, 5, 1, 0, 0, 0, 0), (0, 5, 2, 0, 0, 0, 0), (0, 5, 3, 1, 25, 0, 0), (0, 5, 3, 2, 48, 0, 0), (0, 5, 2, 0, 0, 0, 0), (0, 5, 1, 0, 0, 0, 0), (0, 5, 1, 3, 71, 0, 0), (0, 5, 1, 3, 71, 0, 0), (0, 5, 1, 3, 71, 0, 0), (0, 5, 1, 3, 71, 0, 0), (0, 5, 2, 3, 71, 0, 0), (0, 5, 1, 4, 96, 0, 0), (0, 5, 1, 5, 117, 0, 0), (0, 5, 1, 6, 137, 0, 0), (0, 5, 1, 6, 137, 0, 0), (0, 5, 1, 2, 44, 0, 0), (0, 5, 1, 0, 0, 0, 0), (0, 5, 2, 6, 142, 0, 0), (0, 5, 2, 1, 21, 0, 0), (0, 5, 2, 5, 119, 0, 0), (0, 5, 3, 6, 143, 0, 0), (0, 5, 3, 4, 91, 0, 0), (0, 5, 3, 5, 119, 0, 0), (0, 5, 2, 5, 119, 0, 0), (0, 5, 2, 2, 45, 0, 0), (0, 5, 2, 1, 25, 0, 0), (0, 5, 3, 5, 119, 0, 0), (0, 5, 2, 2, 45, 0, 0), (0, 5, 3, 2, 46, 0, 0), (0, 5, 3, 7, 158, 0, 0), (0, 5, 4, 3, 66, 0, 0), (0, 5, 3, 2, 46, 0, 0), (0, 5, 4, 3, 68, 0, 0), (0, 5, 4, 3, 68, 0, 0), (0, 5, 3, 2, 45, 0, 0), (0, 5, 3, 2, 46, 0, 0), (0, 5, 1, 1, 21, 0, 0), (0, 5, 3, 6, 142, 0, 0), (0, 5, 3, 6, 136, 0, 0), (0, 5, 3, 7, 158, 0, 0), (0, 5, 2, 6, 142, 0, 0), (0, 5, 1, 6, 142, 0, 0), (0, 5, 3, 7, 158, 0, 0)]
def xnt4 : List xNu := [(0, 5, 3, 7, 158, 0, 0), (0, 5, 3, 2, 46, 0, 0), (0, 5, 4, 3, 68, 0, 0), (0, 5, 3, 2, 45, 0, 0), (0, 5, 3, 2, 46, 0, 0), (0, 5, 3, 5, 119, 0, 0), (0, 5, 2, 8, 180, 0, 0), (0, 5, 3, 9, 208, 0, 0), (0, 5, 2, 8, 180, 0, 0), (0, 5, 3, 9, 204, 0, 0), (0, 5, 2, 1, 25, 0, 0), (0, 5, 2, 1, 25, 0, 0), (2, 6, 3, 8, 131, 2, 12), (2, 6, 2, 8, 157, 1, 6), (2, 6, 3, 8, 152, 1, 6), (2, 6, 4, 8, 154, 2, 12), (2, 6, 4, 8, 132, 2, 12), (2, 6, 4, 8, 153, 2, 12), (2, 6, 3, 8, 152, 1, 6), (2, 6, 3, 8, 131, 1, 6), (2, 6, 3, 8, 131, 1, 6), (2, 6, 4, 8, 153, 1, 6), (2, 6, 3, 10, 175, 3, 18), (2, 6, 4, 10, 176, 3, 18), (2, 6, 4, 10, 176, 3, 18), (2, 6, 5, 10, 177, 3, 18), (2, 6, 4, 10, 176, 3, 18), (2, 6, 5, 10, 177, 3, 18), (2, 6, 5, 10, 177, 3, 18), (2, 6, 4, 10, 176, 3, 18), (2, 6, 4, 10, 176, 3, 18), (2, 6, 2, 8, 130, 1, 6), (2, 6, 4, 8, 153, 2, 12), (2, 6, 4, 8, 138, 1, 6), (2, 6, 3, 8, 153, 1, 6), (2, 6, 4, 8, 136, 1, 6), (2, 6, 4, 8, 169, 2, 12), (2, 6, 4, 8, 158, 1, 6), (2, 6, 3, 8, 131, 1, 6), (2, 6, 3, 8, 131, 2, 12), (3, 6, 1, 13, 474, 601024, 7293034), (0, 7, 1, 0, 0, 0, 0)]
def xnu (k : Nat) : xNu :=
  if k < 50 then (xnt0[k - 0]?).getD (9, 0, 0, 0, 0, 0, 0) else if k < 100 then (xnt1[k - 50]?).getD (9, 0, 0, 0, 0, 0, 0) else if k < 150 then (xnt2[k - 100]?).getD (9, 0, 0, 0, 0, 0, 0) else if k < 200 then (xnt3[k - 150]?).getD (9, 0, 0, 0, 0, 0, 0) else (xnt4[k - 200]?).getD (9, 0, 0, 0, 0, 0, 0)
def xkd (k : Nat) : Nat := (xnu k).1
def xmk (k : Nat) : Nat := (xnu k).2.1
def xna (k : Nat) : Nat := (xnu k).2.2.1
def xmf (k : Nat) : Nat := (xnu k).2.2.2.1
def xmo (k : Nat) : Nat := (xnu k).2.2.2.2.1
def xmc (k : Nat) : Nat := (xnu k).2.2.2.2.2.1
def xms (k : Nat) : Nat := (xnu k).2.2.2.2.2.2
def xN : Nat := 242
def xwp : List Nat := [141, 146, 432, 389, 385, 372, 376, 381, 408, 412, 424, 637, 628, 633, 624, 620, 860, 653, 649, 645, 461, 393, 98, 598, 315, 328, 354, 368, 358, 338, 342, 346, 334, 320, 324, 260, 769, 842, 609, 135, 641, 692, 745, 749, 471, 436, 440, 457, 444, 449, 466, 475, 480, 484, 488, 492, 495, 90, 504, 307, 311, 605, 616, 664, 699, 706, 718, 725, 733, 741, 757, 781, 788, 795, 803, 810, 817, 824, 831, 838, 849, 856, 870, 428, 877, 884, 906, 919, 929, 761, 765, 668, 507, 578, 364, 361, 400, 922, 656, 396, 415, 889, 895, 899, 912, 934, 997, 1009, 1005, 1350, 1088, 1085, 938, 1112, 1079, 1076, 1231, 1054, 1281, 1267, 1302, 1309, 1051, 1135, 1132, 1129, 1126, 1123, 1120, 1331, 1178, 1098, 1147, 1190, 1163, 1159, 1167, 1171, 1245, 1155, 1175, 1151, 1182, 1143, 1139, 1186, 1260, 1062, 1271, 1278, 1069, 1082, 1095, 1101, 1253, 1001, 1013, 1025, 1029, 1045, 1041, 1059, 1048, 1037, 1066, 1073, 1092, 1105, 1033, 1021, 1017, 1109, 1198, 1194, 1116, 1207, 1211, 1202, 1215, 1220, 1224, 1228, 1235, 1240, 1249, 1257, 1264, 1275, 1287, 1291, 1295, 1299, 1306, 1316, 1320, 1328, 1324, 1335, 1339, 1343, 1361, 1365, 1369, 1373, 1377, 1381, 1356, 1347, 1392, 1385, 1396, 1400, 498, 601, 612, 659, 695, 702, 714, 721, 729, 737, 753, 777, 784, 791, 799, 806, 813, 820, 827, 834, 845, 852, 866, 873, 880, 902, 915, 925, 0, 418]
/-- own class, entry, method, mode, three places in lw_tbl -/
def xct : List (Nat × Nat × Nat × Nat × Nat × Nat × Nat) := [(6, 105, 57, 2, 88, 89, 0), (4, 1, 0, 5, 91, 92, 93), (4, 9, 22, 4, 96, 97, 0), (1, 3, 0, 5, 99, 92, 93), (4, 18, 39, 4, 133, 134, 0), (3, 3, 0, 5, 136, 92, 93), (3, 11, 0, 2, 139, 140, 0), (0, 3, 0, 5, 142, 92, 93), (0, 36, 1, 0, 143, 144, 145), (0, 55, 0, 6, 149, 150, 151), (4, 38, 35, 2, 258, 259, 0), (2, 3, 0, 5, 261, 92, 93), (2, 17, 0, 2, 264, 140, 0), (4, 45, 0, 2, 277, 140, 0), (6, 118, 59, 0, 304, 305, 306), (6, 122, 60, 0, 308, 309, 310), (4, 73, 24, 0, 312, 313, 314), (1, 19, 1, 0, 316, 144, 145), (1, 34, 33, 0, 317, 319, 0), (1, 93, 34, 0, 321, 323, 1), (1, 38, 25, 0, 325, 327, 2), (1, 61, 32, 0, 331, 333, 3), (1, 65, 29, 0, 335, 337, 4), (1, 73, 30, 0, 339, 341, 5), (1, 80, 31, 0, 343, 345, 6), (1, 69, 26, 0, 351, 353, 7), (1, 77, 28, 0, 355, 357, 8), (1, 89, 95, 3, 359, 360, 0), (4, 54, 94, 1, 362, 363, 0), (1, 83, 27, 0, 365, 367, 9), (1, 54, 5, 0, 369, 370, 371), (0, 65, 6, 0, 373, 374, 375), (0, 61, 94, 3, 378, 363, 0), (0, 73, 7, 1, 379, 380, 0), (0, 77, 4, 0, 382, 383, 384), (0, 81, 3, 0, 386, 387, 388), (0, 84, 21, 0, 390, 391, 392), (0, 88, 99, 3, 394, 395, 0), (0, 92, 95, 3, 397, 360, 0), (0, 95, 96, 3, 398, 399, 0), (0, 69, 8, 0, 405, 406, 407), (0, 104, 9, 0, 409, 411, 10), (0, 108, 100, 3, 413, 414, 0), (0, 112, 241, 1, 416, 417, 0), (0, 117, 10, 1, 422, 423, 0), (6, 195, 83, 0, 425, 426, 427), (4, 77, 2, 0, 429, 430, 431), (4, 103, 45, 0, 433, 434, 435), (3, 81, 46, 0, 437, 439, 11), (3, 37, 48, 0, 441, 442, 443), (3, 114, 0, 6, 445, 150, 151), (3, 120, 49, 0, 446, 448, 12), (3, 56, 99, 3, 450, 395, 0), (3, 44, 0, 8, 451, 452, 453), (3, 100, 47, 0, 454, 456, 13), (3, 106, 20, 0, 458, 459, 460), (3, 109, 241, 1, 462, 417, 0), (3, 87, 50, 0, 463, 465, 14), (3, 135, 100, 3, 467, 414, 0), (3, 74, 44, 0, 468, 470, 15), (3, 139, 51, 0, 472, 474, 16), (3, 142, 95, 3, 476, 360, 0), (3, 91, 52, 0, 477, 479, 17), (3, 146, 53, 0, 481, 483, 18), (3, 150, 54, 0, 485, 487, 19), (3, 94, 55, 0, 489, 491, 20), (3, 153, 56, 1, 493, 494, 0), (6, 109, 212, 7, 496, 497, 0), (6, 7, 58, 0, 501, 502, 503), (4, 58, 92, 1, 505, 506, 0), (4, 66, 93, 1, 576, 577, 0), (4, 69, 23, 0, 595, 596, 597), (6, 126, 213, 7, 599, 600, 0), (6, 17, 61, 0, 602, 603, 604), (4, 81, 38, 0, 606, 607, 608), (6, 130, 214, 7, 610, 611, 0), (6, 21, 62, 0, 613, 614, 615), (4, 99, 15, 0, 617, 618, 619), (0, 135, 14, 0, 621, 622, 623), (0, 132, 12, 0, 625, 626, 627), (0, 124, 13, 0, 630, 632, 22), (0, 128, 11, 0, 634, 635, 636), (4, 112, 40, 0, 638, 639, 640), (4, 116, 19, 0, 642, 643, 644), (4, 119, 18, 0, 646, 647, 648), (0, 147, 17, 0, 650, 651, 652), (0, 143, 98, 3, 654, 655, 0), (6, 133, 215, 7, 657, 658, 0), (6, 24, 63, 0, 661, 662, 663), (4, 122, 3, 0, 665, 387, 388), (4, 126, 91, 1, 666, 667, 0), (4, 133, 11, 0, 685, 635, 636), (4, 137, 12, 0, 686, 626, 627), (4, 140, 14, 0, 687, 622, 623), (4, 144, 17, 0, 688, 651, 652), (4, 147, 41, 0, 689, 690, 691), (6, 137, 216, 7, 693, 694, 0), (6, 30, 64, 0, 696, 697, 698), (6, 140, 217, 7, 700, 701, 0), (6, 33, 65, 0, 703, 704, 705), (4, 150, 4, 0, 707, 383, 384), (4, 168, 20, 0, 708, 459, 460), (4, 171, 48, 0, 709, 442, 443), (4, 183, 21, 0, 710, 391, 392), (4, 186, 241, 1, 711, 417, 0), (6, 143, 218, 7, 712, 713, 0), (6, 36, 66, 0, 715, 716, 717), (6, 146, 219, 7, 719, 720, 0), (6, 39, 67, 0, 722, 723, 724), (4, 197, 95, 1, 726, 360, 0), (6, 149, 220, 7, 727, 728, 0), (6, 42, 68, 0, 730, 731, 732), (4, 203, 96, 1, 734, 399, 0), (6, 152, 221, 7, 735, 736, 0), (6, 45, 69, 0, 738, 739, 740), (4, 209, 42, 0, 742, 743, 744), (3, 60, 43, 0, 746, 748, 23), (3, 64, 98, 3, 750, 655, 0), (6, 155, 222, 7, 751, 752, 0), (6, 48, 70, 0, 754, 755, 756), (4, 212, 89, 0, 758, 760, 24), (4, 245, 6, 0, 762, 374, 375), (4, 248, 90, 1, 763, 764, 0), (4, 252, 36, 0, 766, 767, 768), (2, 22, 2, 0, 770, 430, 431), (2, 29, 0, 9, 771, 772, 773), (4, 255, 8, 0, 774, 406, 407), (6, 158, 223, 7, 775, 776, 0), (6, 51, 71, 0, 778, 779, 780), (6, 161, 224, 7, 782, 783, 0), (6, 54, 72, 0, 785, 786, 787), (6, 164, 225, 7, 789, 790, 0), (6, 57, 73, 0, 792, 793, 794), (4, 216, 98, 1, 796, 655, 0), (6, 168, 226, 7, 797, 798, 0), (6, 61, 74, 0, 800, 801, 802), (6, 171, 227, 7, 804, 805, 0), (6, 64, 75, 0, 807, 808, 809), (6, 174, 228, 7, 811, 812, 0), (6, 67, 76, 0, 814, 815, 816), (6, 177, 229, 7, 818, 819, 0), (6, 70, 77, 0, 821, 822, 823), (6, 180, 230, 7, 825, 826, 0), (6, 73, 78, 0, 828, 829, 830), (6, 183, 231, 7, 832, 833, 0), (6, 76, 79, 0, 835, 836, 837), (4, 223, 37, 0, 839, 840, 841), (6, 186, 232, 7, 843, 844, 0), (6, 79, 80, 0, 846, 847, 848), (6, 189, 233, 7, 850, 851, 0), (6, 82, 81, 0, 853, 854, 855), (4, 226, 16, 0, 857, 858, 859), (0, 138, 0, 10, 861, 862, 863), (6, 192, 234, 7, 864, 865, 0), (6, 85, 82, 0, 867, 868, 869), (6, 199, 235, 7, 871, 872, 0), (6, 88, 84, 0, 874, 875, 876), (6, 204, 236, 7, 878, 879, 0), (6, 91, 85, 0, 881, 882, 883), (4, 231, 101, 0, 886, 888, 25), (4, 276, 5, 0, 891, 370, 371), (4, 280, 102, 0, 892, 894, 26), (4, 284, 103, 0, 896, 898, 27), (6, 208, 237, 7, 900, 901, 0), (6, 95, 86, 0, 903, 904, 905), (4, 238, 104, 0, 909, 911, 28), (6, 212, 238, 7, 913, 914, 0), (6, 99, 87, 0, 916, 917, 918), (4, 242, 97, 1, 920, 921, 0), (6, 215, 239, 7, 923, 924, 0), (6, 102, 88, 0, 926, 927, 928), (6, 108, 105, 2, 932, 933, 0), (5, 1, 0, 5, 935, 92, 93), (5, 44, 112, 1, 936, 937, 0), (6, 115, 106, 0, 994, 995, 996), (6, 114, 155, 0, 998, 999, 1000), (5, 58, 108, 1, 1003, 1004, 0), (5, 159, 107, 0, 1006, 1008, 29), (6, 121, 156, 0, 1010, 1011, 1012), (6, 125, 170, 0, 1014, 1015, 1016), (5, 239, 169, 0, 1018, 1020, 30), (5, 169, 157, 0, 1022, 1024, 31), (5, 173, 158, 0, 1026, 1028, 32), (5, 236, 168, 0, 1030, 1032, 33), (5, 220, 163, 0, 1034, 1036, 34), (5, 183, 160, 0, 1038, 1040, 35), (5, 177, 159, 0, 1042, 1044, 36), (5, 186, 162, 1, 1046, 1047, 0), (5, 76, 122, 1, 1049, 1050, 0), (5, 189, 117, 1, 1052, 1053, 0), (5, 192, 161, 0, 1056, 1058, 37), (5, 196, 147, 1, 1060, 1061, 0), (5, 223, 164, 0, 1063, 1065, 38), (5, 199, 150, 1, 1067, 1068, 0), (5, 226, 165, 0, 1070, 1072, 39), (5, 203, 115, 1, 1074, 1075, 0), (5, 207, 114, 1, 1077, 1078, 0), (5, 210, 151, 1, 1080, 1081, 0), (5, 116, 111, 1, 1083, 1084, 0), (5, 54, 110, 1, 1086, 1087, 0), (5, 229, 166, 0, 1089, 1091, 40), (5, 213, 152, 1, 1093, 1094, 0), (5, 148, 131, 1, 1096, 1097, 0), (5, 217, 153, 1, 1099, 1100, 0), (5, 232, 167, 0, 1102, 1104, 41), (6, 129, 171, 0, 1106, 1107, 1108), (5, 242, 113, 1, 1110, 1111, 0), (6, 132, 174, 0, 1113, 1114, 1115), (5, 139, 128, 1, 1118, 1119, 0), (5, 95, 127, 1, 1121, 1122, 0), (5, 91, 126, 1, 1124, 1125, 0), (5, 88, 125, 1, 1127, 1128, 0), (5, 80, 124, 1, 1130, 1131, 0), (5, 84, 123, 1, 1133, 1134, 0), (5, 248, 144, 0, 1136, 1138, 42), (5, 136, 143, 0, 1140, 1142, 43), (5, 98, 132, 0, 1144, 1146, 44), (5, 130, 141, 0, 1148, 1150, 45), (5, 120, 139, 0, 1152, 1154, 46), (5, 104, 135, 0, 1156, 1158, 47), (5, 101, 134, 0, 1160, 1162, 48), (5, 107, 136, 0, 1164, 1166, 49), (5, 110, 137, 0, 1168, 1170, 50), (5, 124, 140, 0, 1172, 1174, 51), (5, 113, 130, 1, 1176, 1177, 0), (5, 133, 142, 0, 1179, 1181, 52), (5, 251, 145, 0, 1183, 1185, 53), (5, 254, 133, 0, 1187, 1189, 54), (5, 257, 173, 0, 1191, 1193, 55), (5, 260, 172, 0, 1195, 1197, 56), (6, 136, 177, 0, 1199, 1200, 1201), (5, 265, 175, 0, 1204, 1206, 57), (5, 268, 176, 0, 1208, 1210, 58), (6, 139, 178, 0, 1212, 1213, 1214), (6, 142, 179, 0, 1217, 1218, 1219), (6, 145, 180, 0, 1221, 1222, 1223), (6, 148, 181, 0, 1225, 1226, 1227), (5, 271, 116, 1, 1229, 1230, 0), (6, 151, 182, 0, 1232, 1233, 1234), (6, 154, 183, 0, 1237, 1238, 1239), (5, 278, 138, 0, 1242, 1244, 59), (6, 157, 184, 0, 1246, 1247, 1248), (5, 281, 154, 0, 1250, 1252, 60), (6, 160, 185, 0, 1254, 1255, 1256), (5, 284, 146, 1, 1258, 1259, 0), (6, 163, 186, 0, 1261, 1262, 1263), (5, 287, 119, 1, 1265, 1266, 0), (5, 290, 148, 1, 1269, 1270, 0), (6, 167, 187, 0, 1272, 1273, 1274), (5, 293, 149, 1, 1276, 1277, 0), (5, 142, 118, 1, 1279, 1280, 0), (6, 170, 188, 0, 1284, 1285, 1286), (6, 173, 189, 0, 1288, 1289, 1290), (6, 176, 190, 0, 1292, 1293, 1294), (6, 179, 191, 0, 1296, 1297, 1298), (5, 296, 120, 1, 1300, 1301, 0), (6, 182, 192, 0, 1303, 1304, 1305), (5, 299, 121, 1, 1307, 1308, 0), (6, 185, 193, 0, 1313, 1314, 1315), (6, 188, 194, 0, 1317, 1318, 1319), (6, 191, 196, 0, 1321, 1322, 1323), (5, 305, 195, 0, 1325, 1327, 61), (5, 302, 129, 1, 1329, 1330, 0), (6, 194, 197, 0, 1332, 1333, 1334), (6, 198, 198, 0, 1336, 1337, 1338), (6, 201, 199, 0, 1340, 1341, 1342), (6, 207, 207, 0, 1344, 1345, 1346), (5, 328, 109, 1, 1348, 1349, 0), (5, 334, 206, 0, 1353, 1355, 62), (5, 309, 200, 0, 1358, 1360, 63), (5, 312, 201, 0, 1362, 1364, 64), (5, 315, 202, 0, 1366, 1368, 65), (5, 319, 203, 0, 1370, 1372, 66), (5, 322, 204, 0, 1374, 1376, 67), (5, 325, 205, 0, 1378, 1380, 68), (6, 211, 209, 0, 1382, 1383, 1384), (5, 343, 208, 0, 1389, 1391, 69), (6, 214, 210, 0, 1393, 1394, 1395), (6, 217, 211, 0, 1397, 1398, 1399)]
def xip : List Nat := [74, 72, 76, 73, 71, 77, 70, 83, 84]
/-- own class, entry, class, field, place -/
def xft : List (Nat × Nat × Nat × Nat × Nat) := [(1, 9, 1, 0, 100), (1, 15, 1, 1, 101), (4, 62, 1, 1, 102), (1, 24, 1, 2, 103), (4, 84, 1, 2, 104), (1, 27, 1, 3, 105), (1, 30, 1, 4, 106), (1, 42, 1, 5, 107), (1, 45, 1, 6, 108), (1, 48, 1, 7, 109), (1, 51, 1, 8, 110), (0, 39, 0, 0, 152), (4, 87, 0, 0, 153), (0, 43, 0, 1, 154), (3, 40, 0, 1, 155), (4, 90, 0, 1, 156), (0, 46, 0, 2, 157), (1, 86, 0, 2, 158), (4, 93, 0, 2, 159), (0, 49, 0, 3, 160), (4, 96, 0, 3, 161), (0, 9, 0, 4, 162), (4, 129, 0, 4, 163), (0, 15, 0, 5, 164), (3, 103, 0, 5, 165), (4, 153, 0, 5, 166), (0, 18, 0, 6, 167), (3, 71, 0, 6, 168), (4, 156, 0, 6, 169), (0, 21, 0, 7, 170), (3, 68, 0, 7, 171), (4, 159, 0, 7, 172), (0, 24, 0, 8, 173), (3, 53, 0, 8, 174), (4, 162, 0, 8, 175), (0, 27, 0, 9, 176), (4, 165, 0, 9, 177), (3, 123, 0, 9, 178), (0, 30, 0, 10, 179), (4, 200, 0, 10, 180), (3, 132, 0, 10, 181), (0, 33, 0, 11, 182), (3, 78, 0, 11, 183), (4, 206, 0, 11, 184), (3, 12, 3, 0, 211), (4, 23, 3, 0, 212), (3, 18, 3, 1, 213), (4, 177, 3, 1, 214), (3, 22, 3, 2, 215), (4, 180, 3, 2, 216), (3, 25, 3, 3, 217), (4, 174, 3, 3, 218), (3, 28, 3, 4, 219), (3, 31, 3, 5, 220), (4, 194, 3, 5, 221), (3, 50, 3, 6, 222), (4, 191, 3, 6, 223), (4, 109, 3, 7, 224), (3, 97, 3, 7, 225), (4, 106, 3, 8, 226), (3, 84, 3, 8, 227), (3, 126, 3, 9, 228), (3, 129, 3, 10, 229), (3, 34, 3, 11, 230), (2, 11, 2, 0, 265), (2, 18, 2, 1, 266), (2, 26, 2, 2, 267), (4, 220, 2, 2, 268), (4, 10, 4, 0, 278), (4, 19, 4, 1, 279), (4, 27, 4, 2, 280), (4, 30, 4, 3, 281), (4, 33, 4, 4, 282), (4, 39, 4, 5, 283), (4, 46, 4, 6, 284), (4, 50, 4, 7, 285), (5, 48, 5, 0, 939), (5, 7, 5, 1, 940), (5, 13, 5, 2, 941), (5, 16, 5, 3, 942), (5, 19, 5, 4, 943), (5, 151, 5, 5, 944), (5, 22, 5, 6, 945), (5, 25, 5, 7, 946), (5, 29, 5, 8, 947), (5, 32, 5, 9, 948), (5, 35, 5, 10, 949), (5, 127, 5, 11, 950), (5, 38, 5, 12, 951), (5, 41, 5, 13, 952), (5, 156, 5, 14, 953), (5, 162, 5, 15, 954), (5, 165, 5, 16, 955), (5, 180, 5, 17, 956)]
/-- the static rows: own class, entry, which, place -/
def xst : List (Nat × Nat × Nat × Nat) := [(0, 52, 1, 147), (1, 58, 5, 329), (1, 97, 6, 347), (1, 100, 4, 349), (0, 98, 2, 401), (0, 101, 3, 403), (0, 121, 4, 629)]
def xci : List (Nat × Nat × Int32 × Nat) := [(0, 72, 50000, 377), (7, 265, 1431655765, 419), (7, 266, 858993459, 420), (7, 267, 252645135, 421), (4, 275, 100000, 890), (5, 308, 100000, 1357)]
def xcl : List (Nat × Nat × Int64 × Nat) := [(4, 229, 1000000, 885), (4, 234, 6364136223846793005, 907), (4, 236, 1442695040888963407, 908), (5, 154, 255, 1002), (5, 64, 50000, 1055), (5, 246, 9, 1117), (5, 263, 6, 1203), (5, 62, 3, 1216), (5, 274, 4, 1236), (5, 276, 1500, 1241), (5, 68, 24, 1268), (5, 66, 90, 1282), (5, 146, -1, 1283), (5, 70, 15, 1310), (5, 72, 2, 1311), (5, 74, 20, 1312), (5, 52, 10, 1351), (5, 332, 1000000, 1352), (5, 337, 60, 1386), (5, 339, 6364136223846793005, 1387), (5, 341, 1442695040888963407, 1388), (6, 202, 4294967295, 1401)]
/-- class entries: own class, entry, class, places of the link and of instantiable -/
def xnw : List (Nat × Nat × Nat × Nat × Nat) := [(6, 8, 4, 86, 87), (4, 7, 1, 94, 95), (4, 16, 3, 131, 132), (3, 9, 0, 137, 138), (4, 36, 2, 256, 257), (2, 9, 0, 262, 138), (4, 43, 0, 276, 138), (6, 106, 5, 930, 931)]
abbrev xcl0 : List vw_C := [(RX0, TX0, 12), (RX1, TX1, 9), (RX2, TX2, 3), (RX3, TX3, 12), (RX4, TX4, 8), (RX5, TX5, 18)]
def xcT (t : Nat) : vw_C := (xcl0[t]?).getD (RX0, TX0, 12)
def xty (t : Nat) : Nat → FieldType := match t with
  | 0 => tyX0
  | 1 => tyX1
  | 2 => tyX2
  | 3 => tyX3
  | 4 => tyX4
  | _ => tyX5
/-- the static rows' names: 1 to 6 -/
def xsn (g : Nat) : String × String := match g with
  | 1 => ("FIRST_SETTING", "[I")
  | 2 => ("LEAST_SETTING", "[I")
  | 3 => ("MOST_SETTING", "[I")
  | 4 => ("GRAINS", "[I")
  | 5 => ("COMMAND_LETTERS", "[C")
  | _ => ("MEASURE_LETTERS", "[C")
