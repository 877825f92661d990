def RX0 : String := "SpoonCards$Card"
def TX0 : u_T := fun k => match k with
  | 0 => ("SpoonCards$Card", "ingredients", "I", false)
  | 1 => ("SpoonCards$Card", "steps", "I", false)
  | 2 => ("SpoonCards$Card", "cardServings", "I", false)
  | 3 => ("SpoonCards$Card", "wantedServings", "I", false)
  | 4 => ("SpoonCards$Card", "amounts", "[I", true)
  | 5 => ("SpoonCards$Card", "stepMinutes", "[I", true)
  | 6 => ("SpoonCards$Card", "stepPan", "[I", true)
  | 7 => ("SpoonCards$Card", "stepHands", "[I", true)
  | 8 => ("SpoonCards$Card", "uses", "[I", true)
  | 9 => ("SpoonCards$Card", "needs", "[I", true)
  | 10 => ("SpoonCards$Card", "pieces", "[I", true)
  | _ => ("SpoonCards$Card", "settings", "[I", true)
def tyX0 : Nat → FieldType := fun k => match k with
  | 0 => .int
  | 1 => .int
  | 2 => .int
  | 3 => .int
  | 4 => .array .int
  | 5 => .array .int
  | 6 => .array .int
  | 7 => .array .int
  | 8 => .array .int
  | 9 => .array .int
  | 10 => .array .int
  | _ => .array .int
theorem nmX0 : ∀ a, a < 12 → ∀ b, b < 12 → a ≠ b → (TX0 a).2.1 ≠ (TX0 b).2.1 := by decide +kernel
theorem tyX0_ok : ∀ k, k < 12 → parseFieldDescriptor (TX0 k).2.2.1 = some (tyX0 k) := by decide +kernel
def RX1 : String := "SpoonCards$CardText"
def TX1 : u_T := fun k => match k with
  | 0 => ("SpoonCards$CardText", "signs", "[C", true)
  | 1 => ("SpoonCards$CardText", "length", "I", false)
  | 2 => ("SpoonCards$CardText", "leftOut", "I", false)
  | 3 => ("SpoonCards$CardText", "at", "I", false)
  | 4 => ("SpoonCards$CardText", "wrong", "Z", false)
  | 5 => ("SpoonCards$CardText", "action", "I", false)
  | 6 => ("SpoonCards$CardText", "first", "I", false)
  | 7 => ("SpoonCards$CardText", "second", "I", false)
  | _ => ("SpoonCards$CardText", "third", "I", false)
def tyX1 : Nat → FieldType := fun k => match k with
  | 0 => .array .char
  | 1 => .int
  | 2 => .int
  | 3 => .int
  | 4 => .boolean
  | 5 => .int
  | 6 => .int
  | 7 => .int
  | _ => .int
theorem nmX1 : ∀ a, a < 9 → ∀ b, b < 9 → a ≠ b → (TX1 a).2.1 ≠ (TX1 b).2.1 := by decide +kernel
theorem tyX1_ok : ∀ k, k < 9 → parseFieldDescriptor (TX1 k).2.2.1 = some (tyX1 k) := by decide +kernel
def RX2 : String := "SpoonCards$Memory"
def TX2 : u_T := fun k => match k with
  | 0 => ("SpoonCards$Memory", "states", "[LSpoonCards$Card;", true)
  | 1 => ("SpoonCards$Memory", "next", "I", false)
  | _ => ("SpoonCards$Memory", "count", "I", false)
def tyX2 : Nat → FieldType := fun k => match k with
  | 0 => .array (.object "SpoonCards$Card")
  | 1 => .int
  | _ => .int
theorem nmX2 : ∀ a, a < 3 → ∀ b, b < 3 → a ≠ b → (TX2 a).2.1 ≠ (TX2 b).2.1 := by decide +kernel
theorem tyX2_ok : ∀ k, k < 3 → parseFieldDescriptor (TX2 k).2.2.1 = some (tyX2 k) := by decide +kernel
def RX3 : String := "SpoonCards$Plan"
def TX3 : u_T := fun k => match k with
  | 0 => ("SpoonCards$Plan", "card", "LSpoonCards$Card;", true)
  | 1 => ("SpoonCards$Plan", "begin", "[I", true)
  | 2 => ("SpoonCards$Plan", "end", "[I", true)
  | 3 => ("SpoonCards$Plan", "way", "[I", true)
  | 4 => ("SpoonCards$Plan", "weight", "[I", true)
  | 5 => ("SpoonCards$Plan", "order", "[I", true)
  | 6 => ("SpoonCards$Plan", "begunSteps", "I", false)
  | 7 => ("SpoonCards$Plan", "stuckSteps", "I", false)
  | 8 => ("SpoonCards$Plan", "wholeMinutes", "I", false)
  | 9 => ("SpoonCards$Plan", "doneSteps", "I", false)
  | 10 => ("SpoonCards$Plan", "freeCooks", "I", false)
  | _ => ("SpoonCards$Plan", "freePieces", "[I", true)
def tyX3 : Nat → FieldType := fun k => match k with
  | 0 => .object "SpoonCards$Card"
  | 1 => .array .int
  | 2 => .array .int
  | 3 => .array .int
  | 4 => .array .int
  | 5 => .array .int
  | 6 => .int
  | 7 => .int
  | 8 => .int
  | 9 => .int
  | 10 => .int
  | _ => .array .int
theorem nmX3 : ∀ a, a < 12 → ∀ b, b < 12 → a ≠ b → (TX3 a).2.1 ≠ (TX3 b).2.1 := by decide +kernel
theorem tyX3_ok : ∀ k, k < 12 → parseFieldDescriptor (TX3 k).2.2.1 = some (tyX3 k) := by decide +kernel
def RX4 : String := "SpoonCards"
def TX4 : u_T := fun k => match k with
  | 0 => ("SpoonCards", "text", "LSpoonCards$CardText;", true)
  | 1 => ("SpoonCards", "presentPlan", "LSpoonCards$Plan;", true)
  | 2 => ("SpoonCards", "present", "LSpoonCards$Card;", true)
  | 3 => ("SpoonCards", "trialPlan", "LSpoonCards$Plan;", true)
  | 4 => ("SpoonCards", "trial", "LSpoonCards$Card;", true)
  | 5 => ("SpoonCards", "memory", "LSpoonCards$Memory;", true)
  | 6 => ("SpoonCards", "slots", "[LSpoonCards$Card;", true)
  | _ => ("SpoonCards", "saved", "[Z", true)
def tyX4 : Nat → FieldType := fun k => match k with
  | 0 => .object "SpoonCards$CardText"
  | 1 => .object "SpoonCards$Plan"
  | 2 => .object "SpoonCards$Card"
  | 3 => .object "SpoonCards$Plan"
  | 4 => .object "SpoonCards$Card"
  | 5 => .object "SpoonCards$Memory"
  | 6 => .array (.object "SpoonCards$Card")
  | _ => .array .boolean
theorem nmX4 : ∀ a, a < 8 → ∀ b, b < 8 → a ≠ b → (TX4 a).2.1 ≠ (TX4 b).2.1 := by decide +kernel
theorem tyX4_ok : ∀ k, k < 8 → parseFieldDescriptor (TX4 k).2.2.1 = some (tyX4 k) := by decide +kernel
def RX5 : String := "SpoonCardsModel"
def TX5 : u_T := fun k => match k with
  | _ => ("", "", "", false)
def tyX5 : Nat → FieldType := fun k => match k with
  | _ => .int
theorem nmX5 : ∀ a, a < 0 → ∀ b, b < 0 → a ≠ b → (TX5 a).2.1 ≠ (TX5 b).2.1 := by decide +kernel
theorem tyX5_ok : ∀ k, k < 0 → parseFieldDescriptor (TX5 k).2.2.1 = some (tyX5 k) := by decide +kernel
def xcn (c : Nat) : String := match c with
  | 0 => "SpoonCards$Card"
  | 1 => "SpoonCards$CardText"
  | 2 => "SpoonCards$Memory"
  | 3 => "SpoonCards$Plan"
  | 4 => "SpoonCards"
  | 5 => "SpoonCardsLaw"
  | 6 => "java/lang/Integer"
  | _ => "java/lang/Math"
abbrev xMe : Type := MethodName × ByteArray × Nat × Option FieldType × List (Nat × Nat × Nat × Nat)
def xmt0 : List xMe := [(⟨"SpoonCards$Card", "<init>", "()V"⟩, prog_2_method_1_code, 1, none, []),
  (⟨"SpoonCards$Card", "makeNew", "()V"⟩, prog_2_method_2_code, 2, none, []),
  (⟨"SpoonCards$Card", "copyFrom", "(LSpoonCards$Card;)V"⟩, prog_2_method_3_code, 2, none, []),
  (⟨"SpoonCards$Card", "hasIngredient", "(I)Z"⟩, prog_2_method_4_code, 2, (some .boolean), []),
  (⟨"SpoonCards$Card", "hasStep", "(I)Z"⟩, prog_2_method_5_code, 2, (some .boolean), []),
  (⟨"SpoonCards$Card", "attempt", "(IIII)Z"⟩, prog_2_method_6_code, 5, (some .boolean), []),
  (⟨"SpoonCards$Card", "faultOf", "(IIII)I"⟩, prog_2_method_7_code, 5, (some .int), []),
  (⟨"SpoonCards$Card", "firstFault", "(ZZZ)I"⟩, prog_2_method_8_code, 3, (some .int), []),
  (⟨"SpoonCards$Card", "perform", "(IIII)I"⟩, prog_2_method_9_code, 5, (some .int), []),
  (⟨"SpoonCards$Card", "addStep", "(III)I"⟩, prog_2_method_10_code, 4, (some .int), []),
  (⟨"SpoonCards$Card", "replace", "([III)I"⟩, prog_2_method_11_code, 4, (some .int), []),
  (⟨"SpoonCards$Card", "scaled", "(II)I"⟩, prog_2_method_12_code, 4, (some .int), []),
  (⟨"SpoonCards$Card", "rounded", "(II)I"⟩, prog_2_method_13_code, 6, (some .int), []),
  (⟨"SpoonCards$Card", "leastMeasure", "()I"⟩, prog_2_method_14_code, 2, (some .int), []),
  (⟨"SpoonCards$Card", "spoonsAmong", "(III)I"⟩, prog_2_method_15_code, 7, (some .int), []),
  (⟨"SpoonCards$Card", "allSpoons", "(I)I"⟩, prog_2_method_16_code, 4, (some .int), []),
  (⟨"SpoonCards$Card", "grainsOff", "(I)I"⟩, prog_2_method_17_code, 4, (some .int), []),
  (⟨"SpoonCards$Card", "usersOf", "(I)I"⟩, prog_2_method_18_code, 4, (some .int), []),
  (⟨"SpoonCards$Card", "unusedIngredients", "()I"⟩, prog_2_method_19_code, 3, (some .int), []),
  (⟨"SpoonCards$Card", "allMinutes", "()I"⟩, prog_2_method_20_code, 3, (some .int), []),
  (⟨"SpoonCards$Card", "neededBy", "(I)I"⟩, prog_2_method_21_code, 4, (some .int), []),
  (⟨"SpoonCards$Card", "needsInAll", "(I)I"⟩, prog_2_method_22_code, 5, (some .int), []),
  (⟨"SpoonCards$CardText", "<init>", "()V"⟩, prog_3_method_1_code, 1, none, []),
  (⟨"SpoonCards$CardText", "add", "(C)I"⟩, prog_3_method_2_code, 2, (some .int), []),
  (⟨"SpoonCards$CardText", "readInto", "(LSpoonCards$Card;)I"⟩, prog_3_method_3_code, 3, (some .int), []),
  (⟨"SpoonCards$CardText", "readCommand", "(LSpoonCards$Card;)V"⟩, prog_3_method_4_code, 2, none, []),
  (⟨"SpoonCards$CardText", "keep", "(IIII)V"⟩, prog_3_method_5_code, 5, none, []),
  (⟨"SpoonCards$CardText", "readStep", "()I"⟩, prog_3_method_6_code, 1, (some .int), []),
  (⟨"SpoonCards$CardText", "readPan", "()I"⟩, prog_3_method_7_code, 2, (some .int), []),
  (⟨"SpoonCards$CardText", "readGrains", "()I"⟩, prog_3_method_8_code, 5, (some .int), []),
  (⟨"SpoonCards$CardText", "readNumber", "(II)I"⟩, prog_3_method_9_code, 6, (some .int), []),
  (⟨"SpoonCards$CardText", "readDigit", "(II)I"⟩, prog_3_method_10_code, 4, (some .int), []),
  (⟨"SpoonCards$CardText", "readLetter", "([C)I"⟩, prog_3_method_11_code, 3, (some .int), []),
  (⟨"SpoonCards$CardText", "readSign", "(C)V"⟩, prog_3_method_12_code, 2, none, []),
  (⟨"SpoonCards$CardText", "isNext", "(C)Z"⟩, prog_3_method_13_code, 2, (some .boolean), []),
  (⟨"SpoonCards$Memory", "<init>", "()V"⟩, prog_4_method_1_code, 2, none, []),
  (⟨"SpoonCards$Memory", "remember", "(LSpoonCards$Card;)V"⟩, prog_4_method_2_code, 2, none, []),
  (⟨"SpoonCards$Memory", "takeBack", "(LSpoonCards$Card;)I"⟩, prog_4_method_3_code, 2, (some .int), []),
  (⟨"SpoonCards$Memory", "forget", "()V"⟩, prog_4_method_4_code, 1, none, []),
  (⟨"SpoonCards$Plan", "<init>", "()V"⟩, prog_5_method_1_code, 1, none, []),
  (⟨"SpoonCards$Plan", "longestWay", "()I"⟩, prog_5_method_2_code, 3, (some .int), []),
  (⟨"SpoonCards$Plan", "firstUse", "(I)I"⟩, prog_5_method_3_code, 3, (some .int), []),
  (⟨"SpoonCards$Plan", "countAt", "(II)I"⟩, prog_5_method_4_code, 5, (some .int), []),
  (⟨"SpoonCards$Plan", "isCountedAt", "(III)Z"⟩, prog_5_method_5_code, 5, (some .boolean), []),
  (⟨"SpoonCards$Plan", "freeAgain", "(I)I"⟩, prog_5_method_6_code, 2, (some .int), []),
  (⟨"SpoonCards$Plan", "make", "()V"⟩, prog_5_method_7_code, 3, none, []),
  (⟨"SpoonCards$Plan", "weigh", "()V"⟩, prog_5_method_8_code, 3, none, []),
  (⟨"SpoonCards$Plan", "weightBy", "(II)I"⟩, prog_5_method_9_code, 3, (some .int), []),
  (⟨"SpoonCards$Plan", "findWays", "()V"⟩, prog_5_method_10_code, 3, none, []),
  (⟨"SpoonCards$Plan", "lengthenWays", "(I)V"⟩, prog_5_method_11_code, 3, none, [])]
def xmt1 : List xMe := [(⟨"SpoonCards$Plan", "lookAround", "(I)V"⟩, prog_5_method_12_code, 4, none, []),
  (⟨"SpoonCards$Plan", "takePiece", "(I)V"⟩, prog_5_method_13_code, 3, none, []),
  (⟨"SpoonCards$Plan", "beginSteps", "(I)V"⟩, prog_5_method_14_code, 4, none, []),
  (⟨"SpoonCards$Plan", "firstToBegin", "()I"⟩, prog_5_method_15_code, 3, (some .int), []),
  (⟨"SpoonCards$Plan", "canBegin", "(I)Z"⟩, prog_5_method_16_code, 3, (some .boolean), []),
  (⟨"SpoonCards$Plan", "nextChange", "(I)I"⟩, prog_5_method_17_code, 5, (some .int), []),
  (⟨"SpoonCards$Plan", "sooner", "(III)I"⟩, prog_5_method_18_code, 3, (some .int), []),
  (⟨"SpoonCards", "<init>", "()V"⟩, prog_1_method_1_code, 1, none, []),
  (⟨"SpoonCards", "append", "(I)I"⟩, prog_1_method_2_code, 2, (some .int), []),
  (⟨"SpoonCards", "clearText", "()I"⟩, prog_1_method_3_code, 2, (some .int), []),
  (⟨"SpoonCards", "errorPosition", "()I"⟩, prog_1_method_4_code, 1, (some .int), []),
  (⟨"SpoonCards", "load", "()I"⟩, prog_1_method_5_code, 2, (some .int), []),
  (⟨"SpoonCards", "about", "(I)I"⟩, prog_1_method_6_code, 2, (some .int), []),
  (⟨"SpoonCards", "ingredientOf", "(II)I"⟩, prog_1_method_7_code, 4, (some .int), []),
  (⟨"SpoonCards", "spoons", "(II)I"⟩, prog_1_method_8_code, 3, (some .int), []),
  (⟨"SpoonCards", "stepOf", "(II)I"⟩, prog_1_method_9_code, 3, (some .int), []),
  (⟨"SpoonCards", "begun", "(I)I"⟩, prog_1_method_10_code, 2, (some .int), []),
  (⟨"SpoonCards", "pieces", "(I)I"⟩, prog_1_method_11_code, 2, (some .int), []),
  (⟨"SpoonCards", "setting", "(I)I"⟩, prog_1_method_12_code, 2, (some .int), []),
  (⟨"SpoonCards", "during", "(II)I"⟩, prog_1_method_13_code, 3, (some .int), []),
  (⟨"SpoonCards", "ingredient", "(I)I"⟩, prog_1_method_14_code, 2, (some .int), []),
  (⟨"SpoonCards", "amount", "(II)I"⟩, prog_1_method_15_code, 3, (some .int), []),
  (⟨"SpoonCards", "servings", "(II)I"⟩, prog_1_method_16_code, 3, (some .int), []),
  (⟨"SpoonCards", "step", "(IIZ)I"⟩, prog_1_method_17_code, 4, (some .int), []),
  (⟨"SpoonCards", "minutes", "(II)I"⟩, prog_1_method_18_code, 3, (some .int), []),
  (⟨"SpoonCards", "use", "(IIZ)I"⟩, prog_1_method_19_code, 4, (some .int), []),
  (⟨"SpoonCards", "need", "(IIZ)I"⟩, prog_1_method_20_code, 4, (some .int), []),
  (⟨"SpoonCards", "pans", "(II)I"⟩, prog_1_method_21_code, 3, (some .int), []),
  (⟨"SpoonCards", "set", "(II)I"⟩, prog_1_method_22_code, 3, (some .int), []),
  (⟨"SpoonCards", "undo", "()I"⟩, prog_1_method_23_code, 1, (some .int), []),
  (⟨"SpoonCards", "ifPan", "(II)I"⟩, prog_1_method_24_code, 3, (some .int), []),
  (⟨"SpoonCards", "ifServed", "(II)I"⟩, prog_1_method_25_code, 3, (some .int), []),
  (⟨"SpoonCards", "slack", "(I)I"⟩, prog_1_method_26_code, 3, (some .int), []),
  (⟨"SpoonCards", "bestRule", "()I"⟩, prog_1_method_27_code, 8, (some .int), []),
  (⟨"SpoonCards", "bestServings", "(II)I"⟩, prog_1_method_28_code, 7, (some .int), []),
  (⟨"SpoonCards", "runScript", "(IJ)I"⟩, prog_1_method_29_code, 11, (some .int), []),
  (⟨"SpoonCards", "simulate", "(JI)I"⟩, prog_1_method_30_code, 8, (some .int), []),
  (⟨"SpoonCards", "save", "(I)I"⟩, prog_1_method_31_code, 2, (some .int), []),
  (⟨"SpoonCards", "restore", "(I)I"⟩, prog_1_method_32_code, 2, (some .int), []),
  (⟨"SpoonCards", "act", "(IIII)I"⟩, prog_1_method_33_code, 5, (some .int), []),
  (⟨"SpoonCards", "refuse", "(I)V"⟩, prog_1_method_34_code, 1, none, []),
  (⟨"SpoonCards", "requirePlace", "(Z)V"⟩, prog_1_method_35_code, 1, none, []),
  (⟨"SpoonCards", "requireArgument", "(Z)V"⟩, prog_1_method_36_code, 1, none, []),
  (⟨"SpoonCards", "requireState", "(Z)V"⟩, prog_1_method_37_code, 1, none, []),
  (⟨"SpoonCards", "within", "(III)Z"⟩, prog_1_method_38_code, 3, (some .boolean), []),
  (⟨"SpoonCards", "isKind", "(I)Z"⟩, prog_1_method_39_code, 1, (some .boolean), []),
  (⟨"SpoonCards", "isSetting", "(I)Z"⟩, prog_1_method_40_code, 1, (some .boolean), []),
  (⟨"SpoonCards", "isSlot", "(I)Z"⟩, prog_1_method_41_code, 1, (some .boolean), []),
  (⟨"SpoonCards", "bit", "(Z)I"⟩, prog_1_method_42_code, 1, (some .int), []),
  (⟨"SpoonCards", "contains", "(II)Z"⟩, prog_1_method_43_code, 2, (some .boolean), [])]
def xmt2 : List xMe := [(⟨"SpoonCards", "with", "(IIZ)I"⟩, prog_1_method_44_code, 3, (some .int), []),
  (⟨"SpoonCards", "succeeds", "(I)Z"⟩, prog_1_method_45_code, 5, (some .boolean), []),
  (⟨"SpoonCards", "beginsBy", "(II)Z"⟩, prog_1_method_46_code, 3, (some .boolean), []),
  (⟨"SpoonCards", "takesAtMost", "(II)Z"⟩, prog_1_method_47_code, 3, (some .boolean), []),
  (⟨"SpoonCards", "takeTurn", "(II)V"⟩, prog_1_method_48_code, 3, none, []),
  (⟨"SpoonCardsLaw", "draw", "([II)I"⟩, method_2_code, 2, (some .int), []),
  (⟨"SpoonCardsLaw", "in", "(JJJ)Z"⟩, method_3_code, 6, (some .boolean), []),
  (⟨"SpoonCardsLaw", "append", "(LSpoonCards;I)J"⟩, method_4_code, 3, (some .long), [(0, 6, 7, 15), (0, 6, 12, 19)]),
  (⟨"SpoonCardsLaw", "load", "(LSpoonCards;)J"⟩, method_5_code, 2, (some .long), [(0, 5, 6, 19)]),
  (⟨"SpoonCardsLaw", "about", "(LSpoonCards;I)J"⟩, method_6_code, 3, (some .long), [(0, 6, 7, 15)]),
  (⟨"SpoonCardsLaw", "ingredientOf", "(LSpoonCards;II)J"⟩, method_7_code, 4, (some .long), [(0, 7, 8, 34), (0, 7, 13, 15)]),
  (⟨"SpoonCardsLaw", "spoons", "(LSpoonCards;II)J"⟩, method_8_code, 4, (some .long), [(0, 7, 8, 34), (0, 7, 13, 15)]),
  (⟨"SpoonCardsLaw", "stepOf", "(LSpoonCards;II)J"⟩, method_9_code, 4, (some .long), [(0, 7, 8, 34), (0, 7, 13, 15)]),
  (⟨"SpoonCardsLaw", "begun", "(LSpoonCards;I)J"⟩, method_10_code, 3, (some .long), [(0, 6, 7, 34)]),
  (⟨"SpoonCardsLaw", "pieces", "(LSpoonCards;I)J"⟩, method_11_code, 3, (some .long), [(0, 6, 7, 34)]),
  (⟨"SpoonCardsLaw", "setting", "(LSpoonCards;I)J"⟩, method_12_code, 3, (some .long), [(0, 6, 7, 15)]),
  (⟨"SpoonCardsLaw", "during", "(LSpoonCards;II)J"⟩, method_13_code, 4, (some .long), [(0, 7, 8, 15)]),
  (⟨"SpoonCardsLaw", "ingredient", "(LSpoonCards;I)J"⟩, method_14_code, 3, (some .long), [(0, 6, 7, 15), (0, 6, 12, 19)]),
  (⟨"SpoonCardsLaw", "amount", "(LSpoonCards;II)J"⟩, method_15_code, 4, (some .long), [(0, 7, 8, 34), (0, 7, 13, 15)]),
  (⟨"SpoonCardsLaw", "servings", "(LSpoonCards;II)J"⟩, method_16_code, 4, (some .long), [(0, 7, 8, 15)]),
  (⟨"SpoonCardsLaw", "step", "(LSpoonCards;IIZ)J"⟩, method_17_code, 5, (some .long), [(0, 8, 9, 15), (0, 8, 15, 19)]),
  (⟨"SpoonCardsLaw", "minutes", "(LSpoonCards;II)J"⟩, method_18_code, 4, (some .long), [(0, 7, 8, 34), (0, 7, 13, 15)]),
  (⟨"SpoonCardsLaw", "use", "(LSpoonCards;IIZ)J"⟩, method_19_code, 5, (some .long), [(0, 8, 9, 34)]),
  (⟨"SpoonCardsLaw", "need", "(LSpoonCards;IIZ)J"⟩, method_20_code, 5, (some .long), [(0, 8, 9, 34), (0, 8, 15, 19)]),
  (⟨"SpoonCardsLaw", "pans", "(LSpoonCards;II)J"⟩, method_21_code, 4, (some .long), [(0, 7, 8, 34), (0, 7, 13, 15)]),
  (⟨"SpoonCardsLaw", "set", "(LSpoonCards;II)J"⟩, method_22_code, 4, (some .long), [(0, 7, 8, 15)]),
  (⟨"SpoonCardsLaw", "undo", "(LSpoonCards;)J"⟩, method_23_code, 2, (some .long), [(0, 5, 6, 19)]),
  (⟨"SpoonCardsLaw", "ifPan", "(LSpoonCards;II)J"⟩, method_24_code, 4, (some .long), [(0, 7, 8, 34), (0, 7, 13, 15)]),
  (⟨"SpoonCardsLaw", "ifServed", "(LSpoonCards;II)J"⟩, method_25_code, 4, (some .long), [(0, 7, 8, 15)]),
  (⟨"SpoonCardsLaw", "slack", "(LSpoonCards;I)J"⟩, method_26_code, 3, (some .long), [(0, 6, 7, 34)]),
  (⟨"SpoonCardsLaw", "bestServings", "(LSpoonCards;II)J"⟩, method_27_code, 4, (some .long), [(0, 7, 8, 15)]),
  (⟨"SpoonCardsLaw", "script", "(LSpoonCards;IJ)J"⟩, method_28_code, 5, (some .long), [(0, 7, 8, 15)]),
  (⟨"SpoonCardsLaw", "simulate", "(LSpoonCards;JI)J"⟩, method_29_code, 5, (some .long), [(0, 7, 8, 15)]),
  (⟨"SpoonCardsLaw", "save", "(LSpoonCards;I)J"⟩, method_30_code, 3, (some .long), [(0, 6, 7, 34)]),
  (⟨"SpoonCardsLaw", "restore", "(LSpoonCards;I)J"⟩, method_31_code, 3, (some .long), [(0, 6, 7, 34), (0, 6, 12, 19)]),
  (⟨"SpoonCardsLaw", "now", "(LSpoonCards;)J"⟩, method_32_code, 5, (some .long), []),
  (⟨"SpoonCardsLaw", "errors", "(LSpoonCards;)Z"⟩, method_33_code, 6, (some .boolean), []),
  (⟨"SpoonCardsLaw", "kept", "(LSpoonCards;)Z"⟩, method_34_code, 20, (some .boolean), []),
  (⟨"SpoonCardsLaw", "follows", "(LSpoonCards;I)Z"⟩, method_35_code, 22, (some .boolean), []),
  (⟨"SpoonCardsLaw", "alike", "(LSpoonCards;LSpoonCards;I)Z"⟩, method_36_code, 3, (some .boolean), []),
  (⟨"SpoonCardsLaw", "says", "(LSpoonCards;IIII)Z"⟩, method_37_code, 5, (some .boolean), []),
  (⟨"SpoonCardsLaw", "told", "(LSpoonCards;I)Z"⟩, method_38_code, 5, (some .boolean), []),
  (⟨"SpoonCardsLaw", "act", "(LSpoonCards;II)J"⟩, method_39_code, 4, (some .long), []),
  (⟨"SpoonCardsLaw", "law", "([I)Z"⟩, code, 7, (some .boolean), []),
  (⟨"java/lang/Integer", "bitCount", "(I)I"⟩, prog_12_method_49_code, 1, (some .int), [])]
def xm0 : xMe := (⟨"", "", ""⟩, ⟨#[]⟩, 0, none, [])
def xme (k : Nat) : xMe :=
  if k < 50 then (xmt0[k - 0]?).getD xm0 else if k < 100 then (xmt1[k - 50]?).getD xm0 else (xmt2[k - 100]?).getD xm0
def xmn (k : Nat) : MethodName := (xme k).1
def xmb (k : Nat) : ByteArray := (xme k).2.1
def xml (k : Nat) : Nat := (xme k).2.2.1
def xmr (k : Nat) : Option FieldType := (xme k).2.2.2.1
def xmh (k : Nat) : List (Nat × Nat × Nat × Nat) := (xme k).2.2.2.2
abbrev xNu : Type := Nat × Nat × Nat × Nat × Nat × Nat × Nat
def xnt0 : List xNu := [(0, 0, 1, 2, 81, 8, 91), (0, 0, 1, 1, 60, 0, 0), (0, 0, 2, 1, 60, 0, 0), (0, 0, 2, 1, 22, 0, 0), (0, 0, 2, 1, 22, 0, 0), (0, 0, 5, 3, 69, 0, 0), (0, 0, 5, 2, 45, 0, 0), (0, 0, 3, 0, 0, 0, 0), (0, 0, 5, 1, 23, 0, 0), (0, 0, 4, 0, 0, 0, 0), (0, 0, 3, 0, 0, 0, 0), (0, 0, 3, 0, 0, 0, 0), (0, 0, 3, 2, 42, 0, 0), (0, 0, 1, 1, 21, 0, 0), (0, 0, 4, 3, 67, 0, 0), (0, 0, 2, 4, 93, 0, 0), (0, 0, 2, 3, 67, 0, 0), (0, 0, 2, 1, 21, 0, 0), (0, 0, 1, 2, 44, 0, 0), (0, 0, 1, 0, 0, 0, 0), (0, 0, 2, 1, 22, 0, 0), (0, 0, 2, 1, 21, 0, 0), (0, 1, 1, 1, 20, 1, 120), (0, 1, 2, 0, 0, 0, 0), (0, 1, 2, 5, 114, 0, 0), (0, 1, 2, 4, 93, 0, 0), (0, 1, 5, 0, 0, 0, 0), (0, 1, 1, 3, 69, 0, 0), (0, 1, 1, 2, 44, 0, 0), (0, 1, 1, 3, 69, 0, 0), (0, 1, 3, 2, 44, 0, 0), (0, 1, 3, 1, 21, 0, 0), (0, 1, 2, 1, 21, 0, 0), (0, 1, 2, 1, 21, 0, 0), (0, 1, 2, 0, 0, 0, 0), (0, 2, 1, 3, 101, 127, 1456), (0, 2, 2, 2, 81, 0, 0), (0, 2, 2, 2, 81, 0, 0), (0, 2, 1, 0, 0, 0, 0), (0, 3, 1, 3, 101, 15, 177), (0, 3, 1, 3, 82, 0, 0), (0, 3, 2, 1, 21, 0, 0), (0, 3, 3, 2, 45, 0, 0), (0, 3, 4, 1, 21, 0, 0), (0, 3, 2, 0, 0, 0, 0), (0, 3, 1, 5, 109, 0, 0), (0, 3, 1, 3, 82, 0, 0), (0, 3, 3, 2, 45, 0, 0), (0, 3, 1, 2, 60, 0, 0), (0, 3, 2, 1, 21, 0, 0)]
def xnt1 : List xNu := [(0, 3, 2, 3, 64, 0, 0), (0, 3, 2, 2, 42, 0, 0), (0, 3, 2, 4, 86, 0, 0), (0, 3, 1, 3, 64, 0, 0), (0, 3, 2, 2, 42, 0, 0), (0, 3, 2, 1, 22, 0, 0), (0, 3, 3, 0, 0, 0, 0), (0, 4, 1, 4, 122, 182, 2176), (1, 4, 2, 7, 110, 2, 12), (0, 4, 1, 0, 0, 0, 0), (0, 4, 1, 6, 136, 0, 0), (1, 4, 1, 7, 136, 1, 6), (1, 4, 2, 7, 131, 1, 6), (1, 4, 3, 7, 131, 2, 12), (1, 4, 3, 7, 110, 2, 12), (1, 4, 3, 7, 131, 2, 12), (1, 4, 2, 7, 131, 1, 6), (1, 4, 2, 7, 110, 1, 6), (1, 4, 2, 7, 110, 1, 6), (1, 4, 3, 7, 131, 1, 6), (1, 4, 2, 9, 154, 3, 18), (1, 4, 3, 9, 154, 3, 18), (1, 4, 3, 9, 154, 3, 18), (1, 4, 4, 9, 154, 3, 18), (1, 4, 3, 9, 154, 3, 18), (1, 4, 4, 9, 154, 3, 18), (1, 4, 4, 9, 154, 3, 18), (1, 4, 3, 9, 154, 3, 18), (1, 4, 3, 9, 154, 3, 18), (1, 4, 1, 7, 110, 1, 6), (1, 4, 3, 7, 131, 2, 12), (1, 4, 3, 7, 116, 1, 6), (1, 4, 2, 7, 131, 1, 6), (0, 4, 1, 6, 131, 0, 0), (1, 4, 3, 7, 110, 1, 6), (1, 4, 3, 7, 139, 2, 12), (1, 4, 3, 7, 131, 1, 6), (1, 4, 2, 7, 110, 1, 6), (1, 4, 2, 7, 110, 2, 12), (1, 4, 5, 8, 130, 3, 18), (1, 4, 1, 7, 110, 3, 18), (1, 4, 1, 6, 90, 1, 6), (1, 4, 1, 6, 90, 1, 6), (1, 4, 1, 6, 90, 1, 6), (0, 4, 3, 0, 0, 0, 0), (0, 4, 1, 1, 22, 0, 0), (0, 4, 1, 1, 22, 0, 0), (0, 4, 1, 1, 22, 0, 0), (0, 4, 1, 0, 0, 0, 0), (0, 4, 2, 0, 0, 0, 0)]
def xnt2 : List xNu := [(0, 4, 3, 0, 0, 0, 0), (0, 4, 2, 5, 115, 0, 0), (0, 4, 3, 2, 43, 0, 0), (0, 4, 3, 4, 93, 0, 0), (0, 4, 3, 4, 93, 0, 0), (0, 5, 2, 0, 0, 0, 0), (0, 5, 3, 0, 0, 0, 0), (2, 5, 2, 8, 131, 2, 12), (2, 5, 1, 8, 157, 1, 6), (2, 5, 2, 8, 152, 1, 6), (2, 5, 3, 8, 154, 2, 12), (2, 5, 3, 8, 132, 2, 12), (2, 5, 3, 8, 153, 2, 12), (2, 5, 2, 8, 152, 1, 6), (2, 5, 2, 8, 131, 1, 6), (2, 5, 2, 8, 131, 1, 6), (2, 5, 3, 8, 153, 1, 6), (2, 5, 2, 10, 175, 3, 18), (2, 5, 3, 10, 176, 3, 18), (2, 5, 3, 10, 176, 3, 18), (2, 5, 4, 10, 177, 3, 18), (2, 5, 3, 10, 176, 3, 18), (2, 5, 4, 10, 177, 3, 18), (2, 5, 4, 10, 177, 3, 18), (2, 5, 3, 10, 176, 3, 18), (2, 5, 3, 10, 176, 3, 18), (2, 5, 1, 8, 130, 1, 6), (2, 5, 3, 8, 153, 2, 12), (2, 5, 3, 8, 138, 1, 6), (2, 5, 2, 8, 153, 1, 6), (2, 5, 3, 8, 136, 1, 6), (2, 5, 3, 8, 169, 2, 12), (2, 5, 3, 8, 158, 1, 6), (2, 5, 2, 8, 131, 1, 6), (2, 5, 2, 8, 131, 2, 12), (0, 5, 1, 9, 177, 400, 2400), (0, 5, 1, 11, 201, 1500, 9000), (0, 5, 1, 9, 177, 6000, 36000), (0, 5, 2, 11, 201, 5000, 30000), (0, 5, 3, 10, 201, 1000, 6000), (0, 5, 5, 9, 153, 8, 48), (0, 5, 2, 10, 177, 300, 1800), (0, 5, 3, 11, 201, 31, 186), (3, 5, 1, 13, 474, 600130, 7301079), (0, 6, 1, 0, 0, 0, 0)]
def xnu (k : Nat) : xNu :=
  if k < 50 then (xnt0[k - 0]?).getD (9, 0, 0, 0, 0, 0, 0) else if k < 100 then (xnt1[k - 50]?).getD (9, 0, 0, 0, 0, 0, 0) else (xnt2[k - 100]?).getD (9, 0, 0, 0, 0, 0, 0)
def xkd (k : Nat) : Nat := (xnu k).1
def xmk (k : Nat) : Nat := (xnu k).2.1
def xna (k : Nat) : Nat := (xnu k).2.2.1
def xmf (k : Nat) : Nat := (xnu k).2.2.2.1
def xmo (k : Nat) : Nat := (xnu k).2.2.2.2.1
def xmc (k : Nat) : Nat := (xnu k).2.2.2.2.2.1
def xms (k : Nat) : Nat := (xnu k).2.2.2.2.2.2
def xN : Nat := 145
def xwp : List Nat := [99, 104, 462, 352, 348, 335, 339, 344, 371, 375, 387, 561, 552, 557, 548, 544, 818, 640, 636, 632, 590, 356, 56, 882, 278, 291, 317, 331, 321, 301, 305, 309, 297, 283, 287, 218, 715, 910, 466, 93, 628, 677, 760, 764, 600, 565, 569, 586, 573, 578, 595, 604, 609, 613, 617, 621, 624, 48, 878, 930, 922, 274, 521, 668, 696, 684, 749, 660, 651, 756, 772, 703, 779, 786, 727, 742, 734, 793, 800, 906, 807, 814, 828, 914, 835, 842, 865, 475, 505, 707, 711, 481, 524, 390, 327, 324, 363, 478, 643, 359, 378, 847, 853, 857, 871, 264, 893, 874, 269, 516, 664, 692, 680, 745, 656, 647, 752, 768, 699, 775, 782, 723, 738, 730, 789, 796, 902, 803, 810, 824, 831, 838, 861, 470, 501, 511, 508, 885, 899, 918, 933, 926, 936, 0, 381]
/-- own class, entry, method, mode, three places in lw_tbl -/
def xct : List (Nat × Nat × Nat × Nat × Nat × Nat × Nat) := [(5, 224, 57, 2, 46, 47, 0), (4, 1, 0, 5, 49, 50, 51), (4, 9, 22, 4, 54, 55, 0), (1, 3, 0, 5, 57, 50, 51), (4, 18, 39, 4, 91, 92, 0), (3, 3, 0, 5, 94, 50, 51), (3, 11, 0, 2, 97, 98, 0), (0, 3, 0, 5, 100, 50, 51), (0, 36, 1, 0, 101, 102, 103), (0, 55, 0, 6, 107, 108, 109), (4, 38, 35, 2, 216, 217, 0), (2, 3, 0, 5, 219, 50, 51), (2, 17, 0, 2, 222, 98, 0), (4, 45, 0, 2, 235, 98, 0), (5, 225, 105, 1, 262, 263, 0), (5, 244, 108, 7, 267, 268, 0), (5, 23, 61, 0, 271, 272, 273), (4, 73, 24, 0, 275, 276, 277), (1, 19, 1, 0, 279, 102, 103), (1, 34, 33, 0, 280, 282, 0), (1, 93, 34, 0, 284, 286, 1), (1, 38, 25, 0, 288, 290, 2), (1, 61, 32, 0, 294, 296, 3), (1, 65, 29, 0, 298, 300, 4), (1, 73, 30, 0, 302, 304, 5), (1, 80, 31, 0, 306, 308, 6), (1, 69, 26, 0, 314, 316, 7), (1, 77, 28, 0, 318, 320, 8), (1, 89, 95, 3, 322, 323, 0), (4, 54, 94, 1, 325, 326, 0), (1, 83, 27, 0, 328, 330, 9), (1, 54, 5, 0, 332, 333, 334), (0, 65, 6, 0, 336, 337, 338), (0, 61, 94, 3, 341, 326, 0), (0, 73, 7, 1, 342, 343, 0), (0, 77, 4, 0, 345, 346, 347), (0, 81, 3, 0, 349, 350, 351), (0, 84, 21, 0, 353, 354, 355), (0, 88, 99, 3, 357, 358, 0), (0, 92, 95, 3, 360, 323, 0), (0, 95, 96, 3, 361, 362, 0), (0, 69, 8, 0, 368, 369, 370), (0, 104, 9, 0, 372, 374, 10), (0, 108, 100, 3, 376, 377, 0), (0, 112, 144, 1, 379, 380, 0), (0, 117, 10, 1, 385, 386, 0), (4, 66, 93, 1, 388, 389, 0), (4, 77, 2, 0, 459, 460, 461), (4, 81, 38, 0, 463, 464, 465), (5, 179, 133, 7, 468, 469, 0), (5, 107, 87, 0, 472, 473, 474), (4, 242, 97, 1, 476, 477, 0), (4, 126, 91, 1, 479, 480, 0), (5, 181, 134, 7, 499, 500, 0), (5, 110, 88, 0, 502, 503, 504), (5, 233, 136, 1, 506, 507, 0), (5, 133, 135, 1, 509, 510, 0), (5, 117, 109, 7, 514, 515, 0), (5, 27, 62, 0, 518, 519, 520), (4, 58, 92, 1, 522, 523, 0), (4, 99, 15, 0, 541, 542, 543), (0, 135, 14, 0, 545, 546, 547), (0, 132, 12, 0, 549, 550, 551), (0, 124, 13, 0, 554, 556, 12), (0, 128, 11, 0, 558, 559, 560), (4, 103, 45, 0, 562, 563, 564), (3, 81, 46, 0, 566, 568, 13), (3, 37, 48, 0, 570, 571, 572), (3, 114, 0, 6, 574, 108, 109), (3, 120, 49, 0, 575, 577, 14), (3, 56, 99, 3, 579, 358, 0), (3, 44, 0, 8, 580, 581, 582), (3, 100, 47, 0, 583, 585, 15), (3, 106, 20, 0, 587, 588, 589), (3, 109, 144, 1, 591, 380, 0), (3, 87, 50, 0, 592, 594, 16), (3, 135, 100, 3, 596, 377, 0), (3, 74, 44, 0, 597, 599, 17), (3, 139, 51, 0, 601, 603, 18), (3, 142, 95, 3, 605, 323, 0), (3, 91, 52, 0, 606, 608, 19), (3, 146, 53, 0, 610, 612, 20), (3, 150, 54, 0, 614, 616, 21), (3, 94, 55, 0, 618, 620, 22), (3, 153, 56, 1, 622, 623, 0), (4, 112, 40, 0, 625, 626, 627), (4, 116, 19, 0, 629, 630, 631), (4, 119, 18, 0, 633, 634, 635), (0, 147, 17, 0, 637, 638, 639), (0, 143, 98, 3, 641, 642, 0), (5, 122, 115, 7, 645, 646, 0), (5, 50, 68, 0, 648, 649, 650), (4, 203, 96, 1, 652, 362, 0), (5, 126, 114, 7, 654, 655, 0), (5, 47, 67, 0, 657, 658, 659), (4, 197, 95, 1, 661, 323, 0), (5, 128, 110, 7, 662, 663, 0), (5, 30, 63, 0, 665, 666, 667), (4, 122, 3, 0, 669, 350, 351), (4, 133, 11, 0, 670, 559, 560), (4, 137, 12, 0, 671, 550, 551), (4, 140, 14, 0, 672, 546, 547), (4, 144, 17, 0, 673, 638, 639), (4, 147, 41, 0, 674, 675, 676), (5, 131, 112, 7, 678, 679, 0), (5, 41, 65, 0, 681, 682, 683), (4, 150, 4, 0, 685, 346, 347), (4, 168, 20, 0, 686, 588, 589), (4, 171, 48, 0, 687, 571, 572), (4, 183, 21, 0, 688, 354, 355), (4, 186, 144, 1, 689, 380, 0), (5, 137, 111, 7, 690, 691, 0), (5, 38, 64, 0, 693, 694, 695), (5, 139, 118, 7, 697, 698, 0), (5, 59, 71, 0, 700, 701, 702), (4, 212, 89, 0, 704, 706, 23), (4, 245, 6, 0, 708, 337, 338), (4, 248, 90, 1, 709, 710, 0), (4, 252, 36, 0, 712, 713, 714), (2, 22, 2, 0, 716, 460, 461), (2, 29, 0, 9, 717, 718, 719), (4, 255, 8, 0, 720, 369, 370), (5, 141, 121, 7, 721, 722, 0), (5, 69, 74, 0, 724, 725, 726), (5, 143, 123, 7, 728, 729, 0), (5, 75, 76, 0, 731, 732, 733), (4, 216, 98, 1, 735, 642, 0), (5, 146, 122, 7, 736, 737, 0), (5, 72, 75, 0, 739, 740, 741), (5, 148, 113, 7, 743, 744, 0), (5, 44, 66, 0, 746, 747, 748), (5, 150, 116, 7, 750, 751, 0), (5, 53, 69, 0, 753, 754, 755), (4, 209, 42, 0, 757, 758, 759), (3, 60, 43, 0, 761, 763, 24), (3, 64, 98, 3, 765, 642, 0), (5, 152, 117, 7, 766, 767, 0), (5, 56, 70, 0, 769, 770, 771), (5, 154, 119, 7, 773, 774, 0), (5, 62, 72, 0, 776, 777, 778), (5, 156, 120, 7, 780, 781, 0), (5, 65, 73, 0, 783, 784, 785), (5, 158, 124, 7, 787, 788, 0), (5, 78, 77, 0, 790, 791, 792), (5, 160, 125, 7, 794, 795, 0), (5, 81, 78, 0, 797, 798, 799), (5, 162, 127, 7, 801, 802, 0), (5, 87, 80, 0, 804, 805, 806), (5, 164, 128, 7, 808, 809, 0), (5, 90, 81, 0, 811, 812, 813), (4, 226, 16, 0, 815, 816, 817), (0, 138, 0, 10, 819, 820, 821), (5, 166, 129, 7, 822, 823, 0), (5, 93, 82, 0, 825, 826, 827), (5, 168, 130, 7, 829, 830, 0), (5, 96, 84, 0, 832, 833, 834), (5, 170, 131, 7, 836, 837, 0), (5, 99, 85, 0, 839, 840, 841), (4, 231, 101, 0, 844, 846, 25), (4, 276, 5, 0, 849, 333, 334), (4, 280, 102, 0, 850, 852, 26), (4, 284, 103, 0, 854, 856, 27), (5, 176, 132, 7, 859, 860, 0), (5, 103, 86, 0, 862, 863, 864), (4, 238, 104, 0, 868, 870, 28), (5, 183, 107, 7, 872, 873, 0), (5, 9, 58, 0, 875, 876, 877), (4, 69, 23, 0, 879, 880, 881), (5, 237, 137, 1, 883, 884, 0), (5, 195, 106, 1, 891, 892, 0), (5, 249, 138, 1, 897, 898, 0), (5, 205, 126, 7, 900, 901, 0), (5, 84, 79, 0, 903, 904, 905), (4, 223, 37, 0, 907, 908, 909), (5, 207, 83, 0, 911, 912, 913), (5, 229, 139, 1, 916, 917, 0), (5, 212, 60, 0, 919, 920, 921), (5, 240, 141, 1, 924, 925, 0), (5, 217, 59, 0, 927, 928, 929), (5, 220, 140, 1, 931, 932, 0), (5, 246, 142, 1, 934, 935, 0)]
def xip : List Nat := [33, 31, 35, 32, 30, 29, 41, 40]
/-- own class, entry, class, field, place -/
def xft : List (Nat × Nat × Nat × Nat × Nat) := [(1, 9, 1, 0, 58), (1, 15, 1, 1, 59), (4, 62, 1, 1, 60), (1, 24, 1, 2, 61), (4, 84, 1, 2, 62), (1, 27, 1, 3, 63), (1, 30, 1, 4, 64), (1, 42, 1, 5, 65), (1, 45, 1, 6, 66), (1, 48, 1, 7, 67), (1, 51, 1, 8, 68), (0, 39, 0, 0, 110), (4, 87, 0, 0, 111), (0, 43, 0, 1, 112), (3, 40, 0, 1, 113), (4, 90, 0, 1, 114), (0, 46, 0, 2, 115), (1, 86, 0, 2, 116), (4, 93, 0, 2, 117), (0, 49, 0, 3, 118), (4, 96, 0, 3, 119), (0, 9, 0, 4, 120), (4, 129, 0, 4, 121), (0, 15, 0, 5, 122), (3, 103, 0, 5, 123), (4, 153, 0, 5, 124), (0, 18, 0, 6, 125), (3, 71, 0, 6, 126), (4, 156, 0, 6, 127), (0, 21, 0, 7, 128), (3, 68, 0, 7, 129), (4, 159, 0, 7, 130), (0, 24, 0, 8, 131), (3, 53, 0, 8, 132), (4, 162, 0, 8, 133), (0, 27, 0, 9, 134), (4, 165, 0, 9, 135), (3, 123, 0, 9, 136), (0, 30, 0, 10, 137), (4, 200, 0, 10, 138), (3, 132, 0, 10, 139), (0, 33, 0, 11, 140), (3, 78, 0, 11, 141), (4, 206, 0, 11, 142), (3, 12, 3, 0, 169), (4, 23, 3, 0, 170), (3, 18, 3, 1, 171), (4, 177, 3, 1, 172), (3, 22, 3, 2, 173), (4, 180, 3, 2, 174), (3, 25, 3, 3, 175), (4, 174, 3, 3, 176), (3, 28, 3, 4, 177), (3, 31, 3, 5, 178), (4, 194, 3, 5, 179), (3, 50, 3, 6, 180), (4, 191, 3, 6, 181), (4, 109, 3, 7, 182), (3, 97, 3, 7, 183), (4, 106, 3, 8, 184), (3, 84, 3, 8, 185), (3, 126, 3, 9, 186), (3, 129, 3, 10, 187), (3, 34, 3, 11, 188), (2, 11, 2, 0, 223), (2, 18, 2, 1, 224), (2, 26, 2, 2, 225), (4, 220, 2, 2, 226), (4, 10, 4, 0, 236), (4, 19, 4, 1, 237), (4, 27, 4, 2, 238), (4, 30, 4, 3, 239), (4, 33, 4, 4, 240), (4, 39, 4, 5, 241), (4, 46, 4, 6, 242), (4, 50, 4, 7, 243)]
/-- the static rows: own class, entry, which, place -/
def xst : List (Nat × Nat × Nat × Nat) := [(0, 52, 1, 105), (1, 58, 5, 292), (1, 97, 6, 310), (1, 100, 4, 312), (0, 98, 2, 364), (0, 101, 3, 366), (0, 121, 4, 553)]
def xci : List (Nat × Nat × Int32 × Nat) := [(5, 7, 15594227, 265), (5, 8, 2147483647, 266), (0, 72, 50000, 340), (6, 265, 1431655765, 382), (6, 266, 858993459, 383), (6, 267, 252645135, 384), (4, 275, 100000, 848)]
def xcl : List (Nat × Nat × Int64 × Nat) := [(5, 21, -9000000000000000003, 467), (5, 36, -9000000000000000001, 498), (5, 113, 127, 512), (5, 115, 31, 513), (5, 17, -9000000000000000002, 644), (5, 124, 97, 653), (4, 229, 1000000, 843), (5, 174, 1000000000000000000, 858), (4, 234, 6364136223846793005, 866), (4, 236, 1442695040888963407, 867), (5, 185, 6, 886), (5, 187, 48, 887), (5, 189, 144, 888), (5, 191, 2304, 889), (5, 193, -2303, 890), (5, 199, 2, 894), (5, 201, -1, 895), (5, 203, 1260, 896), (5, 210, 3, 915), (5, 215, 102030700000, 923)]
/-- class entries: own class, entry, class, places of the link and of instantiable -/
def xnw : List (Nat × Nat × Nat × Nat × Nat) := [(5, 10, 4, 44, 45), (4, 7, 1, 52, 53), (4, 16, 3, 89, 90), (3, 9, 0, 95, 96), (4, 36, 2, 214, 215), (2, 9, 0, 220, 96), (4, 43, 0, 234, 96)]
abbrev xcl0 : List vw_C := [(RX0, TX0, 12), (RX1, TX1, 9), (RX2, TX2, 3), (RX3, TX3, 12), (RX4, TX4, 8)]
def xcT (t : Nat) : vw_C := (xcl0[t]?).getD (RX0, TX0, 12)
def xty (t : Nat) : Nat → FieldType := match t with
  | 0 => tyX0
  | 1 => tyX1
  | 2 => tyX2
  | 3 => tyX3
  | _ => tyX4
/-- the static rows' names: 1 to 6 -/
def xsn (g : Nat) : String × String := match g with
  | 1 => ("FIRST_SETTING", "[I")
  | 2 => ("LEAST_SETTING", "[I")
  | 3 => ("MOST_SETTING", "[I")
  | 4 => ("GRAINS", "[I")
  | 5 => ("COMMAND_LETTERS", "[C")
  | _ => ("MEASURE_LETTERS", "[C")
