def RX0 : String := "SealOffice$Fields"
def TX0 : u_T := fun k => match k with
  | 0 => ("SealOffice$Fields", "kinds", "[I", true)
  | 1 => ("SealOffice$Fields", "subjects", "[I", true)
  | 2 => ("SealOffice$Fields", "held", "[Z", true)
  | _ => ("SealOffice$Fields", "many", "I", false)
def tyX0 : Nat → FieldType := fun k => match k with
  | 0 => .array .int
  | 1 => .array .int
  | 2 => .array .boolean
  | _ => .int
theorem nmX0 : ∀ a, a < 4 → ∀ b, b < 4 → a ≠ b → (TX0 a).2.1 ≠ (TX0 b).2.1 := by decide +kernel
theorem tyX0_ok : ∀ k, k < 4 → parseFieldDescriptor (TX0 k).2.2.1 = some (tyX0 k) := by decide +kernel
abbrev cX0_init : ByteArray := prog_2_method_1_code
def yX0_init : MethodName := ⟨RX0, "<init>", "()V"⟩
def RX1 : String := "SealOffice$Layout"
def TX1 : u_T := fun k => match k with
  | 0 => ("SealOffice$Layout", "width", "I", false)
  | 1 => ("SealOffice$Layout", "height", "I", false)
  | 2 => ("SealOffice$Layout", "blanks", "[Z", true)
  | 3 => ("SealOffice$Layout", "lineOfSign", "[I", true)
  | 4 => ("SealOffice$Layout", "signOfPlace", "[I", true)
  | 5 => ("SealOffice$Layout", "paragraphOfPlace", "[I", true)
  | 6 => ("SealOffice$Layout", "firstSign", "[I", true)
  | 7 => ("SealOffice$Layout", "firstLine", "[I", true)
  | 8 => ("SealOffice$Layout", "keeps", "[Z", true)
  | 9 => ("SealOffice$Layout", "pageOfLine", "[I", true)
  | 10 => ("SealOffice$Layout", "rowOfLine", "[I", true)
  | 11 => ("SealOffice$Layout", "signs", "I", false)
  | 12 => ("SealOffice$Layout", "ends", "I", false)
  | 13 => ("SealOffice$Layout", "lines", "I", false)
  | 14 => ("SealOffice$Layout", "page", "I", false)
  | _ => ("SealOffice$Layout", "used", "I", false)
def tyX1 : Nat → FieldType := fun k => match k with
  | 0 => .int
  | 1 => .int
  | 2 => .array .boolean
  | 3 => .array .int
  | 4 => .array .int
  | 5 => .array .int
  | 6 => .array .int
  | 7 => .array .int
  | 8 => .array .boolean
  | 9 => .array .int
  | 10 => .array .int
  | 11 => .int
  | 12 => .int
  | 13 => .int
  | 14 => .int
  | _ => .int
theorem nmX1 : ∀ a, a < 16 → ∀ b, b < 16 → a ≠ b → (TX1 a).2.1 ≠ (TX1 b).2.1 := by decide +kernel
theorem tyX1_ok : ∀ k, k < 16 → parseFieldDescriptor (TX1 k).2.2.1 = some (tyX1 k) := by decide +kernel
abbrev cX1_init : ByteArray := prog_3_method_1_code
def yX1_init : MethodName := ⟨RX1, "<init>", "()V"⟩
abbrev cX1_layOut : ByteArray := prog_3_method_3_code
def yX1_layOut : MethodName := ⟨RX1, "layOut", "(LSealOffice$Row;[ILSealOffice$Styles;)V"⟩
abbrev cX1_manyPages : ByteArray := prog_3_method_4_code
def yX1_manyPages : MethodName := ⟨RX1, "manyPages", "()I"⟩
abbrev cX1_pageAt : ByteArray := prog_3_method_5_code
def yX1_pageAt : MethodName := ⟨RX1, "pageAt", "(I)I"⟩
abbrev cX1_lineNumber : ByteArray := prog_3_method_7_code
def yX1_lineNumber : MethodName := ⟨RX1, "lineNumber", "(I)I"⟩
abbrev cX1_readSigns : ByteArray := prog_3_method_8_code
def yX1_readSigns : MethodName := ⟨RX1, "readSigns", "(LSealOffice$Row;[ILSealOffice$Styles;)V"⟩
abbrev cX1_closeParagraph : ByteArray := prog_3_method_9_code
def yX1_closeParagraph : MethodName := ⟨RX1, "closeParagraph", "(Z)V"⟩
abbrev cX1_addSigns : ByteArray := prog_3_method_10_code
def yX1_addSigns : MethodName := ⟨RX1, "addSigns", "(LSealOffice$Row;I[I)V"⟩
abbrev cX1_addSign : ByteArray := prog_3_method_11_code
def yX1_addSign : MethodName := ⟨RX1, "addSign", "(Z)V"⟩
abbrev cX1_breakLines : ByteArray := prog_3_method_12_code
def yX1_breakLines : MethodName := ⟨RX1, "breakLines", "()V"⟩
abbrev cX1_breakParagraph : ByteArray := prog_3_method_13_code
def yX1_breakParagraph : MethodName := ⟨RX1, "breakParagraph", "(II)V"⟩
abbrev cX1_endOfLine : ByteArray := prog_3_method_14_code
def yX1_endOfLine : MethodName := ⟨RX1, "endOfLine", "(II)I"⟩
abbrev cX1_fillPages : ByteArray := prog_3_method_15_code
def yX1_fillPages : MethodName := ⟨RX1, "fillPages", "()V"⟩
abbrev cX1_keepsAt : ByteArray := prog_3_method_16_code
def yX1_keepsAt : MethodName := ⟨RX1, "keepsAt", "(I)Z"⟩
abbrev cX1_linesTogether : ByteArray := prog_3_method_17_code
def yX1_linesTogether : MethodName := ⟨RX1, "linesTogether", "(I)I"⟩
abbrev cX1_turnPageFor : ByteArray := prog_3_method_18_code
def yX1_turnPageFor : MethodName := ⟨RX1, "turnPageFor", "(I)V"⟩
abbrev cX1_placeLine : ByteArray := prog_3_method_19_code
def yX1_placeLine : MethodName := ⟨RX1, "placeLine", "(I)V"⟩
def RX2 : String := "SealOffice$Log"
def TX2 : u_T := fun k => match k with
  | 0 => ("SealOffice$Log", "kinds", "[I", true)
  | 1 => ("SealOffice$Log", "authors", "[I", true)
  | 2 => ("SealOffice$Log", "states", "[I", true)
  | _ => ("SealOffice$Log", "many", "I", false)
def tyX2 : Nat → FieldType := fun k => match k with
  | 0 => .array .int
  | 1 => .array .int
  | 2 => .array .int
  | _ => .int
theorem nmX2 : ∀ a, a < 4 → ∀ b, b < 4 → a ≠ b → (TX2 a).2.1 ≠ (TX2 b).2.1 := by decide +kernel
theorem tyX2_ok : ∀ k, k < 4 → parseFieldDescriptor (TX2 k).2.2.1 = some (tyX2 k) := by decide +kernel
abbrev cX2_init : ByteArray := prog_4_method_1_code
def yX2_init : MethodName := ⟨RX2, "<init>", "()V"⟩
abbrev cX2_takeLog : ByteArray := prog_4_method_2_code
def yX2_takeLog : MethodName := ⟨RX2, "takeLog", "(LSealOffice$Log;)V"⟩
abbrev cX2_many : ByteArray := prog_4_method_3_code
def yX2_many : MethodName := ⟨RX2, "many", "()I"⟩
abbrev cX2_isFull : ByteArray := prog_4_method_4_code
def yX2_isFull : MethodName := ⟨RX2, "isFull", "()Z"⟩
abbrev cX2_enroll : ByteArray := prog_4_method_5_code
def yX2_enroll : MethodName := ⟨RX2, "enroll", "(CI)I"⟩
abbrev cX2_kind : ByteArray := prog_4_method_6_code
def yX2_kind : MethodName := ⟨RX2, "kind", "(I)C"⟩
abbrev cX2_author : ByteArray := prog_4_method_7_code
def yX2_author : MethodName := ⟨RX2, "author", "(I)I"⟩
abbrev cX2_state : ByteArray := prog_4_method_8_code
def yX2_state : MethodName := ⟨RX2, "state", "(I)C"⟩
abbrev cX2_setState : ByteArray := prog_4_method_9_code
def yX2_setState : MethodName := ⟨RX2, "setState", "(IC)V"⟩
abbrev cX2_isWaitingOf : ByteArray := prog_4_method_10_code
def yX2_isWaitingOf : MethodName := ⟨RX2, "isWaitingOf", "(II)Z"⟩
abbrev cX2_isAuthored : ByteArray := prog_4_method_11_code
def yX2_isAuthored : MethodName := ⟨RX2, "isAuthored", "()Z"⟩
def RX3 : String := "SealOffice$Numbers"
def TX3 : u_T := fun k => match k with
  | 0 => ("SealOffice$Numbers", "kinds", "[I", true)
  | 1 => ("SealOffice$Numbers", "legal", "[Z", true)
  | 2 => ("SealOffice$Numbers", "counts", "[I", true)
  | 3 => ("SealOffice$Numbers", "line", "[C", true)
  | _ => ("SealOffice$Numbers", "signs", "I", false)
def tyX3 : Nat → FieldType := fun k => match k with
  | 0 => .array .int
  | 1 => .array .boolean
  | 2 => .array .int
  | 3 => .array .char
  | _ => .int
theorem nmX3 : ∀ a, a < 5 → ∀ b, b < 5 → a ≠ b → (TX3 a).2.1 ≠ (TX3 b).2.1 := by decide +kernel
theorem tyX3_ok : ∀ k, k < 5 → parseFieldDescriptor (TX3 k).2.2.1 = some (tyX3 k) := by decide +kernel
abbrev cX3_init : ByteArray := prog_5_method_1_code
def yX3_init : MethodName := ⟨RX3, "<init>", "()V"⟩
def RX4 : String := "SealOffice$Paper"
def TX4 : u_T := fun k => match k with
  | 0 => ("SealOffice$Paper", "row", "LSealOffice$Row;", true)
  | 1 => ("SealOffice$Paper", "log", "LSealOffice$Log;", true)
  | _ => ("SealOffice$Paper", "results", "[I", true)
def tyX4 : Nat → FieldType := fun k => match k with
  | 0 => .object "SealOffice$Row"
  | 1 => .object "SealOffice$Log"
  | _ => .array .int
theorem nmX4 : ∀ a, a < 3 → ∀ b, b < 3 → a ≠ b → (TX4 a).2.1 ≠ (TX4 b).2.1 := by decide +kernel
theorem tyX4_ok : ∀ k, k < 3 → parseFieldDescriptor (TX4 k).2.2.1 = some (tyX4 k) := by decide +kernel
abbrev cX4_init : ByteArray := prog_6_method_1_code
def yX4_init : MethodName := ⟨RX4, "<init>", "()V"⟩
abbrev cX4_takeFrom : ByteArray := prog_6_method_2_code
def yX4_takeFrom : MethodName := ⟨RX4, "takeFrom", "(LSealOffice$Paper;)V"⟩
abbrev cX4_changeAhead : ByteArray := prog_6_method_4_code
def yX4_changeAhead : MethodName := ⟨RX4, "changeAhead", "(II)I"⟩
abbrev cX4_isOwn : ByteArray := prog_6_method_5_code
def yX4_isOwn : MethodName := ⟨RX4, "isOwn", "(II)Z"⟩
abbrev cX4_hasOthers : ByteArray := prog_6_method_6_code
def yX4_hasOthers : MethodName := ⟨RX4, "hasOthers", "(III)Z"⟩
abbrev cX4_strike : ByteArray := prog_6_method_7_code
def yX4_strike : MethodName := ⟨RX4, "strike", "(III)I"⟩
abbrev cX4_settle : ByteArray := prog_6_method_10_code
def yX4_settle : MethodName := ⟨RX4, "settle", "(IZ)I"⟩
abbrev cX4_settleUnits : ByteArray := prog_6_method_11_code
def yX4_settleUnits : MethodName := ⟨RX4, "settleUnits", "(IIZ)V"⟩
abbrev cX4_settleAll : ByteArray := prog_6_method_12_code
def yX4_settleAll : MethodName := ⟨RX4, "settleAll", "(IZ)I"⟩
def RX5 : String := "SealOffice$Past"
def TX5 : u_T := fun k => match k with
  | 0 => ("SealOffice$Past", "papers", "[LSealOffice$Paper;", true)
  | 1 => ("SealOffice$Past", "done", "I", false)
  | _ => ("SealOffice$Past", "undone", "I", false)
def tyX5 : Nat → FieldType := fun k => match k with
  | 0 => .array (.object "SealOffice$Paper")
  | 1 => .int
  | _ => .int
theorem nmX5 : ∀ a, a < 3 → ∀ b, b < 3 → a ≠ b → (TX5 a).2.1 ≠ (TX5 b).2.1 := by decide +kernel
theorem tyX5_ok : ∀ k, k < 3 → parseFieldDescriptor (TX5 k).2.2.1 = some (tyX5 k) := by decide +kernel
abbrev cX5_init : ByteArray := prog_7_method_1_code
def yX5_init : MethodName := ⟨RX5, "<init>", "()V"⟩
abbrev cX5_now : ByteArray := prog_7_method_2_code
def yX5_now : MethodName := ⟨RX5, "now", "()LSealOffice$Paper;"⟩
abbrev cX5_begin : ByteArray := prog_7_method_3_code
def yX5_begin : MethodName := ⟨RX5, "begin", "()LSealOffice$Paper;"⟩
abbrev cX5_forgetFirst : ByteArray := prog_7_method_4_code
def yX5_forgetFirst : MethodName := ⟨RX5, "forgetFirst", "()V"⟩
abbrev cX5_canGoBack : ByteArray := prog_7_method_5_code
def yX5_canGoBack : MethodName := ⟨RX5, "canGoBack", "()Z"⟩
abbrev cX5_canGoOn : ByteArray := prog_7_method_6_code
def yX5_canGoOn : MethodName := ⟨RX5, "canGoOn", "()Z"⟩
abbrev cX5_goBack : ByteArray := prog_7_method_7_code
def yX5_goBack : MethodName := ⟨RX5, "goBack", "()I"⟩
abbrev cX5_goOn : ByteArray := prog_7_method_8_code
def yX5_goOn : MethodName := ⟨RX5, "goOn", "()I"⟩
def RX6 : String := "SealOffice$Records"
def TX6 : u_T := fun k => match k with
  | 0 => ("SealOffice$Records", "values", "[I", true)
  | _ => ("SealOffice$Records", "chosen", "I", false)
def tyX6 : Nat → FieldType := fun k => match k with
  | 0 => .array .int
  | _ => .int
theorem nmX6 : ∀ a, a < 2 → ∀ b, b < 2 → a ≠ b → (TX6 a).2.1 ≠ (TX6 b).2.1 := by decide +kernel
theorem tyX6_ok : ∀ k, k < 2 → parseFieldDescriptor (TX6 k).2.2.1 = some (tyX6 k) := by decide +kernel
abbrev cX6_init : ByteArray := prog_8_method_1_code
def yX6_init : MethodName := ⟨RX6, "<init>", "()V"⟩
def RX7 : String := "SealOffice$Row"
def TX7 : u_T := fun k => match k with
  | 0 => ("SealOffice$Row", "facts", "[I", true)
  | 1 => ("SealOffice$Row", "begins", "[I", true)
  | 2 => ("SealOffice$Row", "stops", "[I", true)
  | _ => ("SealOffice$Row", "units", "I", false)
def tyX7 : Nat → FieldType := fun k => match k with
  | 0 => .array .int
  | 1 => .array .int
  | 2 => .array .int
  | _ => .int
theorem nmX7 : ∀ a, a < 4 → ∀ b, b < 4 → a ≠ b → (TX7 a).2.1 ≠ (TX7 b).2.1 := by decide +kernel
theorem tyX7_ok : ∀ k, k < 4 → parseFieldDescriptor (TX7 k).2.2.1 = some (tyX7 k) := by decide +kernel
abbrev cX7_init : ByteArray := prog_9_method_1_code
def yX7_init : MethodName := ⟨RX7, "<init>", "()V"⟩
abbrev cX7_takeRow : ByteArray := prog_9_method_2_code
def yX7_takeRow : MethodName := ⟨RX7, "takeRow", "(LSealOffice$Row;)V"⟩
abbrev cX7_fact : ByteArray := prog_9_method_3_code
def yX7_fact : MethodName := ⟨RX7, "fact", "(II)I"⟩
abbrev cX7_setFact : ByteArray := prog_9_method_4_code
def yX7_setFact : MethodName := ⟨RX7, "setFact", "(III)V"⟩
abbrev cX7_allUnits : ByteArray := prog_9_method_5_code
def yX7_allUnits : MethodName := ⟨RX7, "allUnits", "()I"⟩
abbrev cX7_isSeen : ByteArray := prog_9_method_6_code
def yX7_isSeen : MethodName := ⟨RX7, "isSeen", "(I)Z"⟩
abbrev cX7_isOld : ByteArray := prog_9_method_7_code
def yX7_isOld : MethodName := ⟨RX7, "isOld", "(I)Z"⟩
abbrev cX7_isSeenEnd : ByteArray := prog_9_method_8_code
def yX7_isSeenEnd : MethodName := ⟨RX7, "isSeenEnd", "(I)Z"⟩
abbrev cX7_indexOf : ByteArray := prog_9_method_9_code
def yX7_indexOf : MethodName := ⟨RX7, "indexOf", "(I)I"⟩
abbrev cX7_indexOfOld : ByteArray := prog_9_method_10_code
def yX7_indexOfOld : MethodName := ⟨RX7, "indexOfOld", "(I)I"⟩
abbrev cX7_endFrom : ByteArray := prog_9_method_12_code
def yX7_endFrom : MethodName := ⟨RX7, "endFrom", "(I)I"⟩
abbrev cX7_placeOf : ByteArray := prog_9_method_13_code
def yX7_placeOf : MethodName := ⟨RX7, "placeOf", "(I)I"⟩
abbrev cX7_endsAhead : ByteArray := prog_9_method_14_code
def yX7_endsAhead : MethodName := ⟨RX7, "endsAhead", "(I)I"⟩
abbrev cX7_seenUnits : ByteArray := prog_9_method_16_code
def yX7_seenUnits : MethodName := ⟨RX7, "seenUnits", "()I"⟩
abbrev cX7_seenParagraphs : ByteArray := prog_9_method_17_code
def yX7_seenParagraphs : MethodName := ⟨RX7, "seenParagraphs", "()I"⟩
abbrev cX7_oldUnits : ByteArray := prog_9_method_18_code
def yX7_oldUnits : MethodName := ⟨RX7, "oldUnits", "()I"⟩
abbrev cX7_waitingUnits : ByteArray := prog_9_method_19_code
def yX7_waitingUnits : MethodName := ⟨RX7, "waitingUnits", "()I"⟩
abbrev cX7_concerned : ByteArray := prog_9_method_20_code
def yX7_concerned : MethodName := ⟨RX7, "concerned", "(I)I"⟩
abbrev cX7_isGuarded : ByteArray := prog_9_method_21_code
def yX7_isGuarded : MethodName := ⟨RX7, "isGuarded", "(II)Z"⟩
abbrev cX7_putUnit : ByteArray := prog_9_method_22_code
def yX7_putUnit : MethodName := ⟨RX7, "putUnit", "(ICII)V"⟩
abbrev cX7_makeRoom : ByteArray := prog_9_method_23_code
def yX7_makeRoom : MethodName := ⟨RX7, "makeRoom", "(I)V"⟩
abbrev cX7_drop : ByteArray := prog_9_method_24_code
def yX7_drop : MethodName := ⟨RX7, "drop", "(I)V"⟩
abbrev cX7_dropSeen : ByteArray := prog_9_method_25_code
def yX7_dropSeen : MethodName := ⟨RX7, "dropSeen", "(II)V"⟩
abbrev cX7_dropAll : ByteArray := prog_9_method_26_code
def yX7_dropAll : MethodName := ⟨RX7, "dropAll", "(II)V"⟩
abbrev cX7_releaseAll : ByteArray := prog_9_method_27_code
def yX7_releaseAll : MethodName := ⟨RX7, "releaseAll", "(II)V"⟩
abbrev cX7_settleStyle : ByteArray := prog_9_method_28_code
def yX7_settleStyle : MethodName := ⟨RX7, "settleStyle", "(IZ)V"⟩
abbrev cX7_hasBookmark : ByteArray := prog_9_method_30_code
def yX7_hasBookmark : MethodName := ⟨RX7, "hasBookmark", "(I)Z"⟩
abbrev cX7_bookmarkBegin : ByteArray := prog_9_method_31_code
def yX7_bookmarkBegin : MethodName := ⟨RX7, "bookmarkBegin", "(I)I"⟩
abbrev cX7_bookmarkEnd : ByteArray := prog_9_method_32_code
def yX7_bookmarkEnd : MethodName := ⟨RX7, "bookmarkEnd", "(I)I"⟩
abbrev cX7_areBookmarksOrdered : ByteArray := prog_9_method_33_code
def yX7_areBookmarksOrdered : MethodName := ⟨RX7, "areBookmarksOrdered", "()Z"⟩
abbrev cX7_isTextOf : ByteArray := prog_9_method_34_code
def yX7_isTextOf : MethodName := ⟨RX7, "isTextOf", "(LSealOffice$Row;Z)Z"⟩
def RX8 : String := "SealOffice$Styles"
def TX8 : u_T := fun k => match k with
  | 0 => ("SealOffice$Styles", "parents", "[I", true)
  | 1 => ("SealOffice$Styles", "turns", "[I", true)
  | 2 => ("SealOffice$Styles", "keeps", "[I", true)
  | _ => ("SealOffice$Styles", "many", "I", false)
def tyX8 : Nat → FieldType := fun k => match k with
  | 0 => .array .int
  | 1 => .array .int
  | 2 => .array .int
  | _ => .int
theorem nmX8 : ∀ a, a < 4 → ∀ b, b < 4 → a ≠ b → (TX8 a).2.1 ≠ (TX8 b).2.1 := by decide +kernel
theorem tyX8_ok : ∀ k, k < 4 → parseFieldDescriptor (TX8 k).2.2.1 = some (tyX8 k) := by decide +kernel
abbrev cX8_init : ByteArray := prog_10_method_1_code
def yX8_init : MethodName := ⟨RX8, "<init>", "()V"⟩
abbrev cX8_keepsWithNext : ByteArray := prog_10_method_6_code
def yX8_keepsWithNext : MethodName := ⟨RX8, "keepsWithNext", "(I)Z"⟩
def RX9 : String := "SealOffice"
def TX9 : u_T := fun k => match k with
  | 0 => ("SealOffice", "isTracked", "Z", false)
  | 1 => ("SealOffice", "past", "LSealOffice$Past;", true)
  | 2 => ("SealOffice", "trial", "LSealOffice$Paper;", true)
  | 3 => ("SealOffice", "styles", "LSealOffice$Styles;", true)
  | 4 => ("SealOffice", "numbers", "LSealOffice$Numbers;", true)
  | 5 => ("SealOffice", "fields", "LSealOffice$Fields;", true)
  | 6 => ("SealOffice", "records", "LSealOffice$Records;", true)
  | 7 => ("SealOffice", "layout", "LSealOffice$Layout;", true)
  | _ => ("SealOffice", "keptResults", "[I", true)
def tyX9 : Nat → FieldType := fun k => match k with
  | 0 => .boolean
  | 1 => .object "SealOffice$Past"
  | 2 => .object "SealOffice$Paper"
  | 3 => .object "SealOffice$Styles"
  | 4 => .object "SealOffice$Numbers"
  | 5 => .object "SealOffice$Fields"
  | 6 => .object "SealOffice$Records"
  | 7 => .object "SealOffice$Layout"
  | _ => .array .int
theorem nmX9 : ∀ a, a < 9 → ∀ b, b < 9 → a ≠ b → (TX9 a).2.1 ≠ (TX9 b).2.1 := by decide +kernel
theorem tyX9_ok : ∀ k, k < 9 → parseFieldDescriptor (TX9 k).2.2.1 = some (tyX9 k) := by decide +kernel
abbrev cX9_init : ByteArray := prog_1_method_1_code
def yX9_init : MethodName := ⟨RX9, "<init>", "()V"⟩
abbrev cX9_setTracking : ByteArray := prog_1_method_2_code
def yX9_setTracking : MethodName := ⟨RX9, "setTracking", "(Z)Z"⟩
abbrev cX9_insert : ByteArray := prog_1_method_3_code
def yX9_insert : MethodName := ⟨RX9, "insert", "(IIC)I"⟩
abbrev cX9_erase : ByteArray := prog_1_method_5_code
def yX9_erase : MethodName := ⟨RX9, "erase", "(III)I"⟩
abbrev cX9_undo : ByteArray := prog_1_method_8_code
def yX9_undo : MethodName := ⟨RX9, "undo", "()I"⟩
abbrev cX9_redo : ByteArray := prog_1_method_9_code
def yX9_redo : MethodName := ⟨RX9, "redo", "()I"⟩
abbrev cX9_length : ByteArray := prog_1_method_10_code
def yX9_length : MethodName := ⟨RX9, "length", "()I"⟩
abbrev cX9_unitAt : ByteArray := prog_1_method_11_code
def yX9_unitAt : MethodName := ⟨RX9, "unitAt", "(I)C"⟩
abbrev cX9_oldLength : ByteArray := prog_1_method_12_code
def yX9_oldLength : MethodName := ⟨RX9, "oldLength", "()I"⟩
abbrev cX9_oldAt : ByteArray := prog_1_method_13_code
def yX9_oldAt : MethodName := ⟨RX9, "oldAt", "(I)C"⟩
abbrev cX9_paragraphs : ByteArray := prog_1_method_14_code
def yX9_paragraphs : MethodName := ⟨RX9, "paragraphs", "()I"⟩
abbrev cX9_paragraphOf : ByteArray := prog_1_method_15_code
def yX9_paragraphOf : MethodName := ⟨RX9, "paragraphOf", "(I)I"⟩
abbrev cX9_changes : ByteArray := prog_1_method_17_code
def yX9_changes : MethodName := ⟨RX9, "changes", "()I"⟩
abbrev cX9_authorOf : ByteArray := prog_1_method_19_code
def yX9_authorOf : MethodName := ⟨RX9, "authorOf", "(I)I"⟩
abbrev cX9_stateOf : ByteArray := prog_1_method_20_code
def yX9_stateOf : MethodName := ⟨RX9, "stateOf", "(I)C"⟩
abbrev cX9_unitsOf : ByteArray := prog_1_method_21_code
def yX9_unitsOf : MethodName := ⟨RX9, "unitsOf", "(I)I"⟩
abbrev cX9_changeAt : ByteArray := prog_1_method_22_code
def yX9_changeAt : MethodName := ⟨RX9, "changeAt", "(I)I"⟩
abbrev cX9_accept : ByteArray := prog_1_method_23_code
def yX9_accept : MethodName := ⟨RX9, "accept", "(I)I"⟩
abbrev cX9_refuse : ByteArray := prog_1_method_24_code
def yX9_refuse : MethodName := ⟨RX9, "refuse", "(I)I"⟩
abbrev cX9_judge : ByteArray := prog_1_method_25_code
def yX9_judge : MethodName := ⟨RX9, "judge", "(IZ)I"⟩
abbrev cX9_pages : ByteArray := prog_1_method_46_code
def yX9_pages : MethodName := ⟨RX9, "pages", "()I"⟩
abbrev cX9_waitingShare : ByteArray := prog_1_method_49_code
def yX9_waitingShare : MethodName := ⟨RX9, "waitingShare", "()F"⟩
abbrev cX9_isSound : ByteArray := prog_1_method_53_code
def yX9_isSound : MethodName := ⟨RX9, "isSound", "()Z"⟩
abbrev cX9_isWithin : ByteArray := prog_1_method_54_code
def yX9_isWithin : MethodName := ⟨RX9, "isWithin", "(II)Z"⟩
abbrev cX9_cell : ByteArray := prog_1_method_55_code
def yX9_cell : MethodName := ⟨RX9, "cell", "([II)I"⟩
abbrev cX9_setCell : ByteArray := prog_1_method_56_code
def yX9_setCell : MethodName := ⟨RX9, "setCell", "([III)V"⟩
abbrev cX9_isLetter : ByteArray := prog_1_method_57_code
def yX9_isLetter : MethodName := ⟨RX9, "isLetter", "(C)Z"⟩
abbrev cX9_checkAuthor : ByteArray := prog_1_method_59_code
def yX9_checkAuthor : MethodName := ⟨RX9, "checkAuthor", "(I)V"⟩
abbrev cX9_checkChange : ByteArray := prog_1_method_63_code
def yX9_checkChange : MethodName := ⟨RX9, "checkChange", "(I)V"⟩
abbrev cX9_checkWaiting : ByteArray := prog_1_method_64_code
def yX9_checkWaiting : MethodName := ⟨RX9, "checkWaiting", "(I)V"⟩
abbrev cX9_checkUnguarded : ByteArray := prog_1_method_65_code
def yX9_checkUnguarded : MethodName := ⟨RX9, "checkUnguarded", "(I)V"⟩
abbrev cX9_checkWriting : ByteArray := prog_1_method_66_code
def yX9_checkWriting : MethodName := ⟨RX9, "checkWriting", "(II)V"⟩
abbrev cX9_indexOfPlace : ByteArray := prog_1_method_67_code
def yX9_indexOfPlace : MethodName := ⟨RX9, "indexOfPlace", "(I)I"⟩
abbrev cX9_indexOfUnit : ByteArray := prog_1_method_68_code
def yX9_indexOfUnit : MethodName := ⟨RX9, "indexOfUnit", "(I)I"⟩
abbrev cX9_write : ByteArray := prog_1_method_70_code
def yX9_write : MethodName := ⟨RX9, "write", "(IICI)I"⟩
abbrev cX9_arrange : ByteArray := prog_1_method_71_code
def yX9_arrange : MethodName := ⟨RX9, "arrange", "()V"⟩
abbrev cX9_isJudgedSoundly : ByteArray := prog_1_method_77_code
def yX9_isJudgedSoundly : MethodName := ⟨RX9, "isJudgedSoundly", "(ZZ)Z"⟩
abbrev cX9_isEachPlaceOnPage : ByteArray := prog_1_method_78_code
def yX9_isEachPlaceOnPage : MethodName := ⟨RX9, "isEachPlaceOnPage", "()Z"⟩
def RX10 : String := "SealOfficeLaw$Desk"
def TX10 : u_T := fun k => match k with
  | 0 => ("SealOfficeLaw$Desk", "now", "LSealOfficeLaw$Doc;", false)
  | 1 => ("SealOfficeLaw$Desk", "before", "[LSealOfficeLaw$Doc;", true)
  | 2 => ("SealOfficeLaw$Desk", "undos", "I", false)
  | 3 => ("SealOfficeLaw$Desk", "behind", "[LSealOfficeLaw$Doc;", true)
  | 4 => ("SealOfficeLaw$Desk", "redos", "I", false)
  | _ => ("SealOfficeLaw$Desk", "isTracked", "Z", false)
def tyX10 : Nat → FieldType := fun k => match k with
  | 0 => .object "SealOfficeLaw$Doc"
  | 1 => .array (.object "SealOfficeLaw$Doc")
  | 2 => .int
  | 3 => .array (.object "SealOfficeLaw$Doc")
  | 4 => .int
  | _ => .boolean
theorem nmX10 : ∀ a, a < 6 → ∀ b, b < 6 → a ≠ b → (TX10 a).2.1 ≠ (TX10 b).2.1 := by decide +kernel
theorem tyX10_ok : ∀ k, k < 6 → parseFieldDescriptor (TX10 k).2.2.1 = some (tyX10 k) := by decide +kernel
abbrev cX10_init : ByteArray := prog_12_method_1_code
def yX10_init : MethodName := ⟨RX10, "<init>", "()V"⟩
abbrev cX10_edit : ByteArray := prog_12_method_2_code
def yX10_edit : MethodName := ⟨RX10, "edit", "()V"⟩
def RX11 : String := "SealOfficeLaw$Doc"
def TX11 : u_T := fun k => match k with
  | 0 => ("SealOfficeLaw$Doc", "many", "I", false)
  | 1 => ("SealOfficeLaw$Doc", "unit", "[LSealOfficeLaw$Unit;", true)
  | 2 => ("SealOfficeLaw$Doc", "changes", "I", false)
  | 3 => ("SealOfficeLaw$Doc", "author", "[I", true)
  | _ => ("SealOfficeLaw$Doc", "state", "[C", true)
def tyX11 : Nat → FieldType := fun k => match k with
  | 0 => .int
  | 1 => .array (.object "SealOfficeLaw$Unit")
  | 2 => .int
  | 3 => .array .int
  | _ => .array .char
theorem nmX11 : ∀ a, a < 5 → ∀ b, b < 5 → a ≠ b → (TX11 a).2.1 ≠ (TX11 b).2.1 := by decide +kernel
theorem tyX11_ok : ∀ k, k < 5 → parseFieldDescriptor (TX11 k).2.2.1 = some (tyX11 k) := by decide +kernel
abbrev cX11_init : ByteArray := prog_13_method_1_code
def yX11_init : MethodName := ⟨RX11, "<init>", "()V"⟩
abbrev cX11_copy : ByteArray := prog_13_method_2_code
def yX11_copy : MethodName := ⟨RX11, "copy", "()LSealOfficeLaw$Doc;"⟩
abbrev cX11_length : ByteArray := prog_13_method_3_code
def yX11_length : MethodName := ⟨RX11, "length", "()I"⟩
abbrev cX11_at : ByteArray := prog_13_method_4_code
def yX11_at : MethodName := ⟨RX11, "at", "(I)I"⟩
abbrev cX11_change : ByteArray := prog_13_method_5_code
def yX11_change : MethodName := ⟨RX11, "change", "(I)I"⟩
abbrev cX11_write : ByteArray := prog_13_method_6_code
def yX11_write : MethodName := ⟨RX11, "write", "(IICZ)I"⟩
abbrev cX11_drop : ByteArray := prog_13_method_7_code
def yX11_drop : MethodName := ⟨RX11, "drop", "(I)V"⟩
abbrev cX11_erase : ByteArray := prog_13_method_8_code
def yX11_erase : MethodName := ⟨RX11, "erase", "(IIIZ)I"⟩
abbrev cX11_units : ByteArray := prog_13_method_9_code
def yX11_units : MethodName := ⟨RX11, "units", "(I)I"⟩
abbrev cX11_judge : ByteArray := prog_13_method_10_code
def yX11_judge : MethodName := ⟨RX11, "judge", "(IZ)I"⟩
def RX12 : String := "SealOfficeLaw$Unit"
def TX12 : u_T := fun k => match k with
  | 0 => ("SealOfficeLaw$Unit", "letter", "C", true)
  | 1 => ("SealOfficeLaw$Unit", "writer", "I", false)
  | _ => ("SealOfficeLaw$Unit", "eraser", "I", false)
def tyX12 : Nat → FieldType := fun k => match k with
  | 0 => .char
  | 1 => .int
  | _ => .int
theorem nmX12 : ∀ a, a < 3 → ∀ b, b < 3 → a ≠ b → (TX12 a).2.1 ≠ (TX12 b).2.1 := by decide +kernel
theorem tyX12_ok : ∀ k, k < 3 → parseFieldDescriptor (TX12 k).2.2.1 = some (tyX12 k) := by decide +kernel
abbrev cX12_init : ByteArray := prog_14_method_1_code
def yX12_init : MethodName := ⟨RX12, "<init>", "(CI)V"⟩
abbrev cX12_copy : ByteArray := prog_14_method_2_code
def yX12_copy : MethodName := ⟨RX12, "copy", "()LSealOfficeLaw$Unit;"⟩
def RX13 : String := "SealOfficeModel"
def TX13 : u_T := fun k => match k with
  | _ => ("", "", "", false)
def tyX13 : Nat → FieldType := fun k => match k with
  | _ => .int
theorem nmX13 : ∀ a, a < 0 → ∀ b, b < 0 → a ≠ b → (TX13 a).2.1 ≠ (TX13 b).2.1 := by decide +kernel
theorem tyX13_ok : ∀ k, k < 0 → parseFieldDescriptor (TX13 k).2.2.1 = some (tyX13 k) := by decide +kernel
def RJx145de : String := "java/io/Serializable"
def TJx145de : u_T := fun k => match k with
  | _ => ("", "", "", false)
def tyJx145de : Nat → FieldType := fun k => match k with
  | _ => .int
theorem nmJx145de : ∀ a, a < 0 → ∀ b, b < 0 → a ≠ b → (TJx145de a).2.1 ≠ (TJx145de b).2.1 := by decide +kernel
theorem tyJx145de_ok : ∀ k, k < 0 → parseFieldDescriptor (TJx145de k).2.2.1 = some (tyJx145de k) := by decide +kernel
def RJx9f9b0 : String := "java/lang/CharSequence"
def TJx9f9b0 : u_T := fun k => match k with
  | _ => ("", "", "", false)
def tyJx9f9b0 : Nat → FieldType := fun k => match k with
  | _ => .int
theorem nmJx9f9b0 : ∀ a, a < 0 → ∀ b, b < 0 → a ≠ b → (TJx9f9b0 a).2.1 ≠ (TJx9f9b0 b).2.1 := by decide +kernel
theorem tyJx9f9b0_ok : ∀ k, k < 0 → parseFieldDescriptor (TJx9f9b0 k).2.2.1 = some (tyJx9f9b0 k) := by decide +kernel
def RJxb160c : String := "java/lang/Comparable"
def TJxb160c : u_T := fun k => match k with
  | _ => ("", "", "", false)
def tyJxb160c : Nat → FieldType := fun k => match k with
  | _ => .int
theorem nmJxb160c : ∀ a, a < 0 → ∀ b, b < 0 → a ≠ b → (TJxb160c a).2.1 ≠ (TJxb160c b).2.1 := by decide +kernel
theorem tyJxb160c_ok : ∀ k, k < 0 → parseFieldDescriptor (TJxb160c k).2.2.1 = some (tyJxb160c k) := by decide +kernel
def RJ9 : String := "java/lang/Math"
def TJ9 : u_T := fun k => match k with
  | _ => ("", "", "", false)
def tyJ9 : Nat → FieldType := fun k => match k with
  | _ => .int
theorem nmJ9 : ∀ a, a < 0 → ∀ b, b < 0 → a ≠ b → (TJ9 a).2.1 ≠ (TJ9 b).2.1 := by decide +kernel
theorem tyJ9_ok : ∀ k, k < 0 → parseFieldDescriptor (TJ9 k).2.2.1 = some (tyJ9 k) := by decide +kernel
abbrev cJ9_min_7cf53 : ByteArray := prog_24_method_69_code
def yJ9_min_7cf53 : MethodName := ⟨RJ9, "min", "(II)I"⟩
def RJ0 : String := "java/lang/String"
def TJ0 : u_T := fun k => match k with
  | _ => ("", "", "", false)
def tyJ0 : Nat → FieldType := fun k => match k with
  | _ => .int
theorem nmJ0 : ∀ a, a < 0 → ∀ b, b < 0 → a ≠ b → (TJ0 a).2.1 ≠ (TJ0 b).2.1 := by decide +kernel
theorem tyJ0_ok : ∀ k, k < 0 → parseFieldDescriptor (TJ0 k).2.2.1 = some (tyJ0 k) := by decide +kernel
abbrev cJ0_charAt_5068e : ByteArray := prog_26_method_56_code
def yJ0_charAt_5068e : MethodName := ⟨RJ0, "charAt", "(I)C"⟩
abbrev cJ0_isLatin1_aae02 : ByteArray := prog_26_method_154_code
def yJ0_isLatin1_aae02 : MethodName := ⟨RJ0, "isLatin1", "()Z"⟩
abbrev cJ0_checkIndex_df160 : ByteArray := prog_26_method_155_code
def yJ0_checkIndex_df160 : MethodName := ⟨RJ0, "checkIndex", "(II)V"⟩
def RJ1 : String := "java/lang/StringLatin1"
def TJ1 : u_T := fun k => match k with
  | _ => ("", "", "", false)
def tyJ1 : Nat → FieldType := fun k => match k with
  | _ => .int
theorem nmJ1 : ∀ a, a < 0 → ∀ b, b < 0 → a ≠ b → (TJ1 a).2.1 ≠ (TJ1 b).2.1 := by decide +kernel
theorem tyJ1_ok : ∀ k, k < 0 → parseFieldDescriptor (TJ1 k).2.2.1 = some (tyJ1 k) := by decide +kernel
abbrev cJ1_charAt_3b067 : ByteArray := prog_27_method_2_code
def yJ1_charAt_3b067 : MethodName := ⟨RJ1, "charAt", "([BI)C"⟩
def RJ2 : String := "java/lang/StringUTF16"
def TJ2 : u_T := fun k => match k with
  | _ => ("", "", "", false)
def tyJ2 : Nat → FieldType := fun k => match k with
  | _ => .int
theorem nmJ2 : ∀ a, a < 0 → ∀ b, b < 0 → a ≠ b → (TJ2 a).2.1 ≠ (TJ2 b).2.1 := by decide +kernel
theorem tyJ2_ok : ∀ k, k < 0 → parseFieldDescriptor (TJ2 k).2.2.1 = some (tyJ2 k) := by decide +kernel
abbrev cJ2_getChar_3b067 : ByteArray := prog_28_method_5_code
def yJ2_getChar_3b067 : MethodName := ⟨RJ2, "getChar", "([BI)C"⟩
abbrev cJ2_length_9d52b : ByteArray := prog_28_method_6_code
def yJ2_length_9d52b : MethodName := ⟨RJ2, "length", "([B)I"⟩
abbrev cJ2_charAt_3b067 : ByteArray := prog_28_method_83_code
def yJ2_charAt_3b067 : MethodName := ⟨RJ2, "charAt", "([BI)C"⟩
abbrev cJ2_checkIndex_2214a : ByteArray := prog_28_method_91_code
def yJ2_checkIndex_2214a : MethodName := ⟨RJ2, "checkIndex", "(I[B)V"⟩
def RJ10 : String := "java/lang/System"
def TJ10 : u_T := fun k => match k with
  | _ => ("", "", "", false)
def tyJ10 : Nat → FieldType := fun k => match k with
  | _ => .int
theorem nmJ10 : ∀ a, a < 0 → ∀ b, b < 0 → a ≠ b → (TJ10 a).2.1 ≠ (TJ10 b).2.1 := by decide +kernel
theorem tyJ10_ok : ∀ k, k < 0 → parseFieldDescriptor (TJ10 k).2.2.1 = some (tyJ10 k) := by decide +kernel
def RJxfd54e : String := "java/lang/constant/Constable"
def TJxfd54e : u_T := fun k => match k with
  | _ => ("", "", "", false)
def tyJxfd54e : Nat → FieldType := fun k => match k with
  | _ => .int
theorem nmJxfd54e : ∀ a, a < 0 → ∀ b, b < 0 → a ≠ b → (TJxfd54e a).2.1 ≠ (TJxfd54e b).2.1 := by decide +kernel
theorem tyJxfd54e_ok : ∀ k, k < 0 → parseFieldDescriptor (TJxfd54e k).2.2.1 = some (tyJxfd54e k) := by decide +kernel
def RJx3cf43 : String := "java/lang/constant/ConstantDesc"
def TJx3cf43 : u_T := fun k => match k with
  | _ => ("", "", "", false)
def tyJx3cf43 : Nat → FieldType := fun k => match k with
  | _ => .int
theorem nmJx3cf43 : ∀ a, a < 0 → ∀ b, b < 0 → a ≠ b → (TJx3cf43 a).2.1 ≠ (TJx3cf43 b).2.1 := by decide +kernel
theorem tyJx3cf43_ok : ∀ k, k < 0 → parseFieldDescriptor (TJx3cf43 k).2.2.1 = some (tyJx3cf43 k) := by decide +kernel
def RJ3 : String := "jdk/internal/util/Preconditions"
def TJ3 : u_T := fun k => match k with
  | _ => ("", "", "", false)
def tyJ3 : Nat → FieldType := fun k => match k with
  | _ => .int
theorem nmJ3 : ∀ a, a < 0 → ∀ b, b < 0 → a ≠ b → (TJ3 a).2.1 ≠ (TJ3 b).2.1 := by decide +kernel
theorem tyJ3_ok : ∀ k, k < 0 → parseFieldDescriptor (TJ3 k).2.2.1 = some (tyJ3 k) := by decide +kernel
abbrev cJ3_checkIndex_8e157 : ByteArray := prog_35_method_11_code
def yJ3_checkIndex_8e157 : MethodName := ⟨RJ3, "checkIndex", "(IILjava/util/function/BiFunction;)I"⟩
def RL : String := "SealOfficeLaw"
abbrev cL_cell : ByteArray := method_2_code
def yL_cell : MethodName := ⟨RL, "cell", "([II)I"⟩
abbrev cL_low : ByteArray := method_3_code
def yL_low : MethodName := ⟨RL, "low", "(II)I"⟩
abbrev cL_undoes : ByteArray := method_4_code
def yL_undoes : MethodName := ⟨RL, "undoes", "(LSealOffice;LSealOfficeLaw$Desk;)Z"⟩
abbrev cL_redoes : ByteArray := method_5_code
def yL_redoes : MethodName := ⟨RL, "redoes", "(LSealOffice;LSealOfficeLaw$Desk;)Z"⟩
abbrev cL_judges : ByteArray := method_6_code
def yL_judges : MethodName := ⟨RL, "judges", "(LSealOffice;LSealOfficeLaw$Desk;I)Z"⟩
abbrev cL_acts : ByteArray := method_7_code
def yL_acts : MethodName := ⟨RL, "acts", "(LSealOffice;LSealOfficeLaw$Desk;I)Z"⟩
abbrev cL_agrees : ByteArray := method_8_code
def yL_agrees : MethodName := ⟨RL, "agrees", "(LSealOffice;LSealOfficeLaw$Desk;)Z"⟩
abbrev cL_changeAt : ByteArray := method_9_code
def yL_changeAt : MethodName := ⟨RL, "changeAt", "(LSealOffice;I)I"⟩
abbrev cL_isLeft : ByteArray := method_10_code
def yL_isLeft : MethodName := ⟨RL, "isLeft", "(LSealOffice;LSealOfficeLaw$Desk;Z)Z"⟩
abbrev cL_law : ByteArray := code
def yL_law : MethodName := ⟨RL, "law", "([I)Z"⟩
/-- the classes whose objects the world holds -/
abbrev vwc : List vw_C := [(RX0, TX0, 4), (RX1, TX1, 16), (RX2, TX2, 4), (RX3, TX3, 5), (RX4, TX4, 3), (RX5, TX5, 3), (RX6, TX6, 2), (RX7, TX7, 4), (RX8, TX8, 4), (RX9, TX9, 9), (RX10, TX10, 6), (RX11, TX11, 5), (RX12, TX12, 3)]
