def RX0 : String := "GiftOffice$Asking"
def TX0 : u_T := fun k => match k with
  | 0 => ("GiftOffice$Asking", "kind", "I", true)
  | 1 => ("GiftOffice$Asking", "house", "I", true)
  | 2 => ("GiftOffice$Asking", "second", "I", true)
  | 3 => ("GiftOffice$Asking", "theme", "I", true)
  | 4 => ("GiftOffice$Asking", "sum", "I", true)
  | 5 => ("GiftOffice$Asking", "day", "I", true)
  | 6 => ("GiftOffice$Asking", "text", "I", true)
  | 7 => ("GiftOffice$Asking", "marks", "[I", true)
  | 8 => ("GiftOffice$Asking", "marked", "I", false)
  | 9 => ("GiftOffice$Asking", "dealtTo", "I", false)
  | 10 => ("GiftOffice$Asking", "barsTold", "I", false)
  | _ => ("GiftOffice$Asking", "grant", "LGiftOffice$Grant;", false)
theorem nmX0 : ∀ a, a < 12 → ∀ b, b < 12 → a ≠ b → (TX0 a).2.1 ≠ (TX0 b).2.1 := by decide +kernel
abbrev cX0_init : ByteArray := prog_2_method_1_code
def yX0_init : MethodName := ⟨RX0, "<init>", "(IIIIIII)V"⟩
abbrev cX0_isBarredTo : ByteArray := prog_2_method_2_code
def yX0_isBarredTo : MethodName := ⟨RX0, "isBarredTo", "(LGiftOffice$Reader;)Z"⟩
abbrev cX0_hasMarkThatCounts : ByteArray := prog_2_method_3_code
def yX0_hasMarkThatCounts : MethodName := ⟨RX0, "hasMarkThatCounts", "(LGiftOffice$Reader;)Z"⟩
abbrev cX0_setMark : ByteArray := prog_2_method_4_code
def yX0_setMark : MethodName := ⟨RX0, "setMark", "(LGiftOffice$Reader;I)V"⟩
abbrev cX0_markOf : ByteArray := prog_2_method_5_code
def yX0_markOf : MethodName := ⟨RX0, "markOf", "(LGiftOffice$Reader;)I"⟩
def RX1 : String := "GiftOffice$Choice"
def TX1 : u_T := fun k => match k with
  | 0 => ("GiftOffice$Choice", "askings", "[I", true)
  | 1 => ("GiftOffice$Choice", "sums", "[I", true)
  | 2 => ("GiftOffice$Choice", "worths", "[I", true)
  | 3 => ("GiftOffice$Choice", "restSums", "[I", true)
  | 4 => ("GiftOffice$Choice", "restWorths", "[I", true)
  | 5 => ("GiftOffice$Choice", "restBits", "[I", true)
  | 6 => ("GiftOffice$Choice", "size", "I", false)
  | 7 => ("GiftOffice$Choice", "left", "I", false)
  | 8 => ("GiftOffice$Choice", "bestWorth", "I", false)
  | 9 => ("GiftOffice$Choice", "bestSum", "I", false)
  | _ => ("GiftOffice$Choice", "bestBits", "I", false)
theorem nmX1 : ∀ a, a < 11 → ∀ b, b < 11 → a ≠ b → (TX1 a).2.1 ≠ (TX1 b).2.1 := by decide +kernel
abbrev cX1_init : ByteArray := prog_3_method_1_code
def yX1_init : MethodName := ⟨RX1, "<init>", "()V"⟩
abbrev cX1_start : ByteArray := prog_3_method_2_code
def yX1_start : MethodName := ⟨RX1, "start", "(I)V"⟩
abbrev cX1_add : ByteArray := prog_3_method_3_code
def yX1_add : MethodName := ⟨RX1, "add", "(III)V"⟩
abbrev cX1_bestSet : ByteArray := prog_3_method_4_code
def yX1_bestSet : MethodName := ⟨RX1, "bestSet", "()I"⟩
abbrev cX1_search : ByteArray := prog_3_method_5_code
def yX1_search : MethodName := ⟨RX1, "search", "(LGiftOffice$Choice;IIII)V"⟩
abbrev cX1_keepBetter : ByteArray := prog_3_method_6_code
def yX1_keepBetter : MethodName := ⟨RX1, "keepBetter", "(III)V"⟩
def RX2 : String := "GiftOffice$Fund"
def TX2 : u_T := fun k => match k with
  | 0 => ("GiftOffice$Fund", "end", "I", true)
  | 1 => ("GiftOffice$Fund", "given", "I", false)
  | 2 => ("GiftOffice$Fund", "left", "I", false)
  | 3 => ("GiftOffice$Fund", "promised", "I", false)
  | _ => ("GiftOffice$Fund", "paid", "I", false)
theorem nmX2 : ∀ a, a < 5 → ∀ b, b < 5 → a ≠ b → (TX2 a).2.1 ≠ (TX2 b).2.1 := by decide +kernel
abbrev cX2_init : ByteArray := prog_4_method_1_code
def yX2_init : MethodName := ⟨RX2, "<init>", "(I)V"⟩
abbrev cX2_takeGift : ByteArray := prog_4_method_2_code
def yX2_takeGift : MethodName := ⟨RX2, "takeGift", "(I)V"⟩
abbrev cX2_promise : ByteArray := prog_4_method_3_code
def yX2_promise : MethodName := ⟨RX2, "promise", "(I)V"⟩
abbrev cX2_pay : ByteArray := prog_4_method_4_code
def yX2_pay : MethodName := ⟨RX2, "pay", "(II)V"⟩
abbrev cX2_release : ByteArray := prog_4_method_5_code
def yX2_release : MethodName := ⟨RX2, "release", "(I)V"⟩
abbrev cX2_takeBack : ByteArray := prog_4_method_6_code
def yX2_takeBack : MethodName := ⟨RX2, "takeBack", "(I)V"⟩
def RX3 : String := "GiftOffice$Grant"
def TX3 : u_T := fun k => match k with
  | 0 => ("GiftOffice$Grant", "fund", "LGiftOffice$Fund;", true)
  | 1 => ("GiftOffice$Grant", "fundNumber", "I", true)
  | 2 => ("GiftOffice$Grant", "part", "I", true)
  | 3 => ("GiftOffice$Grant", "parts", "I", true)
  | 4 => ("GiftOffice$Grant", "span", "I", true)
  | 5 => ("GiftOffice$Grant", "day", "I", true)
  | 6 => ("GiftOffice$Grant", "partsPaid", "I", false)
  | 7 => ("GiftOffice$Grant", "promised", "I", false)
  | _ => ("GiftOffice$Grant", "paid", "I", false)
theorem nmX3 : ∀ a, a < 9 → ∀ b, b < 9 → a ≠ b → (TX3 a).2.1 ≠ (TX3 b).2.1 := by decide +kernel
abbrev cX3_init : ByteArray := prog_5_method_1_code
def yX3_init : MethodName := ⟨RX3, "<init>", "(LGiftOffice$Fund;IIIII)V"⟩
abbrev cX3_isOpen : ByteArray := prog_5_method_2_code
def yX3_isOpen : MethodName := ⟨RX3, "isOpen", "()Z"⟩
abbrev cX3_nextPart : ByteArray := prog_5_method_3_code
def yX3_nextPart : MethodName := ⟨RX3, "nextPart", "()I"⟩
abbrev cX3_nextDue : ByteArray := prog_5_method_4_code
def yX3_nextDue : MethodName := ⟨RX3, "nextDue", "()I"⟩
abbrev cX3_payNextPart : ByteArray := prog_5_method_5_code
def yX3_payNextPart : MethodName := ⟨RX3, "payNextPart", "(I)V"⟩
abbrev cX3_release : ByteArray := prog_5_method_6_code
def yX3_release : MethodName := ⟨RX3, "release", "()I"⟩
abbrev cX3_takeBack : ByteArray := prog_5_method_7_code
def yX3_takeBack : MethodName := ⟨RX3, "takeBack", "(I)V"⟩
def RX4 : String := "GiftOffice$Pairing"
def TX4 : u_T := fun k => match k with
  | 0 => ("GiftOffice$Pairing", "loads", "[I", true)
  | 1 => ("GiftOffice$Pairing", "used", "[I", true)
  | 2 => ("GiftOffice$Pairing", "needs", "[I", true)
  | 3 => ("GiftOffice$Pairing", "open", "[I", true)
  | 4 => ("GiftOffice$Pairing", "held", "[I", true)
  | 5 => ("GiftOffice$Pairing", "readers", "I", false)
  | 6 => ("GiftOffice$Pairing", "askings", "I", false)
  | _ => ("GiftOffice$Pairing", "seen", "I", false)
theorem nmX4 : ∀ a, a < 8 → ∀ b, b < 8 → a ≠ b → (TX4 a).2.1 ≠ (TX4 b).2.1 := by decide +kernel
abbrev cX4_init : ByteArray := prog_6_method_1_code
def yX4_init : MethodName := ⟨RX4, "<init>", "()V"⟩
abbrev cX4_clear : ByteArray := prog_6_method_2_code
def yX4_clear : MethodName := ⟨RX4, "clear", "()V"⟩
abbrev cX4_addReader : ByteArray := prog_6_method_3_code
def yX4_addReader : MethodName := ⟨RX4, "addReader", "(I)V"⟩
abbrev cX4_addAsking : ByteArray := prog_6_method_4_code
def yX4_addAsking : MethodName := ⟨RX4, "addAsking", "(II)V"⟩
abbrev cX4_mostPairs : ByteArray := prog_6_method_5_code
def yX4_mostPairs : MethodName := ⟨RX4, "mostPairs", "()I"⟩
abbrev cX4_gains : ByteArray := prog_6_method_6_code
def yX4_gains : MethodName := ⟨RX4, "gains", "(II)Z"⟩
abbrev cX4_hasRoom : ByteArray := prog_6_method_7_code
def yX4_hasRoom : MethodName := ⟨RX4, "hasRoom", "(II)Z"⟩
def RX5 : String := "GiftOffice$Parser"
def TX5 : u_T := fun k => match k with
  | 0 => ("GiftOffice$Parser", "at", "I", false)
  | 1 => ("GiftOffice$Parser", "open", "I", false)
  | _ => ("GiftOffice$Parser", "fault", "I", false)
theorem nmX5 : ∀ a, a < 3 → ∀ b, b < 3 → a ≠ b → (TX5 a).2.1 ≠ (TX5 b).2.1 := by decide +kernel
abbrev cX5_init : ByteArray := prog_7_method_1_code
def yX5_init : MethodName := ⟨RX5, "<init>", "()V"⟩
abbrev cX5_parse : ByteArray := prog_7_method_2_code
def yX5_parse : MethodName := ⟨RX5, "parse", "(LGiftOffice$Tape;LGiftOffice$Text;)I"⟩
abbrev cX5_parseLevel : ByteArray := prog_7_method_3_code
def yX5_parseLevel : MethodName := ⟨RX5, "parseLevel", "(LGiftOffice$Tape;LGiftOffice$Text;I)V"⟩
abbrev cX5_parseOne : ByteArray := prog_7_method_4_code
def yX5_parseOne : MethodName := ⟨RX5, "parseOne", "(LGiftOffice$Tape;LGiftOffice$Text;)V"⟩
abbrev cX5_opens : ByteArray := prog_7_method_5_code
def yX5_opens : MethodName := ⟨RX5, "opens", "(LGiftOffice$Tape;)Z"⟩
abbrev cX5_expect : ByteArray := prog_7_method_6_code
def yX5_expect : MethodName := ⟨RX5, "expect", "(LGiftOffice$Tape;I)V"⟩
abbrev cX5_current : ByteArray := prog_7_method_7_code
def yX5_current : MethodName := ⟨RX5, "current", "(LGiftOffice$Tape;)I"⟩
abbrev cX5_fail : ByteArray := prog_7_method_8_code
def yX5_fail : MethodName := ⟨RX5, "fail", "()V"⟩
abbrev cX5_levelOf : ByteArray := prog_7_method_9_code
def yX5_levelOf : MethodName := ⟨RX5, "levelOf", "(I)I"⟩
def RX6 : String := "GiftOffice$Reader"
def TX6 : u_T := fun k => match k with
  | 0 => ("GiftOffice$Reader", "number", "I", true)
  | 1 => ("GiftOffice$Reader", "themes", "I", true)
  | 2 => ("GiftOffice$Reader", "house", "I", true)
  | 3 => ("GiftOffice$Reader", "load", "I", true)
  | _ => ("GiftOffice$Reader", "reads", "I", false)
theorem nmX6 : ∀ a, a < 5 → ∀ b, b < 5 → a ≠ b → (TX6 a).2.1 ≠ (TX6 b).2.1 := by decide +kernel
abbrev cX6_init : ByteArray := prog_8_method_1_code
def yX6_init : MethodName := ⟨RX6, "<init>", "(IIII)V"⟩
abbrev cX6_isAheadOf : ByteArray := prog_8_method_2_code
def yX6_isAheadOf : MethodName := ⟨RX6, "isAheadOf", "(LGiftOffice$Reader;I)Z"⟩
def RX7 : String := "GiftOffice$Scale"
def TX7 : u_T := fun k => match k with
  | 0 => ("GiftOffice$Scale", "sums", "[I", true)
  | 1 => ("GiftOffice$Scale", "counts", "[I", true)
  | 2 => ("GiftOffice$Scale", "sum", "I", false)
  | 3 => ("GiftOffice$Scale", "count", "I", false)
  | 4 => ("GiftOffice$Scale", "off", "J", false)
  | 5 => ("GiftOffice$Scale", "laid", "I", false)
  | 6 => ("GiftOffice$Scale", "above", "J", false)
  | _ => ("GiftOffice$Scale", "below", "J", false)
theorem nmX7 : ∀ a, a < 8 → ∀ b, b < 8 → a ≠ b → (TX7 a).2.1 ≠ (TX7 b).2.1 := by decide +kernel
abbrev cX7_init : ByteArray := prog_9_method_1_code
def yX7_init : MethodName := ⟨RX7, "<init>", "()V"⟩
abbrev cX7_clear : ByteArray := prog_9_method_2_code
def yX7_clear : MethodName := ⟨RX7, "clear", "()V"⟩
abbrev cX7_add : ByteArray := prog_9_method_3_code
def yX7_add : MethodName := ⟨RX7, "add", "(II)V"⟩
abbrev cX7_lay : ByteArray := prog_9_method_4_code
def yX7_lay : MethodName := ⟨RX7, "lay", "(II)V"⟩
abbrev cX7_settle : ByteArray := prog_9_method_5_code
def yX7_settle : MethodName := ⟨RX7, "settle", "()V"⟩
abbrev cX7_hasWorth : ByteArray := prog_9_method_6_code
def yX7_hasWorth : MethodName := ⟨RX7, "hasWorth", "()Z"⟩
abbrev cX7_cutWorth : ByteArray := prog_9_method_7_code
def yX7_cutWorth : MethodName := ⟨RX7, "cutWorth", "()I"⟩
abbrev cX7_commonDivisor : ByteArray := prog_9_method_8_code
def yX7_commonDivisor : MethodName := ⟨RX7, "commonDivisor", "(JJ)J"⟩
def RX8 : String := "GiftOffice$Sheet"
def TX8 : u_T := fun k => match k with
  | 0 => ("GiftOffice$Sheet", "items", "[I", true)
  | 1 => ("GiftOffice$Sheet", "size", "I", false)
  | _ => ("GiftOffice$Sheet", "sort", "I", false)
theorem nmX8 : ∀ a, a < 3 → ∀ b, b < 3 → a ≠ b → (TX8 a).2.1 ≠ (TX8 b).2.1 := by decide +kernel
abbrev cX8_init : ByteArray := prog_10_method_1_code
def yX8_init : MethodName := ⟨RX8, "<init>", "()V"⟩
abbrev cX8_isSort : ByteArray := prog_10_method_2_code
def yX8_isSort : MethodName := ⟨RX8, "isSort", "(I)Z"⟩
abbrev cX8_isMissing : ByteArray := prog_10_method_3_code
def yX8_isMissing : MethodName := ⟨RX8, "isMissing", "()Z"⟩
abbrev cX8_vanish : ByteArray := prog_10_method_4_code
def yX8_vanish : MethodName := ⟨RX8, "vanish", "()V"⟩
abbrev cX8_become : ByteArray := prog_10_method_5_code
def yX8_become : MethodName := ⟨RX8, "become", "(II)V"⟩
abbrev cX8_holds : ByteArray := prog_10_method_6_code
def yX8_holds : MethodName := ⟨RX8, "holds", "(I)Z"⟩
abbrev cX8_item : ByteArray := prog_10_method_7_code
def yX8_item : MethodName := ⟨RX8, "item", "(I)I"⟩
abbrev cX8_put : ByteArray := prog_10_method_8_code
def yX8_put : MethodName := ⟨RX8, "put", "(II)V"⟩
abbrev cX8_cut : ByteArray := prog_10_method_9_code
def yX8_cut : MethodName := ⟨RX8, "cut", "(I)I"⟩
def RX9 : String := "GiftOffice$Tape"
def TX9 : u_T := fun k => match k with
  | 0 => ("GiftOffice$Tape", "bytes", "[B", true)
  | 1 => ("GiftOffice$Tape", "size", "I", false)
  | 2 => ("GiftOffice$Tape", "tokens", "[I", true)
  | 3 => ("GiftOffice$Tape", "places", "[I", true)
  | 4 => ("GiftOffice$Tape", "numbers", "[I", true)
  | 5 => ("GiftOffice$Tape", "tokenCount", "I", false)
  | _ => ("GiftOffice$Tape", "at", "I", false)
theorem nmX9 : ∀ a, a < 7 → ∀ b, b < 7 → a ≠ b → (TX9 a).2.1 ≠ (TX9 b).2.1 := by decide +kernel
abbrev cX9_init : ByteArray := prog_11_method_1_code
def yX9_init : MethodName := ⟨RX9, "<init>", "()V"⟩
abbrev cX9_clear : ByteArray := prog_11_method_2_code
def yX9_clear : MethodName := ⟨RX9, "clear", "()V"⟩
abbrev cX9_add : ByteArray := prog_11_method_3_code
def yX9_add : MethodName := ⟨RX9, "add", "(B)V"⟩
abbrev cX9_write : ByteArray := prog_11_method_4_code
def yX9_write : MethodName := ⟨RX9, "write", "(Ljava/lang/String;)V"⟩
abbrev cX9_split : ByteArray := prog_11_method_5_code
def yX9_split : MethodName := ⟨RX9, "split", "()V"⟩
abbrev cX9_token : ByteArray := prog_11_method_6_code
def yX9_token : MethodName := ⟨RX9, "token", "(I)I"⟩
abbrev cX9_placeOf : ByteArray := prog_11_method_7_code
def yX9_placeOf : MethodName := ⟨RX9, "placeOf", "(I)I"⟩
abbrev cX9_numberAt : ByteArray := prog_11_method_8_code
def yX9_numberAt : MethodName := ⟨RX9, "numberAt", "(I)I"⟩
abbrev cX9_addToken : ByteArray := prog_11_method_9_code
def yX9_addToken : MethodName := ⟨RX9, "addToken", "(III)V"⟩
abbrev cX9_byteAt : ByteArray := prog_11_method_10_code
def yX9_byteAt : MethodName := ⟨RX9, "byteAt", "(I)I"⟩
abbrev cX9_isLetter : ByteArray := prog_11_method_11_code
def yX9_isLetter : MethodName := ⟨RX9, "isLetter", "(I)Z"⟩
abbrev cX9_isDigit : ByteArray := prog_11_method_12_code
def yX9_isDigit : MethodName := ⟨RX9, "isDigit", "(I)Z"⟩
abbrev cX9_skipBlanks : ByteArray := prog_11_method_13_code
def yX9_skipBlanks : MethodName := ⟨RX9, "skipBlanks", "()V"⟩
abbrev cX9_takeToken : ByteArray := prog_11_method_14_code
def yX9_takeToken : MethodName := ⟨RX9, "takeToken", "()I"⟩
abbrev cX9_wordIn : ByteArray := prog_11_method_15_code
def yX9_wordIn : MethodName := ⟨RX9, "wordIn", "(I)I"⟩
abbrev cX9_numberOf : ByteArray := prog_11_method_16_code
def yX9_numberOf : MethodName := ⟨RX9, "numberOf", "(I)I"⟩
def RX10 : String := "GiftOffice$Text"
def TX10 : u_T := fun k => match k with
  | 0 => ("GiftOffice$Text", "code", "[I", true)
  | 1 => ("GiftOffice$Text", "ends", "[I", true)
  | 2 => ("GiftOffice$Text", "stack", "[I", true)
  | 3 => ("GiftOffice$Text", "size", "I", false)
  | _ => ("GiftOffice$Text", "height", "I", false)
theorem nmX10 : ∀ a, a < 5 → ∀ b, b < 5 → a ≠ b → (TX10 a).2.1 ≠ (TX10 b).2.1 := by decide +kernel
abbrev cX10_init : ByteArray := prog_12_method_1_code
def yX10_init : MethodName := ⟨RX10, "<init>", "()V"⟩
abbrev cX10_codeOf : ByteArray := prog_12_method_2_code
def yX10_codeOf : MethodName := ⟨RX10, "codeOf", "(I)I"⟩
abbrev cX10_clear : ByteArray := prog_12_method_3_code
def yX10_clear : MethodName := ⟨RX10, "clear", "()V"⟩
abbrev cX10_add : ByteArray := prog_12_method_4_code
def yX10_add : MethodName := ⟨RX10, "add", "(I)V"⟩
abbrev cX10_endPart : ByteArray := prog_12_method_5_code
def yX10_endPart : MethodName := ⟨RX10, "endPart", "(I)V"⟩
abbrev cX10_valueOf : ByteArray := prog_12_method_6_code
def yX10_valueOf : MethodName := ⟨RX10, "valueOf", "(I[I)I"⟩
abbrev cX10_take : ByteArray := prog_12_method_7_code
def yX10_take : MethodName := ⟨RX10, "take", "(I[I)V"⟩
abbrev cX10_join : ByteArray := prog_12_method_8_code
def yX10_join : MethodName := ⟨RX10, "join", "(III)I"⟩
abbrev cX10_push : ByteArray := prog_12_method_9_code
def yX10_push : MethodName := ⟨RX10, "push", "(I)V"⟩
abbrev cX10_pop : ByteArray := prog_12_method_10_code
def yX10_pop : MethodName := ⟨RX10, "pop", "()I"⟩
def RX11 : String := "GiftOffice"
def TX11 : u_T := fun k => match k with
  | 0 => ("GiftOffice", "funds", "[LGiftOffice$Fund;", true)
  | 1 => ("GiftOffice", "readers", "[LGiftOffice$Reader;", true)
  | 2 => ("GiftOffice", "askings", "[LGiftOffice$Asking;", true)
  | 3 => ("GiftOffice", "texts", "[LGiftOffice$Text;", true)
  | 4 => ("GiftOffice", "sheets", "[LGiftOffice$Sheet;", true)
  | 5 => ("GiftOffice", "tape", "LGiftOffice$Tape;", true)
  | 6 => ("GiftOffice", "parser", "LGiftOffice$Parser;", true)
  | 7 => ("GiftOffice", "facts", "[I", true)
  | 8 => ("GiftOffice", "scale", "LGiftOffice$Scale;", true)
  | 9 => ("GiftOffice", "choice", "LGiftOffice$Choice;", true)
  | 10 => ("GiftOffice", "pairing", "LGiftOffice$Pairing;", true)
  | 11 => ("GiftOffice", "fundCount", "I", false)
  | 12 => ("GiftOffice", "readerCount", "I", false)
  | 13 => ("GiftOffice", "askingCount", "I", false)
  | 14 => ("GiftOffice", "textCount", "I", false)
  | _ => ("GiftOffice", "rule", "I", false)
theorem nmX11 : ∀ a, a < 16 → ∀ b, b < 16 → a ≠ b → (TX11 a).2.1 ≠ (TX11 b).2.1 := by decide +kernel
abbrev cX11_init : ByteArray := prog_1_method_1_code
def yX11_init : MethodName := ⟨RX11, "<init>", "()V"⟩
abbrev cX11_firstText : ByteArray := prog_1_method_2_code
def yX11_firstText : MethodName := ⟨RX11, "firstText", "()LGiftOffice$Text;"⟩
abbrev cX11_fund : ByteArray := prog_1_method_3_code
def yX11_fund : MethodName := ⟨RX11, "fund", "(I)I"⟩
abbrev cX11_give : ByteArray := prog_1_method_4_code
def yX11_give : MethodName := ⟨RX11, "give", "(II)I"⟩
abbrev cX11_fundTold : ByteArray := prog_1_method_5_code
def yX11_fundTold : MethodName := ⟨RX11, "fundTold", "(II)I"⟩
abbrev cX11_reader : ByteArray := prog_1_method_6_code
def yX11_reader : MethodName := ⟨RX11, "reader", "(III)I"⟩
abbrev cX11_readerTold : ByteArray := prog_1_method_7_code
def yX11_readerTold : MethodName := ⟨RX11, "readerTold", "(II)I"⟩
abbrev cX11_ask : ByteArray := prog_1_method_8_code
def yX11_ask : MethodName := ⟨RX11, "ask", "(IIIIII)I"⟩
abbrev cX11_asks : ByteArray := prog_1_method_9_code
def yX11_asks : MethodName := ⟨RX11, "asks", "(IIII)I"⟩
abbrev cX11_told : ByteArray := prog_1_method_10_code
def yX11_told : MethodName := ⟨RX11, "told", "(II)I"⟩
abbrev cX11_grantTold : ByteArray := prog_1_method_11_code
def yX11_grantTold : MethodName := ⟨RX11, "grantTold", "(LGiftOffice$Grant;I)I"⟩
abbrev cX11_feed : ByteArray := prog_1_method_12_code
def yX11_feed : MethodName := ⟨RX11, "feed", "(IJ)I"⟩
abbrev cX11_text : ByteArray := prog_1_method_13_code
def yX11_text : MethodName := ⟨RX11, "text", "()I"⟩
abbrev cX11_force : ByteArray := prog_1_method_14_code
def yX11_force : MethodName := ⟨RX11, "force", "(I)I"⟩
abbrev cX11_says : ByteArray := prog_1_method_15_code
def yX11_says : MethodName := ⟨RX11, "says", "(III)J"⟩
abbrev cX11_bar : ByteArray := prog_1_method_16_code
def yX11_bar : MethodName := ⟨RX11, "bar", "(II)I"⟩
abbrev cX11_barred : ByteArray := prog_1_method_17_code
def yX11_barred : MethodName := ⟨RX11, "barred", "(II)I"⟩
abbrev cX11_deal : ByteArray := prog_1_method_18_code
def yX11_deal : MethodName := ⟨RX11, "deal", "()I"⟩
abbrev cX11_pickReaders : ByteArray := prog_1_method_19_code
def yX11_pickReaders : MethodName := ⟨RX11, "pickReaders", "(LGiftOffice$Asking;)I"⟩
abbrev cX11_dealTo : ByteArray := prog_1_method_20_code
def yX11_dealTo : MethodName := ⟨RX11, "dealTo", "(LGiftOffice$Asking;I)V"⟩
abbrev cX11_places : ByteArray := prog_1_method_21_code
def yX11_places : MethodName := ⟨RX11, "places", "()I"⟩
abbrev cX11_mark : ByteArray := prog_1_method_22_code
def yX11_mark : MethodName := ⟨RX11, "mark", "(III)I"⟩
abbrev cX11_worth : ByteArray := prog_1_method_23_code
def yX11_worth : MethodName := ⟨RX11, "worth", "(II)J"⟩
abbrev cX11_fit : ByteArray := prog_1_method_24_code
def yX11_fit : MethodName := ⟨RX11, "fit", "(II)I"⟩
abbrev cX11_choose : ByteArray := prog_1_method_25_code
def yX11_choose : MethodName := ⟨RX11, "choose", "(I)I"⟩
abbrev cX11_grant : ByteArray := prog_1_method_26_code
def yX11_grant : MethodName := ⟨RX11, "grant", "(IIIII)I"⟩
abbrev cX11_proof : ByteArray := prog_1_method_27_code
def yX11_proof : MethodName := ⟨RX11, "proof", "(II)I"⟩
abbrev cX11_due : ByteArray := prog_1_method_28_code
def yX11_due : MethodName := ⟨RX11, "due", "(II)I"⟩
abbrev cX11_stop : ByteArray := prog_1_method_29_code
def yX11_stop : MethodName := ⟨RX11, "stop", "(I)I"⟩
abbrev cX11_back : ByteArray := prog_1_method_30_code
def yX11_back : MethodName := ⟨RX11, "back", "(II)I"⟩
abbrev cX11_count : ByteArray := prog_1_method_31_code
def yX11_count : MethodName := ⟨RX11, "count", "(I)I"⟩
abbrev cX11_sheet : ByteArray := prog_1_method_32_code
def yX11_sheet : MethodName := ⟨RX11, "sheet", "(III)I"⟩
abbrev cX11_cell : ByteArray := prog_1_method_33_code
def yX11_cell : MethodName := ⟨RX11, "cell", "(III)I"⟩
abbrev cX11_taken : ByteArray := prog_1_method_34_code
def yX11_taken : MethodName := ⟨RX11, "taken", "(II)I"⟩
abbrev cX11_isWithin : ByteArray := prog_1_method_35_code
def yX11_isWithin : MethodName := ⟨RX11, "isWithin", "(III)Z"⟩
abbrev cX11_hasBit : ByteArray := prog_1_method_36_code
def yX11_hasBit : MethodName := ⟨RX11, "hasBit", "(II)Z"⟩
abbrev cX11_needOf : ByteArray := prog_1_method_37_code
def yX11_needOf : MethodName := ⟨RX11, "needOf", "(I)I"⟩
abbrev cX11_isKindOrUnder : ByteArray := prog_1_method_38_code
def yX11_isKindOrUnder : MethodName := ⟨RX11, "isKindOrUnder", "(II)Z"⟩
abbrev cX11_findFund : ByteArray := prog_1_method_39_code
def yX11_findFund : MethodName := ⟨RX11, "findFund", "(I)LGiftOffice$Fund;"⟩
abbrev cX11_findReader : ByteArray := prog_1_method_40_code
def yX11_findReader : MethodName := ⟨RX11, "findReader", "(I)LGiftOffice$Reader;"⟩
abbrev cX11_findAsking : ByteArray := prog_1_method_41_code
def yX11_findAsking : MethodName := ⟨RX11, "findAsking", "(I)LGiftOffice$Asking;"⟩
abbrev cX11_marksThatCount : ByteArray := prog_1_method_42_code
def yX11_marksThatCount : MethodName := ⟨RX11, "marksThatCount", "(LGiftOffice$Asking;)I"⟩
abbrev cX11_marksThatCountOf : ByteArray := prog_1_method_43_code
def yX11_marksThatCountOf : MethodName := ⟨RX11, "marksThatCountOf", "(LGiftOffice$Reader;)I"⟩
abbrev cX11_allMarksThatCount : ByteArray := prog_1_method_44_code
def yX11_allMarksThatCount : MethodName := ⟨RX11, "allMarksThatCount", "()I"⟩
abbrev cX11_allGrants : ByteArray := prog_1_method_45_code
def yX11_allGrants : MethodName := ⟨RX11, "allGrants", "()I"⟩
abbrev cX11_weigh : ByteArray := prog_1_method_46_code
def yX11_weigh : MethodName := ⟨RX11, "weigh", "(LGiftOffice$Asking;)V"⟩
abbrev cX11_setFacts : ByteArray := prog_1_method_47_code
def yX11_setFacts : MethodName := ⟨RX11, "setFacts", "(IIII)V"⟩
abbrev cX11_setReadingFacts : ByteArray := prog_1_method_48_code
def yX11_setReadingFacts : MethodName := ⟨RX11, "setReadingFacts", "(III)V"⟩
abbrev cX11_reckon : ByteArray := prog_1_method_49_code
def yX11_reckon : MethodName := ⟨RX11, "reckon", "(II)I"⟩
abbrev cX11_reckonFor : ByteArray := prog_1_method_50_code
def yX11_reckonFor : MethodName := ⟨RX11, "reckonFor", "(LGiftOffice$Asking;II)I"⟩
abbrev cX11_isFit : ByteArray := prog_1_method_51_code
def yX11_isFit : MethodName := ⟨RX11, "isFit", "(LGiftOffice$Fund;LGiftOffice$Asking;)Z"⟩
abbrev cX11_lossOf : ByteArray := prog_1_method_52_code
def yX11_lossOf : MethodName := ⟨RX11, "lossOf", "(LGiftOffice$Asking;LGiftOffice$Grant;I)I"⟩
def RX12 : String := "GiftOfficeModel"
def TX12 : u_T := fun k => match k with
  | 0 => ("GiftOfficeModel", "funds", "I", false)
  | 1 => ("GiftOfficeModel", "end", "[I", true)
  | 2 => ("GiftOfficeModel", "given", "[I", true)
  | 3 => ("GiftOfficeModel", "left", "[I", true)
  | 4 => ("GiftOfficeModel", "promised", "[I", true)
  | 5 => ("GiftOfficeModel", "paid", "[I", true)
  | 6 => ("GiftOfficeModel", "readers", "I", false)
  | 7 => ("GiftOfficeModel", "themes", "[I", true)
  | 8 => ("GiftOfficeModel", "readerHouse", "[I", true)
  | 9 => ("GiftOfficeModel", "load", "[I", true)
  | 10 => ("GiftOfficeModel", "askings", "I", false)
  | 11 => ("GiftOfficeModel", "kind", "[I", true)
  | 12 => ("GiftOfficeModel", "house", "[I", true)
  | 13 => ("GiftOfficeModel", "second", "[I", true)
  | 14 => ("GiftOfficeModel", "theme", "[I", true)
  | 15 => ("GiftOfficeModel", "sum", "[I", true)
  | 16 => ("GiftOfficeModel", "day", "[I", true)
  | 17 => ("GiftOfficeModel", "textOf", "[I", true)
  | 18 => ("GiftOfficeModel", "dealt", "[I", true)
  | 19 => ("GiftOfficeModel", "isBar", "[Z", true)
  | 20 => ("GiftOfficeModel", "mark", "[I", true)
  | 21 => ("GiftOfficeModel", "fundOf", "[I", true)
  | 22 => ("GiftOfficeModel", "parts", "[I", true)
  | 23 => ("GiftOfficeModel", "span", "[I", true)
  | 24 => ("GiftOfficeModel", "granted", "[I", true)
  | 25 => ("GiftOfficeModel", "done", "[I", true)
  | 26 => ("GiftOfficeModel", "kept", "[I", true)
  | 27 => ("GiftOfficeModel", "still", "[I", true)
  | 28 => ("GiftOfficeModel", "tape", "[B", true)
  | 29 => ("GiftOfficeModel", "taped", "I", false)
  | 30 => ("GiftOfficeModel", "texts", "I", false)
  | 31 => ("GiftOfficeModel", "rule", "I", false)
  | 32 => ("GiftOfficeModel", "acts", "[I", true)
  | 33 => ("GiftOfficeModel", "act", "[I", true)
  | 34 => ("GiftOfficeModel", "number", "[I", true)
  | 35 => ("GiftOfficeModel", "letters", "[C", true)
  | 36 => ("GiftOfficeModel", "begins", "[I", true)
  | 37 => ("GiftOfficeModel", "sizes", "[I", true)
  | 38 => ("GiftOfficeModel", "at", "I", false)
  | 39 => ("GiftOfficeModel", "begin", "I", false)
  | 40 => ("GiftOfficeModel", "token", "I", false)
  | 41 => ("GiftOfficeModel", "tokenNumber", "I", false)
  | 42 => ("GiftOfficeModel", "wait", "[I", true)
  | 43 => ("GiftOfficeModel", "waits", "I", false)
  | 44 => ("GiftOfficeModel", "heap", "[I", true)
  | 45 => ("GiftOfficeModel", "pair", "[Z", true)
  | 46 => ("GiftOfficeModel", "askingFrom", "[I", true)
  | 47 => ("GiftOfficeModel", "readerFrom", "[I", true)
  | 48 => ("GiftOfficeModel", "up", "J", false)
  | 49 => ("GiftOfficeModel", "low", "J", false)
  | 50 => ("GiftOfficeModel", "fits", "[Z", true)
  | 51 => ("GiftOfficeModel", "wholes", "[I", true)
  | 52 => ("GiftOfficeModel", "isStopped", "[Z", true)
  | 53 => ("GiftOfficeModel", "sheetSort", "[I", true)
  | 54 => ("GiftOfficeModel", "sheetSize", "[I", true)
  | _ => ("GiftOfficeModel", "cells", "[I", true)
theorem nmX12 : ∀ a, a < 56 → ∀ b, b < 56 → a ≠ b → (TX12 a).2.1 ≠ (TX12 b).2.1 := by decide +kernel
abbrev cX12_isIn : ByteArray := prog_14_method_1_code
def yX12_isIn : MethodName := ⟨RX12, "isIn", "(JJJ)Z"⟩
abbrev cX12_isFund : ByteArray := prog_14_method_2_code
def yX12_isFund : MethodName := ⟨RX12, "isFund", "(I)Z"⟩
abbrev cX12_isReader : ByteArray := prog_14_method_3_code
def yX12_isReader : MethodName := ⟨RX12, "isReader", "(I)Z"⟩
abbrev cX12_isAsking : ByteArray := prog_14_method_4_code
def yX12_isAsking : MethodName := ⟨RX12, "isAsking", "(I)Z"⟩
abbrev cX12_fund : ByteArray := prog_14_method_5_code
def yX12_fund : MethodName := ⟨RX12, "fund", "(I)I"⟩
abbrev cX12_give : ByteArray := prog_14_method_6_code
def yX12_give : MethodName := ⟨RX12, "give", "(II)I"⟩
abbrev cX12_fundTold : ByteArray := prog_14_method_7_code
def yX12_fundTold : MethodName := ⟨RX12, "fundTold", "(II)I"⟩
abbrev cX12_reader : ByteArray := prog_14_method_8_code
def yX12_reader : MethodName := ⟨RX12, "reader", "(III)I"⟩
abbrev cX12_reads : ByteArray := prog_14_method_9_code
def yX12_reads : MethodName := ⟨RX12, "reads", "(I)I"⟩
abbrev cX12_readerTold : ByteArray := prog_14_method_10_code
def yX12_readerTold : MethodName := ⟨RX12, "readerTold", "(II)I"⟩
abbrev cX12_needOf : ByteArray := prog_14_method_11_code
def yX12_needOf : MethodName := ⟨RX12, "needOf", "(I)I"⟩
abbrev cX12_ask : ByteArray := prog_14_method_12_code
def yX12_ask : MethodName := ⟨RX12, "ask", "(IIIIII)I"⟩
abbrev cX12_asks : ByteArray := prog_14_method_13_code
def yX12_asks : MethodName := ⟨RX12, "asks", "(IIII)I"⟩
abbrev cX12_told : ByteArray := prog_14_method_14_code
def yX12_told : MethodName := ⟨RX12, "told", "(II)I"⟩
abbrev cX12_init : ByteArray := prog_14_method_15_code
def yX12_init : MethodName := ⟨RX12, "<init>", "()V"⟩
abbrev cX12_add : ByteArray := prog_14_method_16_code
def yX12_add : MethodName := ⟨RX12, "add", "(III)V"⟩
abbrev cX12_isLetter : ByteArray := prog_14_method_17_code
def yX12_isLetter : MethodName := ⟨RX12, "isLetter", "(I)Z"⟩
abbrev cX12_isDigit : ByteArray := prog_14_method_18_code
def yX12_isDigit : MethodName := ⟨RX12, "isDigit", "(I)Z"⟩
abbrev cX12_letter : ByteArray := prog_14_method_19_code
def yX12_letter : MethodName := ⟨RX12, "letter", "(I)I"⟩
abbrev cX12_wordAt : ByteArray := prog_14_method_20_code
def yX12_wordAt : MethodName := ⟨RX12, "wordAt", "(II)I"⟩
abbrev cX12_isSign : ByteArray := prog_14_method_21_code
def yX12_isSign : MethodName := ⟨RX12, "isSign", "(I)Z"⟩
abbrev cX12_next : ByteArray := prog_14_method_22_code
def yX12_next : MethodName := ⟨RX12, "next", "()V"⟩
abbrev cX12_rankOf : ByteArray := prog_14_method_23_code
def yX12_rankOf : MethodName := ⟨RX12, "rankOf", "(I)I"⟩
abbrev cX12_settle : ByteArray := prog_14_method_24_code
def yX12_settle : MethodName := ⟨RX12, "settle", "(II)V"⟩
abbrev cX12_openMany : ByteArray := prog_14_method_25_code
def yX12_openMany : MethodName := ⟨RX12, "openMany", "()I"⟩
abbrev cX12_waitsFor : ByteArray := prog_14_method_26_code
def yX12_waitsFor : MethodName := ⟨RX12, "waitsFor", "(I)Z"⟩
abbrev cX12_hasCompared : ByteArray := prog_14_method_27_code
def yX12_hasCompared : MethodName := ⟨RX12, "hasCompared", "()Z"⟩
abbrev cX12_isRead : ByteArray := prog_14_method_28_code
def yX12_isRead : MethodName := ⟨RX12, "isRead", "(I)Z"⟩
abbrev cX12_isText : ByteArray := prog_14_method_29_code
def yX12_isText : MethodName := ⟨RX12, "isText", "()Z"⟩
abbrev cX12_feed : ByteArray := prog_14_method_30_code
def yX12_feed : MethodName := ⟨RX12, "feed", "(IJ)I"⟩
abbrev cX12_text : ByteArray := prog_14_method_31_code
def yX12_text : MethodName := ⟨RX12, "text", "()I"⟩
abbrev cX12_force : ByteArray := prog_14_method_32_code
def yX12_force : MethodName := ⟨RX12, "force", "(I)I"⟩
abbrev cX12_joined : ByteArray := prog_14_method_33_code
def yX12_joined : MethodName := ⟨RX12, "joined", "(III)I"⟩
abbrev cX12_value : ByteArray := prog_14_method_34_code
def yX12_value : MethodName := ⟨RX12, "value", "(IIIIIIIII)I"⟩
abbrev cX12_valueOf : ByteArray := prog_14_method_35_code
def yX12_valueOf : MethodName := ⟨RX12, "valueOf", "(III)I"⟩
abbrev cX12_says : ByteArray := prog_14_method_36_code
def yX12_says : MethodName := ⟨RX12, "says", "(III)J"⟩
abbrev cX12_isBarred : ByteArray := prog_14_method_37_code
def yX12_isBarred : MethodName := ⟨RX12, "isBarred", "(II)Z"⟩
abbrev cX12_bar : ByteArray := prog_14_method_38_code
def yX12_bar : MethodName := ⟨RX12, "bar", "(II)I"⟩
abbrev cX12_barred : ByteArray := prog_14_method_39_code
def yX12_barred : MethodName := ⟨RX12, "barred", "(II)I"⟩
abbrev cX12_bestFor : ByteArray := prog_14_method_40_code
def yX12_bestFor : MethodName := ⟨RX12, "bestFor", "(II)I"⟩
abbrev cX12_deal : ByteArray := prog_14_method_41_code
def yX12_deal : MethodName := ⟨RX12, "deal", "()I"⟩
abbrev cX12_pairsOf : ByteArray := prog_14_method_42_code
def yX12_pairsOf : MethodName := ⟨RX12, "pairsOf", "(I)I"⟩
abbrev cX12_pairsBy : ByteArray := prog_14_method_43_code
def yX12_pairsBy : MethodName := ⟨RX12, "pairsBy", "(I)I"⟩
abbrev cX12_isPaired : ByteArray := prog_14_method_44_code
def yX12_isPaired : MethodName := ⟨RX12, "isPaired", "(I)Z"⟩
abbrev cX12_places : ByteArray := prog_14_method_45_code
def yX12_places : MethodName := ⟨RX12, "places", "()I"⟩
abbrev cX12_counts : ByteArray := prog_14_method_46_code
def yX12_counts : MethodName := ⟨RX12, "counts", "(II)Z"⟩
abbrev cX12_countOf : ByteArray := prog_14_method_47_code
def yX12_countOf : MethodName := ⟨RX12, "countOf", "(II)I"⟩
abbrev cX12_sumOf : ByteArray := prog_14_method_48_code
def yX12_sumOf : MethodName := ⟨RX12, "sumOf", "(II)I"⟩
abbrev cX12_mark : ByteArray := prog_14_method_49_code
def yX12_mark : MethodName := ⟨RX12, "mark", "(III)I"⟩
abbrev cX12_divisor : ByteArray := prog_14_method_50_code
def yX12_divisor : MethodName := ⟨RX12, "divisor", "(JJ)J"⟩
abbrev cX12_addFraction : ByteArray := prog_14_method_51_code
def yX12_addFraction : MethodName := ⟨RX12, "addFraction", "(JJ)V"⟩
abbrev cX12_hasWorth : ByteArray := prog_14_method_52_code
def yX12_hasWorth : MethodName := ⟨RX12, "hasWorth", "(I)Z"⟩
abbrev cX12_whole : ByteArray := prog_14_method_53_code
def yX12_whole : MethodName := ⟨RX12, "whole", "(I)I"⟩
abbrev cX12_worth : ByteArray := prog_14_method_54_code
def yX12_worth : MethodName := ⟨RX12, "worth", "(II)J"⟩
abbrev cX12_isFit : ByteArray := prog_14_method_55_code
def yX12_isFit : MethodName := ⟨RX12, "isFit", "(II)Z"⟩
abbrev cX12_fit : ByteArray := prog_14_method_56_code
def yX12_fit : MethodName := ⟨RX12, "fit", "(II)I"⟩
abbrev cX12_choose : ByteArray := prog_14_method_57_code
def yX12_choose : MethodName := ⟨RX12, "choose", "(I)I"⟩
abbrev cX12_grant : ByteArray := prog_14_method_58_code
def yX12_grant : MethodName := ⟨RX12, "grant", "(IIIII)I"⟩
abbrev cX12_partOf : ByteArray := prog_14_method_59_code
def yX12_partOf : MethodName := ⟨RX12, "partOf", "(I)I"⟩
abbrev cX12_isDue : ByteArray := prog_14_method_60_code
def yX12_isDue : MethodName := ⟨RX12, "isDue", "(I)Z"⟩
abbrev cX12_lossOf : ByteArray := prog_14_method_61_code
def yX12_lossOf : MethodName := ⟨RX12, "lossOf", "(II)I"⟩
abbrev cX12_proof : ByteArray := prog_14_method_62_code
def yX12_proof : MethodName := ⟨RX12, "proof", "(II)I"⟩
abbrev cX12_due : ByteArray := prog_14_method_63_code
def yX12_due : MethodName := ⟨RX12, "due", "(II)I"⟩
abbrev cX12_stop : ByteArray := prog_14_method_64_code
def yX12_stop : MethodName := ⟨RX12, "stop", "(I)I"⟩
abbrev cX12_back : ByteArray := prog_14_method_65_code
def yX12_back : MethodName := ⟨RX12, "back", "(II)I"⟩
abbrev cX12_count : ByteArray := prog_14_method_66_code
def yX12_count : MethodName := ⟨RX12, "count", "(I)I"⟩
abbrev cX12_sheet : ByteArray := prog_14_method_67_code
def yX12_sheet : MethodName := ⟨RX12, "sheet", "(III)I"⟩
abbrev cX12_cell : ByteArray := prog_14_method_68_code
def yX12_cell : MethodName := ⟨RX12, "cell", "(III)I"⟩
abbrev cX12_taken : ByteArray := prog_14_method_69_code
def yX12_taken : MethodName := ⟨RX12, "taken", "(II)I"⟩
def RJ9 : String := "java/lang/Math"
abbrev cJ9_abs_067f4 : ByteArray := prog_15_method_61_code
def yJ9_abs_067f4 : MethodName := ⟨RJ9, "abs", "(J)J"⟩
abbrev cJ9_max_7cf53 : ByteArray := prog_15_method_65_code
def yJ9_max_7cf53 : MethodName := ⟨RJ9, "max", "(II)I"⟩
abbrev cJ9_min_7cf53 : ByteArray := prog_15_method_69_code
def yJ9_min_7cf53 : MethodName := ⟨RJ9, "min", "(II)I"⟩
def RJ0 : String := "java/lang/String"
abbrev cJ0_length_8abf5 : ByteArray := prog_16_method_54_code
def yJ0_length_8abf5 : MethodName := ⟨RJ0, "length", "()I"⟩
abbrev cJ0_charAt_5068e : ByteArray := prog_16_method_56_code
def yJ0_charAt_5068e : MethodName := ⟨RJ0, "charAt", "(I)C"⟩
abbrev cJ0_coder_7d493 : ByteArray := prog_16_method_152_code
def yJ0_coder_7d493 : MethodName := ⟨RJ0, "coder", "()B"⟩
abbrev cJ0_isLatin1_aae02 : ByteArray := prog_16_method_154_code
def yJ0_isLatin1_aae02 : MethodName := ⟨RJ0, "isLatin1", "()Z"⟩
abbrev cJ0_checkIndex_df160 : ByteArray := prog_16_method_155_code
def yJ0_checkIndex_df160 : MethodName := ⟨RJ0, "checkIndex", "(II)V"⟩
def RJ1 : String := "java/lang/StringLatin1"
abbrev cJ1_charAt_3b067 : ByteArray := prog_17_method_2_code
def yJ1_charAt_3b067 : MethodName := ⟨RJ1, "charAt", "([BI)C"⟩
def RJ2 : String := "java/lang/StringUTF16"
abbrev cJ2_getChar_3b067 : ByteArray := prog_18_method_5_code
def yJ2_getChar_3b067 : MethodName := ⟨RJ2, "getChar", "([BI)C"⟩
abbrev cJ2_length_9d52b : ByteArray := prog_18_method_6_code
def yJ2_length_9d52b : MethodName := ⟨RJ2, "length", "([B)I"⟩
abbrev cJ2_charAt_3b067 : ByteArray := prog_18_method_83_code
def yJ2_charAt_3b067 : MethodName := ⟨RJ2, "charAt", "([BI)C"⟩
abbrev cJ2_checkIndex_2214a : ByteArray := prog_18_method_91_code
def yJ2_checkIndex_2214a : MethodName := ⟨RJ2, "checkIndex", "(I[B)V"⟩
def RJ3 : String := "jdk/internal/util/Preconditions"
abbrev cJ3_checkIndex_8e157 : ByteArray := prog_19_method_11_code
def yJ3_checkIndex_8e157 : MethodName := ⟨RJ3, "checkIndex", "(IILjava/util/function/BiFunction;)I"⟩
def RL : String := "GiftOfficeLaw"
abbrev cL_law : ByteArray := code
def yL_law : MethodName := ⟨RL, "law", "([I)Z"⟩
abbrev vwCl : List vw_C := [(RX0, TX0, 12), (RX1, TX1, 11), (RX2, TX2, 5), (RX3, TX3, 9), (RX4, TX4, 8), (RX5, TX5, 3), (RX6, TX6, 5), (RX7, TX7, 8), (RX8, TX8, 3), (RX9, TX9, 7), (RX10, TX10, 5), (RX11, TX11, 16), (RX12, TX12, 56)]
def tb : List Cond := lw_tbl.filter goodWord
theorem tb1 {w : Cond} (k : Nat) (h : tables_1[k]? = some w) (g : goodWord w = true) : w ∈ tb := List.mem_filter.mpr ⟨List.mem_append_right _ (List.mem_of_getElem? h), g⟩
theorem tb0 {w : Cond} (k : Nat) (h : (k2_sels lw_privs)[k]? = some w) (g : goodWord w = true) : w ∈ tb := List.mem_filter.mpr ⟨List.mem_append_left _ (List.mem_of_getElem? h), g⟩
theorem tbp {ws : List Cond} (ps : List Nat) (h : ws = ps.filterMap (fun i => tables_1[i]?)) (g : ws.all goodWord = true) : ∀ w ∈ ws, w ∈ tb := by
  intro w hw
  have h1 := List.all_eq_true.mp g w hw
  rw [h] at hw
  obtain ⟨i, -, hi⟩ := List.mem_filterMap.mp hw
  exact tb1 i hi h1
theorem tb_good : ∀ w ∈ tb, (w.onTables && w.keeps) = true ∨ ∃ ty, w = .arrayClass ty := fun w h => good_of_word (List.mem_filter.mp h).2
theorem uX0 : ∀ w ∈ u_ws RX0 TX0 12, w ∈ tb := tbp [597, 599, 601, 603, 605, 607, 609, 611, 613, 615, 617, 619] (by decide +kernel) (by decide +kernel)
theorem uX1 : ∀ w ∈ u_ws RX1 TX1 11, w ∈ tb := tbp [134, 136, 138, 140, 142, 144, 146, 148, 150, 152, 154] (by decide +kernel) (by decide +kernel)
theorem uX2 : ∀ w ∈ u_ws RX2 TX2 5, w ∈ tb := tbp [452, 454, 456, 458, 460] (by decide +kernel) (by decide +kernel)
theorem uX3 : ∀ w ∈ u_ws RX3 TX3 9, w ∈ tb := tbp [853, 855, 857, 859, 861, 863, 865, 867, 869] (by decide +kernel) (by decide +kernel)
theorem uX4 : ∀ w ∈ u_ws RX4 TX4 8, w ∈ tb := tbp [171, 173, 175, 177, 179, 181, 183, 185] (by decide +kernel) (by decide +kernel)
theorem uX5 : ∀ w ∈ u_ws RX5 TX5 3, w ∈ tb := tbp [77, 79, 81] (by decide +kernel) (by decide +kernel)
theorem uX6 : ∀ w ∈ u_ws RX6 TX6 5, w ∈ tb := tbp [502, 504, 506, 508, 510] (by decide +kernel) (by decide +kernel)
theorem uX7 : ∀ w ∈ u_ws RX7 TX7 8, w ∈ tb := tbp [100, 102, 104, 106, 108, 110, 112, 114] (by decide +kernel) (by decide +kernel)
theorem uX8 : ∀ w ∈ u_ws RX8 TX8 3, w ∈ tb := tbp [376, 378, 380] (by decide +kernel) (by decide +kernel)
theorem uX9 : ∀ w ∈ u_ws RX9 TX9 7, w ∈ tb := tbp [51, 53, 55, 57, 59, 61, 63] (by decide +kernel) (by decide +kernel)
theorem uX10 : ∀ w ∈ u_ws RX10 TX10 5, w ∈ tb := tbp [258, 260, 262, 264, 266] (by decide +kernel) (by decide +kernel)
theorem uX11 : ∀ w ∈ u_ws RX11 TX11 16, w ∈ tb := tbp [399, 401, 403, 405, 407, 409, 411, 413, 415, 417, 419, 421, 423, 425, 427, 429] (by decide +kernel) (by decide +kernel)
theorem uX12 : ∀ w ∈ u_ws RX12 TX12 56, w ∈ tb := tbp [1134, 1136, 1138, 1140, 1142, 1144, 1146, 1148, 1150, 1152, 1154, 1156, 1158, 1160, 1162, 1164, 1166, 1168, 1170, 1172, 1174, 1176, 1178, 1180, 1182, 1184, 1186, 1188, 1190, 1192, 1194, 1196, 1198, 1200, 1202, 1204, 1206, 1208, 1210, 1212, 1214, 1216, 1218, 1220, 1222, 1224, 1226, 1228, 1230, 1232, 1234, 1236, 1238, 1240, 1242, 1244] (by decide +kernel) (by decide +kernel)
def srefL : List (List Nat) := [[], [7, 11], [0, 1, 2, 3, 4, 5], [], [0], [0, 1, 2, 3, 4], [], [], [0, 1], [0], [0, 2, 3, 4], [0, 1, 2], [0, 1, 2, 3, 4, 5, 6, 7, 8, 9, 10], [1, 2, 3, 4, 5, 7, 8, 9, 11, 12, 13, 14, 15, 16, 17, 18, 19, 20, 21, 22, 23, 24, 25, 26, 27, 28, 32, 33, 34, 35, 36, 37, 42, 44, 45, 46, 47, 50, 51, 52, 53, 54, 55]]
def sref (z k : Int) : Bool := decide (30 ≤ z) || (decide (1 ≤ z ∧ z ≤ 13) && (srefL.getD z.toNat []).contains k.toNat)
abbrev gG : Type := va_G × Nat × (Int → Nat) × mRs
abbrev gX (g : gG) : mX := (g.1, vwCl, tb, g.2.1, g.2.2.1, g.2.2.2, sref)
theorem ckX0 (ci : Nat) (h : ci = 0) (g : gG) : ci < 15 ∧ 12 < 1000000 ∧ (∀ w ∈ u_ws RX0 TX0 12, w ∈ xT (gX g)) ∧
    (∀ k, k < 12 → ∃ ty : FieldType, parseFieldDescriptor (TX0 k).2.2.1 = some ty ∧ (dtag (TX0 k).2.2.1 = 0 ∧ ty = .int ∨ dtag (TX0 k).2.2.1 = 1 ∧ ty = .long ∨ dtag (TX0 k).2.2.1 = 2 ∧ ((∃ n, ty = .object n) ∨ ∃ t, ty = .array t))) ∧
    (∀ a, a < 12 → ∀ b, b < 12 → a ≠ b → (TX0 a).2.1 ≠ (TX0 b).2.1) ∧
    (∀ k : Nat, k < 12 → (sref ((ci : Int) + 1) (k : Int) = true ↔ dtag (TX0 k).2.2.1 = 2)) ∧ (∀ k : Int, 0 ≤ k → sref ((ci : Int) + 30) k = true) := by
  subst h
  refine ⟨by decide, by decide, uX0, fun k hk => ?_, nmX0, by decide +kernel, fun k _ => by unfold sref; rw [show decide (30 ≤ ((0 : Nat) : Int) + 30) = true from by decide]; rfl⟩
  match k, hk with
  | 0, _ => exact ⟨.int, rfl, Or.inl ⟨rfl, rfl⟩⟩
  | 1, _ => exact ⟨.int, rfl, Or.inl ⟨rfl, rfl⟩⟩
  | 2, _ => exact ⟨.int, rfl, Or.inl ⟨rfl, rfl⟩⟩
  | 3, _ => exact ⟨.int, rfl, Or.inl ⟨rfl, rfl⟩⟩
  | 4, _ => exact ⟨.int, rfl, Or.inl ⟨rfl, rfl⟩⟩
  | 5, _ => exact ⟨.int, rfl, Or.inl ⟨rfl, rfl⟩⟩
  | 6, _ => exact ⟨.int, rfl, Or.inl ⟨rfl, rfl⟩⟩
  | 7, _ => exact ⟨_, rfl, Or.inr (Or.inr ⟨rfl, Or.inr ⟨_, rfl⟩⟩)⟩
  | 8, _ => exact ⟨.int, rfl, Or.inl ⟨rfl, rfl⟩⟩
  | 9, _ => exact ⟨.int, rfl, Or.inl ⟨rfl, rfl⟩⟩
  | 10, _ => exact ⟨.int, rfl, Or.inl ⟨rfl, rfl⟩⟩
  | 11, _ => exact ⟨_, rfl, Or.inr (Or.inr ⟨rfl, Or.inl ⟨_, rfl⟩⟩)⟩
  | k + 12, hk => exact absurd hk (by omega)
theorem ckX1 (ci : Nat) (h : ci = 1) (g : gG) : ci < 15 ∧ 11 < 1000000 ∧ (∀ w ∈ u_ws RX1 TX1 11, w ∈ xT (gX g)) ∧
    (∀ k, k < 11 → ∃ ty : FieldType, parseFieldDescriptor (TX1 k).2.2.1 = some ty ∧ (dtag (TX1 k).2.2.1 = 0 ∧ ty = .int ∨ dtag (TX1 k).2.2.1 = 1 ∧ ty = .long ∨ dtag (TX1 k).2.2.1 = 2 ∧ ((∃ n, ty = .object n) ∨ ∃ t, ty = .array t))) ∧
    (∀ a, a < 11 → ∀ b, b < 11 → a ≠ b → (TX1 a).2.1 ≠ (TX1 b).2.1) ∧
    (∀ k : Nat, k < 11 → (sref ((ci : Int) + 1) (k : Int) = true ↔ dtag (TX1 k).2.2.1 = 2)) ∧ (∀ k : Int, 0 ≤ k → sref ((ci : Int) + 30) k = true) := by
  subst h
  refine ⟨by decide, by decide, uX1, fun k hk => ?_, nmX1, by decide +kernel, fun k _ => by unfold sref; rw [show decide (30 ≤ ((1 : Nat) : Int) + 30) = true from by decide]; rfl⟩
  match k, hk with
  | 0, _ => exact ⟨_, rfl, Or.inr (Or.inr ⟨rfl, Or.inr ⟨_, rfl⟩⟩)⟩
  | 1, _ => exact ⟨_, rfl, Or.inr (Or.inr ⟨rfl, Or.inr ⟨_, rfl⟩⟩)⟩
  | 2, _ => exact ⟨_, rfl, Or.inr (Or.inr ⟨rfl, Or.inr ⟨_, rfl⟩⟩)⟩
  | 3, _ => exact ⟨_, rfl, Or.inr (Or.inr ⟨rfl, Or.inr ⟨_, rfl⟩⟩)⟩
  | 4, _ => exact ⟨_, rfl, Or.inr (Or.inr ⟨rfl, Or.inr ⟨_, rfl⟩⟩)⟩
  | 5, _ => exact ⟨_, rfl, Or.inr (Or.inr ⟨rfl, Or.inr ⟨_, rfl⟩⟩)⟩
  | 6, _ => exact ⟨.int, rfl, Or.inl ⟨rfl, rfl⟩⟩
  | 7, _ => exact ⟨.int, rfl, Or.inl ⟨rfl, rfl⟩⟩
  | 8, _ => exact ⟨.int, rfl, Or.inl ⟨rfl, rfl⟩⟩
  | 9, _ => exact ⟨.int, rfl, Or.inl ⟨rfl, rfl⟩⟩
  | 10, _ => exact ⟨.int, rfl, Or.inl ⟨rfl, rfl⟩⟩
  | k + 11, hk => exact absurd hk (by omega)
theorem ckX2 (ci : Nat) (h : ci = 2) (g : gG) : ci < 15 ∧ 5 < 1000000 ∧ (∀ w ∈ u_ws RX2 TX2 5, w ∈ xT (gX g)) ∧
    (∀ k, k < 5 → ∃ ty : FieldType, parseFieldDescriptor (TX2 k).2.2.1 = some ty ∧ (dtag (TX2 k).2.2.1 = 0 ∧ ty = .int ∨ dtag (TX2 k).2.2.1 = 1 ∧ ty = .long ∨ dtag (TX2 k).2.2.1 = 2 ∧ ((∃ n, ty = .object n) ∨ ∃ t, ty = .array t))) ∧
    (∀ a, a < 5 → ∀ b, b < 5 → a ≠ b → (TX2 a).2.1 ≠ (TX2 b).2.1) ∧
    (∀ k : Nat, k < 5 → (sref ((ci : Int) + 1) (k : Int) = true ↔ dtag (TX2 k).2.2.1 = 2)) ∧ (∀ k : Int, 0 ≤ k → sref ((ci : Int) + 30) k = true) := by
  subst h
  refine ⟨by decide, by decide, uX2, fun k hk => ?_, nmX2, by decide +kernel, fun k _ => by unfold sref; rw [show decide (30 ≤ ((2 : Nat) : Int) + 30) = true from by decide]; rfl⟩
  match k, hk with
  | 0, _ => exact ⟨.int, rfl, Or.inl ⟨rfl, rfl⟩⟩
  | 1, _ => exact ⟨.int, rfl, Or.inl ⟨rfl, rfl⟩⟩
  | 2, _ => exact ⟨.int, rfl, Or.inl ⟨rfl, rfl⟩⟩
  | 3, _ => exact ⟨.int, rfl, Or.inl ⟨rfl, rfl⟩⟩
  | 4, _ => exact ⟨.int, rfl, Or.inl ⟨rfl, rfl⟩⟩
  | k + 5, hk => exact absurd hk (by omega)
theorem ckX3 (ci : Nat) (h : ci = 3) (g : gG) : ci < 15 ∧ 9 < 1000000 ∧ (∀ w ∈ u_ws RX3 TX3 9, w ∈ xT (gX g)) ∧
    (∀ k, k < 9 → ∃ ty : FieldType, parseFieldDescriptor (TX3 k).2.2.1 = some ty ∧ (dtag (TX3 k).2.2.1 = 0 ∧ ty = .int ∨ dtag (TX3 k).2.2.1 = 1 ∧ ty = .long ∨ dtag (TX3 k).2.2.1 = 2 ∧ ((∃ n, ty = .object n) ∨ ∃ t, ty = .array t))) ∧
    (∀ a, a < 9 → ∀ b, b < 9 → a ≠ b → (TX3 a).2.1 ≠ (TX3 b).2.1) ∧
    (∀ k : Nat, k < 9 → (sref ((ci : Int) + 1) (k : Int) = true ↔ dtag (TX3 k).2.2.1 = 2)) ∧ (∀ k : Int, 0 ≤ k → sref ((ci : Int) + 30) k = true) := by
  subst h
  refine ⟨by decide, by decide, uX3, fun k hk => ?_, nmX3, by decide +kernel, fun k _ => by unfold sref; rw [show decide (30 ≤ ((3 : Nat) : Int) + 30) = true from by decide]; rfl⟩
  match k, hk with
  | 0, _ => exact ⟨_, rfl, Or.inr (Or.inr ⟨rfl, Or.inl ⟨_, rfl⟩⟩)⟩
  | 1, _ => exact ⟨.int, rfl, Or.inl ⟨rfl, rfl⟩⟩
  | 2, _ => exact ⟨.int, rfl, Or.inl ⟨rfl, rfl⟩⟩
  | 3, _ => exact ⟨.int, rfl, Or.inl ⟨rfl, rfl⟩⟩
  | 4, _ => exact ⟨.int, rfl, Or.inl ⟨rfl, rfl⟩⟩
  | 5, _ => exact ⟨.int, rfl, Or.inl ⟨rfl, rfl⟩⟩
  | 6, _ => exact ⟨.int, rfl, Or.inl ⟨rfl, rfl⟩⟩
  | 7, _ => exact ⟨.int, rfl, Or.inl ⟨rfl, rfl⟩⟩
  | 8, _ => exact ⟨.int, rfl, Or.inl ⟨rfl, rfl⟩⟩
  | k + 9, hk => exact absurd hk (by omega)
theorem ckX4 (ci : Nat) (h : ci = 4) (g : gG) : ci < 15 ∧ 8 < 1000000 ∧ (∀ w ∈ u_ws RX4 TX4 8, w ∈ xT (gX g)) ∧
    (∀ k, k < 8 → ∃ ty : FieldType, parseFieldDescriptor (TX4 k).2.2.1 = some ty ∧ (dtag (TX4 k).2.2.1 = 0 ∧ ty = .int ∨ dtag (TX4 k).2.2.1 = 1 ∧ ty = .long ∨ dtag (TX4 k).2.2.1 = 2 ∧ ((∃ n, ty = .object n) ∨ ∃ t, ty = .array t))) ∧
    (∀ a, a < 8 → ∀ b, b < 8 → a ≠ b → (TX4 a).2.1 ≠ (TX4 b).2.1) ∧
    (∀ k : Nat, k < 8 → (sref ((ci : Int) + 1) (k : Int) = true ↔ dtag (TX4 k).2.2.1 = 2)) ∧ (∀ k : Int, 0 ≤ k → sref ((ci : Int) + 30) k = true) := by
  subst h
  refine ⟨by decide, by decide, uX4, fun k hk => ?_, nmX4, by decide +kernel, fun k _ => by unfold sref; rw [show decide (30 ≤ ((4 : Nat) : Int) + 30) = true from by decide]; rfl⟩
  match k, hk with
  | 0, _ => exact ⟨_, rfl, Or.inr (Or.inr ⟨rfl, Or.inr ⟨_, rfl⟩⟩)⟩
  | 1, _ => exact ⟨_, rfl, Or.inr (Or.inr ⟨rfl, Or.inr ⟨_, rfl⟩⟩)⟩
  | 2, _ => exact ⟨_, rfl, Or.inr (Or.inr ⟨rfl, Or.inr ⟨_, rfl⟩⟩)⟩
  | 3, _ => exact ⟨_, rfl, Or.inr (Or.inr ⟨rfl, Or.inr ⟨_, rfl⟩⟩)⟩
  | 4, _ => exact ⟨_, rfl, Or.inr (Or.inr ⟨rfl, Or.inr ⟨_, rfl⟩⟩)⟩
  | 5, _ => exact ⟨.int, rfl, Or.inl ⟨rfl, rfl⟩⟩
  | 6, _ => exact ⟨.int, rfl, Or.inl ⟨rfl, rfl⟩⟩
  | 7, _ => exact ⟨.int, rfl, Or.inl ⟨rfl, rfl⟩⟩
  | k + 8, hk => exact absurd hk (by omega)
theorem ckX5 (ci : Nat) (h : ci = 5) (g : gG) : ci < 15 ∧ 3 < 1000000 ∧ (∀ w ∈ u_ws RX5 TX5 3, w ∈ xT (gX g)) ∧
    (∀ k, k < 3 → ∃ ty : FieldType, parseFieldDescriptor (TX5 k).2.2.1 = some ty ∧ (dtag (TX5 k).2.2.1 = 0 ∧ ty = .int ∨ dtag (TX5 k).2.2.1 = 1 ∧ ty = .long ∨ dtag (TX5 k).2.2.1 = 2 ∧ ((∃ n, ty = .object n) ∨ ∃ t, ty = .array t))) ∧
    (∀ a, a < 3 → ∀ b, b < 3 → a ≠ b → (TX5 a).2.1 ≠ (TX5 b).2.1) ∧
    (∀ k : Nat, k < 3 → (sref ((ci : Int) + 1) (k : Int) = true ↔ dtag (TX5 k).2.2.1 = 2)) ∧ (∀ k : Int, 0 ≤ k → sref ((ci : Int) + 30) k = true) := by
  subst h
  refine ⟨by decide, by decide, uX5, fun k hk => ?_, nmX5, by decide +kernel, fun k _ => by unfold sref; rw [show decide (30 ≤ ((5 : Nat) : Int) + 30) = true from by decide]; rfl⟩
  match k, hk with
  | 0, _ => exact ⟨.int, rfl, Or.inl ⟨rfl, rfl⟩⟩
  | 1, _ => exact ⟨.int, rfl, Or.inl ⟨rfl, rfl⟩⟩
  | 2, _ => exact ⟨.int, rfl, Or.inl ⟨rfl, rfl⟩⟩
  | k + 3, hk => exact absurd hk (by omega)
theorem ckX6 (ci : Nat) (h : ci = 6) (g : gG) : ci < 15 ∧ 5 < 1000000 ∧ (∀ w ∈ u_ws RX6 TX6 5, w ∈ xT (gX g)) ∧
    (∀ k, k < 5 → ∃ ty : FieldType, parseFieldDescriptor (TX6 k).2.2.1 = some ty ∧ (dtag (TX6 k).2.2.1 = 0 ∧ ty = .int ∨ dtag (TX6 k).2.2.1 = 1 ∧ ty = .long ∨ dtag (TX6 k).2.2.1 = 2 ∧ ((∃ n, ty = .object n) ∨ ∃ t, ty = .array t))) ∧
    (∀ a, a < 5 → ∀ b, b < 5 → a ≠ b → (TX6 a).2.1 ≠ (TX6 b).2.1) ∧
    (∀ k : Nat, k < 5 → (sref ((ci : Int) + 1) (k : Int) = true ↔ dtag (TX6 k).2.2.1 = 2)) ∧ (∀ k : Int, 0 ≤ k → sref ((ci : Int) + 30) k = true) := by
  subst h
  refine ⟨by decide, by decide, uX6, fun k hk => ?_, nmX6, by decide +kernel, fun k _ => by unfold sref; rw [show decide (30 ≤ ((6 : Nat) : Int) + 30) = true from by decide]; rfl⟩
  match k, hk with
  | 0, _ => exact ⟨.int, rfl, Or.inl ⟨rfl, rfl⟩⟩
  | 1, _ => exact ⟨.int, rfl, Or.inl ⟨rfl, rfl⟩⟩
  | 2, _ => exact ⟨.int, rfl, Or.inl ⟨rfl, rfl⟩⟩
  | 3, _ => exact ⟨.int, rfl, Or.inl ⟨rfl, rfl⟩⟩
  | 4, _ => exact ⟨.int, rfl, Or.inl ⟨rfl, rfl⟩⟩
  | k + 5, hk => exact absurd hk (by omega)
theorem ckX7 (ci : Nat) (h : ci = 7) (g : gG) : ci < 15 ∧ 8 < 1000000 ∧ (∀ w ∈ u_ws RX7 TX7 8, w ∈ xT (gX g)) ∧
    (∀ k, k < 8 → ∃ ty : FieldType, parseFieldDescriptor (TX7 k).2.2.1 = some ty ∧ (dtag (TX7 k).2.2.1 = 0 ∧ ty = .int ∨ dtag (TX7 k).2.2.1 = 1 ∧ ty = .long ∨ dtag (TX7 k).2.2.1 = 2 ∧ ((∃ n, ty = .object n) ∨ ∃ t, ty = .array t))) ∧
    (∀ a, a < 8 → ∀ b, b < 8 → a ≠ b → (TX7 a).2.1 ≠ (TX7 b).2.1) ∧
    (∀ k : Nat, k < 8 → (sref ((ci : Int) + 1) (k : Int) = true ↔ dtag (TX7 k).2.2.1 = 2)) ∧ (∀ k : Int, 0 ≤ k → sref ((ci : Int) + 30) k = true) := by
  subst h
  refine ⟨by decide, by decide, uX7, fun k hk => ?_, nmX7, by decide +kernel, fun k _ => by unfold sref; rw [show decide (30 ≤ ((7 : Nat) : Int) + 30) = true from by decide]; rfl⟩
  match k, hk with
  | 0, _ => exact ⟨_, rfl, Or.inr (Or.inr ⟨rfl, Or.inr ⟨_, rfl⟩⟩)⟩
  | 1, _ => exact ⟨_, rfl, Or.inr (Or.inr ⟨rfl, Or.inr ⟨_, rfl⟩⟩)⟩
  | 2, _ => exact ⟨.int, rfl, Or.inl ⟨rfl, rfl⟩⟩
  | 3, _ => exact ⟨.int, rfl, Or.inl ⟨rfl, rfl⟩⟩
  | 4, _ => exact ⟨.long, rfl, Or.inr (Or.inl ⟨rfl, rfl⟩)⟩
  | 5, _ => exact ⟨.int, rfl, Or.inl ⟨rfl, rfl⟩⟩
  | 6, _ => exact ⟨.long, rfl, Or.inr (Or.inl ⟨rfl, rfl⟩)⟩
  | 7, _ => exact ⟨.long, rfl, Or.inr (Or.inl ⟨rfl, rfl⟩)⟩
  | k + 8, hk => exact absurd hk (by omega)
theorem ckX8 (ci : Nat) (h : ci = 8) (g : gG) : ci < 15 ∧ 3 < 1000000 ∧ (∀ w ∈ u_ws RX8 TX8 3, w ∈ xT (gX g)) ∧
    (∀ k, k < 3 → ∃ ty : FieldType, parseFieldDescriptor (TX8 k).2.2.1 = some ty ∧ (dtag (TX8 k).2.2.1 = 0 ∧ ty = .int ∨ dtag (TX8 k).2.2.1 = 1 ∧ ty = .long ∨ dtag (TX8 k).2.2.1 = 2 ∧ ((∃ n, ty = .object n) ∨ ∃ t, ty = .array t))) ∧
    (∀ a, a < 3 → ∀ b, b < 3 → a ≠ b → (TX8 a).2.1 ≠ (TX8 b).2.1) ∧
    (∀ k : Nat, k < 3 → (sref ((ci : Int) + 1) (k : Int) = true ↔ dtag (TX8 k).2.2.1 = 2)) ∧ (∀ k : Int, 0 ≤ k → sref ((ci : Int) + 30) k = true) := by
  subst h
  refine ⟨by decide, by decide, uX8, fun k hk => ?_, nmX8, by decide +kernel, fun k _ => by unfold sref; rw [show decide (30 ≤ ((8 : Nat) : Int) + 30) = true from by decide]; rfl⟩
  match k, hk with
  | 0, _ => exact ⟨_, rfl, Or.inr (Or.inr ⟨rfl, Or.inr ⟨_, rfl⟩⟩)⟩
  | 1, _ => exact ⟨.int, rfl, Or.inl ⟨rfl, rfl⟩⟩
  | 2, _ => exact ⟨.int, rfl, Or.inl ⟨rfl, rfl⟩⟩
  | k + 3, hk => exact absurd hk (by omega)
theorem ckX9 (ci : Nat) (h : ci = 9) (g : gG) : ci < 15 ∧ 7 < 1000000 ∧ (∀ w ∈ u_ws RX9 TX9 7, w ∈ xT (gX g)) ∧
    (∀ k, k < 7 → ∃ ty : FieldType, parseFieldDescriptor (TX9 k).2.2.1 = some ty ∧ (dtag (TX9 k).2.2.1 = 0 ∧ ty = .int ∨ dtag (TX9 k).2.2.1 = 1 ∧ ty = .long ∨ dtag (TX9 k).2.2.1 = 2 ∧ ((∃ n, ty = .object n) ∨ ∃ t, ty = .array t))) ∧
    (∀ a, a < 7 → ∀ b, b < 7 → a ≠ b → (TX9 a).2.1 ≠ (TX9 b).2.1) ∧
    (∀ k : Nat, k < 7 → (sref ((ci : Int) + 1) (k : Int) = true ↔ dtag (TX9 k).2.2.1 = 2)) ∧ (∀ k : Int, 0 ≤ k → sref ((ci : Int) + 30) k = true) := by
  subst h
  refine ⟨by decide, by decide, uX9, fun k hk => ?_, nmX9, by decide +kernel, fun k _ => by unfold sref; rw [show decide (30 ≤ ((9 : Nat) : Int) + 30) = true from by decide]; rfl⟩
  match k, hk with
  | 0, _ => exact ⟨_, rfl, Or.inr (Or.inr ⟨rfl, Or.inr ⟨_, rfl⟩⟩)⟩
  | 1, _ => exact ⟨.int, rfl, Or.inl ⟨rfl, rfl⟩⟩
  | 2, _ => exact ⟨_, rfl, Or.inr (Or.inr ⟨rfl, Or.inr ⟨_, rfl⟩⟩)⟩
  | 3, _ => exact ⟨_, rfl, Or.inr (Or.inr ⟨rfl, Or.inr ⟨_, rfl⟩⟩)⟩
  | 4, _ => exact ⟨_, rfl, Or.inr (Or.inr ⟨rfl, Or.inr ⟨_, rfl⟩⟩)⟩
  | 5, _ => exact ⟨.int, rfl, Or.inl ⟨rfl, rfl⟩⟩
  | 6, _ => exact ⟨.int, rfl, Or.inl ⟨rfl, rfl⟩⟩
  | k + 7, hk => exact absurd hk (by omega)
theorem ckX10 (ci : Nat) (h : ci = 10) (g : gG) : ci < 15 ∧ 5 < 1000000 ∧ (∀ w ∈ u_ws RX10 TX10 5, w ∈ xT (gX g)) ∧
    (∀ k, k < 5 → ∃ ty : FieldType, parseFieldDescriptor (TX10 k).2.2.1 = some ty ∧ (dtag (TX10 k).2.2.1 = 0 ∧ ty = .int ∨ dtag (TX10 k).2.2.1 = 1 ∧ ty = .long ∨ dtag (TX10 k).2.2.1 = 2 ∧ ((∃ n, ty = .object n) ∨ ∃ t, ty = .array t))) ∧
    (∀ a, a < 5 → ∀ b, b < 5 → a ≠ b → (TX10 a).2.1 ≠ (TX10 b).2.1) ∧
    (∀ k : Nat, k < 5 → (sref ((ci : Int) + 1) (k : Int) = true ↔ dtag (TX10 k).2.2.1 = 2)) ∧ (∀ k : Int, 0 ≤ k → sref ((ci : Int) + 30) k = true) := by
  subst h
  refine ⟨by decide, by decide, uX10, fun k hk => ?_, nmX10, by decide +kernel, fun k _ => by unfold sref; rw [show decide (30 ≤ ((10 : Nat) : Int) + 30) = true from by decide]; rfl⟩
  match k, hk with
  | 0, _ => exact ⟨_, rfl, Or.inr (Or.inr ⟨rfl, Or.inr ⟨_, rfl⟩⟩)⟩
  | 1, _ => exact ⟨_, rfl, Or.inr (Or.inr ⟨rfl, Or.inr ⟨_, rfl⟩⟩)⟩
  | 2, _ => exact ⟨_, rfl, Or.inr (Or.inr ⟨rfl, Or.inr ⟨_, rfl⟩⟩)⟩
  | 3, _ => exact ⟨.int, rfl, Or.inl ⟨rfl, rfl⟩⟩
  | 4, _ => exact ⟨.int, rfl, Or.inl ⟨rfl, rfl⟩⟩
  | k + 5, hk => exact absurd hk (by omega)
theorem ckX11 (ci : Nat) (h : ci = 11) (g : gG) : ci < 15 ∧ 16 < 1000000 ∧ (∀ w ∈ u_ws RX11 TX11 16, w ∈ xT (gX g)) ∧
    (∀ k, k < 16 → ∃ ty : FieldType, parseFieldDescriptor (TX11 k).2.2.1 = some ty ∧ (dtag (TX11 k).2.2.1 = 0 ∧ ty = .int ∨ dtag (TX11 k).2.2.1 = 1 ∧ ty = .long ∨ dtag (TX11 k).2.2.1 = 2 ∧ ((∃ n, ty = .object n) ∨ ∃ t, ty = .array t))) ∧
    (∀ a, a < 16 → ∀ b, b < 16 → a ≠ b → (TX11 a).2.1 ≠ (TX11 b).2.1) ∧
    (∀ k : Nat, k < 16 → (sref ((ci : Int) + 1) (k : Int) = true ↔ dtag (TX11 k).2.2.1 = 2)) ∧ (∀ k : Int, 0 ≤ k → sref ((ci : Int) + 30) k = true) := by
  subst h
  refine ⟨by decide, by decide, uX11, fun k hk => ?_, nmX11, by decide +kernel, fun k _ => by unfold sref; rw [show decide (30 ≤ ((11 : Nat) : Int) + 30) = true from by decide]; rfl⟩
  match k, hk with
  | 0, _ => exact ⟨_, rfl, Or.inr (Or.inr ⟨rfl, Or.inr ⟨_, rfl⟩⟩)⟩
  | 1, _ => exact ⟨_, rfl, Or.inr (Or.inr ⟨rfl, Or.inr ⟨_, rfl⟩⟩)⟩
  | 2, _ => exact ⟨_, rfl, Or.inr (Or.inr ⟨rfl, Or.inr ⟨_, rfl⟩⟩)⟩
  | 3, _ => exact ⟨_, rfl, Or.inr (Or.inr ⟨rfl, Or.inr ⟨_, rfl⟩⟩)⟩
  | 4, _ => exact ⟨_, rfl, Or.inr (Or.inr ⟨rfl, Or.inr ⟨_, rfl⟩⟩)⟩
  | 5, _ => exact ⟨_, rfl, Or.inr (Or.inr ⟨rfl, Or.inl ⟨_, rfl⟩⟩)⟩
  | 6, _ => exact ⟨_, rfl, Or.inr (Or.inr ⟨rfl, Or.inl ⟨_, rfl⟩⟩)⟩
  | 7, _ => exact ⟨_, rfl, Or.inr (Or.inr ⟨rfl, Or.inr ⟨_, rfl⟩⟩)⟩
  | 8, _ => exact ⟨_, rfl, Or.inr (Or.inr ⟨rfl, Or.inl ⟨_, rfl⟩⟩)⟩
  | 9, _ => exact ⟨_, rfl, Or.inr (Or.inr ⟨rfl, Or.inl ⟨_, rfl⟩⟩)⟩
  | 10, _ => exact ⟨_, rfl, Or.inr (Or.inr ⟨rfl, Or.inl ⟨_, rfl⟩⟩)⟩
  | 11, _ => exact ⟨.int, rfl, Or.inl ⟨rfl, rfl⟩⟩
  | 12, _ => exact ⟨.int, rfl, Or.inl ⟨rfl, rfl⟩⟩
  | 13, _ => exact ⟨.int, rfl, Or.inl ⟨rfl, rfl⟩⟩
  | 14, _ => exact ⟨.int, rfl, Or.inl ⟨rfl, rfl⟩⟩
  | 15, _ => exact ⟨.int, rfl, Or.inl ⟨rfl, rfl⟩⟩
  | k + 16, hk => exact absurd hk (by omega)
theorem ckX12 (ci : Nat) (h : ci = 12) (g : gG) : ci < 15 ∧ 56 < 1000000 ∧ (∀ w ∈ u_ws RX12 TX12 56, w ∈ xT (gX g)) ∧
    (∀ k, k < 56 → ∃ ty : FieldType, parseFieldDescriptor (TX12 k).2.2.1 = some ty ∧ (dtag (TX12 k).2.2.1 = 0 ∧ ty = .int ∨ dtag (TX12 k).2.2.1 = 1 ∧ ty = .long ∨ dtag (TX12 k).2.2.1 = 2 ∧ ((∃ n, ty = .object n) ∨ ∃ t, ty = .array t))) ∧
    (∀ a, a < 56 → ∀ b, b < 56 → a ≠ b → (TX12 a).2.1 ≠ (TX12 b).2.1) ∧
    (∀ k : Nat, k < 56 → (sref ((ci : Int) + 1) (k : Int) = true ↔ dtag (TX12 k).2.2.1 = 2)) ∧ (∀ k : Int, 0 ≤ k → sref ((ci : Int) + 30) k = true) := by
  subst h
  refine ⟨by decide, by decide, uX12, fun k hk => ?_, nmX12, by decide +kernel, fun k _ => by unfold sref; rw [show decide (30 ≤ ((12 : Nat) : Int) + 30) = true from by decide]; rfl⟩
  match k, hk with
  | 0, _ => exact ⟨.int, rfl, Or.inl ⟨rfl, rfl⟩⟩
  | 1, _ => exact ⟨_, rfl, Or.inr (Or.inr ⟨rfl, Or.inr ⟨_, rfl⟩⟩)⟩
  | 2, _ => exact ⟨_, rfl, Or.inr (Or.inr ⟨rfl, Or.inr ⟨_, rfl⟩⟩)⟩
  | 3, _ => exact ⟨_, rfl, Or.inr (Or.inr ⟨rfl, Or.inr ⟨_, rfl⟩⟩)⟩
  | 4, _ => exact ⟨_, rfl, Or.inr (Or.inr ⟨rfl, Or.inr ⟨_, rfl⟩⟩)⟩
  | 5, _ => exact ⟨_, rfl, Or.inr (Or.inr ⟨rfl, Or.inr ⟨_, rfl⟩⟩)⟩
  | 6, _ => exact ⟨.int, rfl, Or.inl ⟨rfl, rfl⟩⟩
  | 7, _ => exact ⟨_, rfl, Or.inr (Or.inr ⟨rfl, Or.inr ⟨_, rfl⟩⟩)⟩
  | 8, _ => exact ⟨_, rfl, Or.inr (Or.inr ⟨rfl, Or.inr ⟨_, rfl⟩⟩)⟩
  | 9, _ => exact ⟨_, rfl, Or.inr (Or.inr ⟨rfl, Or.inr ⟨_, rfl⟩⟩)⟩
  | 10, _ => exact ⟨.int, rfl, Or.inl ⟨rfl, rfl⟩⟩
  | 11, _ => exact ⟨_, rfl, Or.inr (Or.inr ⟨rfl, Or.inr ⟨_, rfl⟩⟩)⟩
  | 12, _ => exact ⟨_, rfl, Or.inr (Or.inr ⟨rfl, Or.inr ⟨_, rfl⟩⟩)⟩
  | 13, _ => exact ⟨_, rfl, Or.inr (Or.inr ⟨rfl, Or.inr ⟨_, rfl⟩⟩)⟩
  | 14, _ => exact ⟨_, rfl, Or.inr (Or.inr ⟨rfl, Or.inr ⟨_, rfl⟩⟩)⟩
  | 15, _ => exact ⟨_, rfl, Or.inr (Or.inr ⟨rfl, Or.inr ⟨_, rfl⟩⟩)⟩
  | 16, _ => exact ⟨_, rfl, Or.inr (Or.inr ⟨rfl, Or.inr ⟨_, rfl⟩⟩)⟩
  | 17, _ => exact ⟨_, rfl, Or.inr (Or.inr ⟨rfl, Or.inr ⟨_, rfl⟩⟩)⟩
  | 18, _ => exact ⟨_, rfl, Or.inr (Or.inr ⟨rfl, Or.inr ⟨_, rfl⟩⟩)⟩
  | 19, _ => exact ⟨_, rfl, Or.inr (Or.inr ⟨rfl, Or.inr ⟨_, rfl⟩⟩)⟩
  | 20, _ => exact ⟨_, rfl, Or.inr (Or.inr ⟨rfl, Or.inr ⟨_, rfl⟩⟩)⟩
  | 21, _ => exact ⟨_, rfl, Or.inr (Or.inr ⟨rfl, Or.inr ⟨_, rfl⟩⟩)⟩
  | 22, _ => exact ⟨_, rfl, Or.inr (Or.inr ⟨rfl, Or.inr ⟨_, rfl⟩⟩)⟩
  | 23, _ => exact ⟨_, rfl, Or.inr (Or.inr ⟨rfl, Or.inr ⟨_, rfl⟩⟩)⟩
  | 24, _ => exact ⟨_, rfl, Or.inr (Or.inr ⟨rfl, Or.inr ⟨_, rfl⟩⟩)⟩
  | 25, _ => exact ⟨_, rfl, Or.inr (Or.inr ⟨rfl, Or.inr ⟨_, rfl⟩⟩)⟩
  | 26, _ => exact ⟨_, rfl, Or.inr (Or.inr ⟨rfl, Or.inr ⟨_, rfl⟩⟩)⟩
  | 27, _ => exact ⟨_, rfl, Or.inr (Or.inr ⟨rfl, Or.inr ⟨_, rfl⟩⟩)⟩
  | 28, _ => exact ⟨_, rfl, Or.inr (Or.inr ⟨rfl, Or.inr ⟨_, rfl⟩⟩)⟩
  | 29, _ => exact ⟨.int, rfl, Or.inl ⟨rfl, rfl⟩⟩
  | 30, _ => exact ⟨.int, rfl, Or.inl ⟨rfl, rfl⟩⟩
  | 31, _ => exact ⟨.int, rfl, Or.inl ⟨rfl, rfl⟩⟩
  | 32, _ => exact ⟨_, rfl, Or.inr (Or.inr ⟨rfl, Or.inr ⟨_, rfl⟩⟩)⟩
  | 33, _ => exact ⟨_, rfl, Or.inr (Or.inr ⟨rfl, Or.inr ⟨_, rfl⟩⟩)⟩
  | 34, _ => exact ⟨_, rfl, Or.inr (Or.inr ⟨rfl, Or.inr ⟨_, rfl⟩⟩)⟩
  | 35, _ => exact ⟨_, rfl, Or.inr (Or.inr ⟨rfl, Or.inr ⟨_, rfl⟩⟩)⟩
  | 36, _ => exact ⟨_, rfl, Or.inr (Or.inr ⟨rfl, Or.inr ⟨_, rfl⟩⟩)⟩
  | 37, _ => exact ⟨_, rfl, Or.inr (Or.inr ⟨rfl, Or.inr ⟨_, rfl⟩⟩)⟩
  | 38, _ => exact ⟨.int, rfl, Or.inl ⟨rfl, rfl⟩⟩
  | 39, _ => exact ⟨.int, rfl, Or.inl ⟨rfl, rfl⟩⟩
  | 40, _ => exact ⟨.int, rfl, Or.inl ⟨rfl, rfl⟩⟩
  | 41, _ => exact ⟨.int, rfl, Or.inl ⟨rfl, rfl⟩⟩
  | 42, _ => exact ⟨_, rfl, Or.inr (Or.inr ⟨rfl, Or.inr ⟨_, rfl⟩⟩)⟩
  | 43, _ => exact ⟨.int, rfl, Or.inl ⟨rfl, rfl⟩⟩
  | 44, _ => exact ⟨_, rfl, Or.inr (Or.inr ⟨rfl, Or.inr ⟨_, rfl⟩⟩)⟩
  | 45, _ => exact ⟨_, rfl, Or.inr (Or.inr ⟨rfl, Or.inr ⟨_, rfl⟩⟩)⟩
  | 46, _ => exact ⟨_, rfl, Or.inr (Or.inr ⟨rfl, Or.inr ⟨_, rfl⟩⟩)⟩
  | 47, _ => exact ⟨_, rfl, Or.inr (Or.inr ⟨rfl, Or.inr ⟨_, rfl⟩⟩)⟩
  | 48, _ => exact ⟨.long, rfl, Or.inr (Or.inl ⟨rfl, rfl⟩)⟩
  | 49, _ => exact ⟨.long, rfl, Or.inr (Or.inl ⟨rfl, rfl⟩)⟩
  | 50, _ => exact ⟨_, rfl, Or.inr (Or.inr ⟨rfl, Or.inr ⟨_, rfl⟩⟩)⟩
  | 51, _ => exact ⟨_, rfl, Or.inr (Or.inr ⟨rfl, Or.inr ⟨_, rfl⟩⟩)⟩
  | 52, _ => exact ⟨_, rfl, Or.inr (Or.inr ⟨rfl, Or.inr ⟨_, rfl⟩⟩)⟩
  | 53, _ => exact ⟨_, rfl, Or.inr (Or.inr ⟨rfl, Or.inr ⟨_, rfl⟩⟩)⟩
  | 54, _ => exact ⟨_, rfl, Or.inr (Or.inr ⟨rfl, Or.inr ⟨_, rfl⟩⟩)⟩
  | 55, _ => exact ⟨_, rfl, Or.inr (Or.inr ⟨rfl, Or.inr ⟨_, rfl⟩⟩)⟩
  | k + 56, hk => exact absurd hk (by omega)
theorem gX_ok (g : gG) : xOK (gX g) := by
  refine ⟨tb_good, fun ci r hr => ?_, fun z k h1 h2 => ?_⟩
  · match ci, hr with
    | 0, hr => cases hr; exact ckX0 0 rfl g
    | 1, hr => cases hr; exact ckX1 1 rfl g
    | 2, hr => cases hr; exact ckX2 2 rfl g
    | 3, hr => cases hr; exact ckX3 3 rfl g
    | 4, hr => cases hr; exact ckX4 4 rfl g
    | 5, hr => cases hr; exact ckX5 5 rfl g
    | 6, hr => cases hr; exact ckX6 6 rfl g
    | 7, hr => cases hr; exact ckX7 7 rfl g
    | 8, hr => cases hr; exact ckX8 8 rfl g
    | 9, hr => cases hr; exact ckX9 9 rfl g
    | 10, hr => cases hr; exact ckX10 10 rfl g
    | 11, hr => cases hr; exact ckX11 11 rfl g
    | 12, hr => cases hr; exact ckX12 12 rfl g
    | ci + 13, hr => exact absurd (List.getElem?_eq_some_iff.mp hr).1 (by show ¬ ci + 13 < 13; omega)
  · show sref z k = false
    unfold sref
    rw [show decide (30 ≤ z) = false from decide_eq_false (by omega), show decide (1 ≤ z ∧ z ≤ 13) = false from decide_eq_false (by omega)]
    rfl
