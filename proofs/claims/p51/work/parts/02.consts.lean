def RX0 : String := "SpanTimetable$Cycles"
def TX0 : u_T := fun k => match k with
  | 0 => ("SpanTimetable$Cycles", "count", "I", false)
  | 1 => ("SpanTimetable$Cycles", "lengths", "[I", true)
  | 2 => ("SpanTimetable$Cycles", "steps", "[[I", true)
  | 3 => ("SpanTimetable$Cycles", "signs", "[[I", true)
  | 4 => ("SpanTimetable$Cycles", "inTree", "[Z", true)
  | _ => ("SpanTimetable$Cycles", "ways", "[I", true)
def tyX0 : Nat → FieldType := fun k => match k with
  | 0 => .int
  | 1 => .array .int
  | 2 => .array (.array .int)
  | 3 => .array (.array .int)
  | 4 => .array .boolean
  | _ => .array .int
abbrev cX0_init : ByteArray := prog_2_method_1_code
def yX0_init : MethodName := ⟨RX0, "<init>", "()V"⟩
def RX1 : String := "SpanTimetable$Differences"
def TX1 : u_T := fun k => match k with
  | 0 => ("SpanTimetable$Differences", "roundsMade", "I", false)
  | 1 => ("SpanTimetable$Differences", "sets", "[I", true)
  | 2 => ("SpanTimetable$Differences", "events", "I", false)
  | 3 => ("SpanTimetable$Differences", "period", "I", false)
  | _ => ("SpanTimetable$Differences", "all", "I", false)
def tyX1 : Nat → FieldType := fun k => match k with
  | 0 => .int
  | 1 => .array .int
  | 2 => .int
  | 3 => .int
  | _ => .int
abbrev cX1_init : ByteArray := prog_3_method_1_code
def yX1_init : MethodName := ⟨RX1, "<init>", "()V"⟩
abbrev cX1_startFrom : ByteArray := prog_3_method_2_code
def yX1_startFrom : MethodName := ⟨RX1, "startFrom", "(LSpanTimetable$Plan;)V"⟩
abbrev cX1_keptWith : ByteArray := prog_3_method_3_code
def yX1_keptWith : MethodName := ⟨RX1, "keptWith", "(LSpanTimetable$Plan;I)I"⟩
abbrev cX1_between : ByteArray := prog_3_method_4_code
def yX1_between : MethodName := ⟨RX1, "between", "(II)I"⟩
abbrev cX1_allows : ByteArray := prog_3_method_5_code
def yX1_allows : MethodName := ⟨RX1, "allows", "(III)Z"⟩
abbrev cX1_hasEmptySet : ByteArray := prog_3_method_6_code
def yX1_hasEmptySet : MethodName := ⟨RX1, "hasEmptySet", "()Z"⟩
abbrev cX1_tighten : ByteArray := prog_3_method_7_code
def yX1_tighten : MethodName := ⟨RX1, "tighten", "()V"⟩
abbrev cX1_makeRound : ByteArray := prog_3_method_8_code
def yX1_makeRound : MethodName := ⟨RX1, "makeRound", "()Z"⟩
abbrev cX1_narrow : ByteArray := prog_3_method_9_code
def yX1_narrow : MethodName := ⟨RX1, "narrow", "(III)Z"⟩
abbrev cX1_sums : ByteArray := prog_3_method_10_code
def yX1_sums : MethodName := ⟨RX1, "sums", "(II)I"⟩
abbrev cX1_negated : ByteArray := prog_3_method_11_code
def yX1_negated : MethodName := ⟨RX1, "negated", "(I)I"⟩
def RX2 : String := "SpanTimetable$History"
def TX2 : u_T := fun k => match k with
  | 0 => ("SpanTimetable$History", "plans", "[LSpanTimetable$Plan;", true)
  | 1 => ("SpanTimetable$History", "next", "I", false)
  | _ => ("SpanTimetable$History", "count", "I", false)
def tyX2 : Nat → FieldType := fun k => match k with
  | 0 => .array (.object "SpanTimetable$Plan")
  | 1 => .int
  | _ => .int
abbrev cX2_init : ByteArray := prog_4_method_1_code
def yX2_init : MethodName := ⟨RX2, "<init>", "()V"⟩
abbrev cX2_clear : ByteArray := prog_4_method_2_code
def yX2_clear : MethodName := ⟨RX2, "clear", "()V"⟩
abbrev cX2_remember : ByteArray := prog_4_method_3_code
def yX2_remember : MethodName := ⟨RX2, "remember", "(LSpanTimetable$Plan;)V"⟩
abbrev cX2_restore : ByteArray := prog_4_method_4_code
def yX2_restore : MethodName := ⟨RX2, "restore", "(LSpanTimetable$Plan;)I"⟩
def RX3 : String := "SpanTimetable$Names"
def TX3 : u_T := fun k => match k with
  | 0 => ("SpanTimetable$Names", "words", "[[B", true)
  | 1 => ("SpanTimetable$Names", "lengths", "[I", true)
  | _ => ("SpanTimetable$Names", "count", "I", false)
def tyX3 : Nat → FieldType := fun k => match k with
  | 0 => .array (.array .byte)
  | 1 => .array .int
  | _ => .int
abbrev cX3_init : ByteArray := prog_5_method_1_code
def yX3_init : MethodName := ⟨RX3, "<init>", "()V"⟩
abbrev cX3_clear : ByteArray := prog_5_method_2_code
def yX3_clear : MethodName := ⟨RX3, "clear", "()V"⟩
abbrev cX3_copyFrom : ByteArray := prog_5_method_3_code
def yX3_copyFrom : MethodName := ⟨RX3, "copyFrom", "(LSpanTimetable$Names;)V"⟩
abbrev cX3_append : ByteArray := prog_5_method_4_code
def yX3_append : MethodName := ⟨RX3, "append", "([BII)V"⟩
abbrev cX3_indexOf : ByteArray := prog_5_method_5_code
def yX3_indexOf : MethodName := ⟨RX3, "indexOf", "([BII)I"⟩
abbrev cX3_matches : ByteArray := prog_5_method_6_code
def yX3_matches : MethodName := ⟨RX3, "matches", "(I[BI)Z"⟩
def RX4 : String := "SpanTimetable$Page"
def TX4 : u_T := fun k => match k with
  | 0 => ("SpanTimetable$Page", "signs", "[C", true)
  | _ => ("SpanTimetable$Page", "length", "I", false)
def tyX4 : Nat → FieldType := fun k => match k with
  | 0 => .array .char
  | _ => .int
abbrev cX4_init : ByteArray := prog_6_method_1_code
def yX4_init : MethodName := ⟨RX4, "<init>", "()V"⟩
def RX5 : String := "SpanTimetable$Plan"
def TX5 : u_T := fun k => match k with
  | 0 => ("SpanTimetable$Plan", "period", "I", false)
  | 1 => ("SpanTimetable$Plan", "eventCount", "I", false)
  | 2 => ("SpanTimetable$Plan", "spanCount", "I", false)
  | 3 => ("SpanTimetable$Plan", "times", "[I", true)
  | 4 => ("SpanTimetable$Plan", "froms", "[I", true)
  | 5 => ("SpanTimetable$Plan", "tos", "[I", true)
  | 6 => ("SpanTimetable$Plan", "lows", "[I", true)
  | 7 => ("SpanTimetable$Plan", "highs", "[I", true)
  | _ => ("SpanTimetable$Plan", "weights", "[I", true)
def tyX5 : Nat → FieldType := fun k => match k with
  | 0 => .int
  | 1 => .int
  | 2 => .int
  | 3 => .array .int
  | 4 => .array .int
  | 5 => .array .int
  | 6 => .array .int
  | 7 => .array .int
  | _ => .array .int
abbrev cX5_init : ByteArray := prog_7_method_1_code
def yX5_init : MethodName := ⟨RX5, "<init>", "()V"⟩
abbrev cX5_startWith : ByteArray := prog_7_method_2_code
def yX5_startWith : MethodName := ⟨RX5, "startWith", "(I)V"⟩
abbrev cX5_copyFrom : ByteArray := prog_7_method_3_code
def yX5_copyFrom : MethodName := ⟨RX5, "copyFrom", "(LSpanTimetable$Plan;)V"⟩
abbrev cX5_appendEvent : ByteArray := prog_7_method_4_code
def yX5_appendEvent : MethodName := ⟨RX5, "appendEvent", "(I)V"⟩
abbrev cX5_appendSpan : ByteArray := prog_7_method_5_code
def yX5_appendSpan : MethodName := ⟨RX5, "appendSpan", "(IIIII)V"⟩
abbrev cX5_slackOf : ByteArray := prog_7_method_7_code
def yX5_slackOf : MethodName := ⟨RX5, "slackOf", "(I)I"⟩
abbrev cX5_slackWith : ByteArray := prog_7_method_8_code
def yX5_slackWith : MethodName := ⟨RX5, "slackWith", "(II)I"⟩
abbrev cX5_keeps : ByteArray := prog_7_method_9_code
def yX5_keeps : MethodName := ⟨RX5, "keeps", "(I)Z"⟩
abbrev cX5_countBroken : ByteArray := prog_7_method_10_code
def yX5_countBroken : MethodName := ⟨RX5, "countBroken", "()I"⟩
abbrev cX5_sumCosts : ByteArray := prog_7_method_11_code
def yX5_sumCosts : MethodName := ⟨RX5, "sumCosts", "()I"⟩
abbrev cX5_sumWeights : ByteArray := prog_7_method_12_code
def yX5_sumWeights : MethodName := ⟨RX5, "sumWeights", "()I"⟩
def RX6 : String := "SpanTimetable$Reader"
def TX6 : u_T := fun k => match k with
  | 0 => ("SpanTimetable$Reader", "plan", "LSpanTimetable$Plan;", true)
  | 1 => ("SpanTimetable$Reader", "names", "LSpanTimetable$Names;", true)
  | 2 => ("SpanTimetable$Reader", "faultKind", "I", false)
  | 3 => ("SpanTimetable$Reader", "faultPosition", "I", false)
  | 4 => ("SpanTimetable$Reader", "text", "[B", false)
  | 5 => ("SpanTimetable$Reader", "textLength", "I", false)
  | 6 => ("SpanTimetable$Reader", "tokenKind", "I", false)
  | 7 => ("SpanTimetable$Reader", "tokenStart", "I", false)
  | 8 => ("SpanTimetable$Reader", "tokenEnd", "I", false)
  | _ => ("SpanTimetable$Reader", "number", "I", false)
def tyX6 : Nat → FieldType := fun k => match k with
  | 0 => .object "SpanTimetable$Plan"
  | 1 => .object "SpanTimetable$Names"
  | 2 => .int
  | 3 => .int
  | 4 => .array .byte
  | 5 => .int
  | 6 => .int
  | 7 => .int
  | 8 => .int
  | _ => .int
abbrev cX6_init : ByteArray := prog_8_method_1_code
def yX6_init : MethodName := ⟨RX6, "<init>", "()V"⟩
abbrev cX6_accepts : ByteArray := prog_8_method_2_code
def yX6_accepts : MethodName := ⟨RX6, "accepts", "([BI)Z"⟩
abbrev cX6_readPeriod : ByteArray := prog_8_method_3_code
def yX6_readPeriod : MethodName := ⟨RX6, "readPeriod", "()Z"⟩
abbrev cX6_readStatement : ByteArray := prog_8_method_4_code
def yX6_readStatement : MethodName := ⟨RX6, "readStatement", "()Z"⟩
abbrev cX6_readEvent : ByteArray := prog_8_method_5_code
def yX6_readEvent : MethodName := ⟨RX6, "readEvent", "()Z"⟩
abbrev cX6_readSpan : ByteArray := prog_8_method_6_code
def yX6_readSpan : MethodName := ⟨RX6, "readSpan", "()Z"⟩
abbrev cX6_readKnownEvent : ByteArray := prog_8_method_7_code
def yX6_readKnownEvent : MethodName := ⟨RX6, "readKnownEvent", "(I)I"⟩
abbrev cX6_readNumber : ByteArray := prog_8_method_8_code
def yX6_readNumber : MethodName := ⟨RX6, "readNumber", "(II)I"⟩
abbrev cX6_readSemicolon : ByteArray := prog_8_method_9_code
def yX6_readSemicolon : MethodName := ⟨RX6, "readSemicolon", "()Z"⟩
abbrev cX6_unexpected : ByteArray := prog_8_method_10_code
def yX6_unexpected : MethodName := ⟨RX6, "unexpected", "()Z"⟩
abbrev cX6_fail : ByteArray := prog_8_method_11_code
def yX6_fail : MethodName := ⟨RX6, "fail", "(I)Z"⟩
abbrev cX6_isWord : ByteArray := prog_8_method_12_code
def yX6_isWord : MethodName := ⟨RX6, "isWord", "(Ljava/lang/String;)Z"⟩
abbrev cX6_nextToken : ByteArray := prog_8_method_13_code
def yX6_nextToken : MethodName := ⟨RX6, "nextToken", "()V"⟩
abbrev cX6_endOfRun : ByteArray := prog_8_method_14_code
def yX6_endOfRun : MethodName := ⟨RX6, "endOfRun", "(II)I"⟩
abbrev cX6_valueOfDigits : ByteArray := prog_8_method_15_code
def yX6_valueOfDigits : MethodName := ⟨RX6, "valueOfDigits", "()I"⟩
def RX7 : String := "SpanTimetable$Search"
def TX7 : u_T := fun k => match k with
  | 0 => ("SpanTimetable$Search", "bestCost", "I", false)
  | 1 => ("SpanTimetable$Search", "bestTimes", "[I", true)
  | 2 => ("SpanTimetable$Search", "differences", "LSpanTimetable$Differences;", true)
  | 3 => ("SpanTimetable$Search", "pairCosts", "[[I", true)
  | 4 => ("SpanTimetable$Search", "eventCosts", "[[I", true)
  | 5 => ("SpanTimetable$Search", "leastAmong", "[I", true)
  | 6 => ("SpanTimetable$Search", "tried", "[I", true)
  | 7 => ("SpanTimetable$Search", "events", "I", false)
  | 8 => ("SpanTimetable$Search", "period", "I", false)
  | _ => ("SpanTimetable$Search", "firstOnly", "Z", false)
def tyX7 : Nat → FieldType := fun k => match k with
  | 0 => .int
  | 1 => .array .int
  | 2 => .object "SpanTimetable$Differences"
  | 3 => .array (.array .int)
  | 4 => .array (.array .int)
  | 5 => .array .int
  | 6 => .array .int
  | 7 => .int
  | 8 => .int
  | _ => .boolean
abbrev cX7_init : ByteArray := prog_9_method_1_code
def yX7_init : MethodName := ⟨RX7, "<init>", "()V"⟩
abbrev cX7_findGood : ByteArray := prog_9_method_2_code
def yX7_findGood : MethodName := ⟨RX7, "findGood", "(LSpanTimetable$Plan;Z)Z"⟩
abbrev cX7_priceDifferences : ByteArray := prog_9_method_3_code
def yX7_priceDifferences : MethodName := ⟨RX7, "priceDifferences", "(LSpanTimetable$Plan;)V"⟩
abbrev cX7_priceSpan : ByteArray := prog_9_method_4_code
def yX7_priceSpan : MethodName := ⟨RX7, "priceSpan", "(LSpanTimetable$Plan;I)V"⟩
abbrev cX7_sumLeastPrices : ByteArray := prog_9_method_5_code
def yX7_sumLeastPrices : MethodName := ⟨RX7, "sumLeastPrices", "()V"⟩
abbrev cX7_leastPrice : ByteArray := prog_9_method_6_code
def yX7_leastPrice : MethodName := ⟨RX7, "leastPrice", "([I)I"⟩
abbrev cX7_holdFirstEvent : ByteArray := prog_9_method_7_code
def yX7_holdFirstEvent : MethodName := ⟨RX7, "holdFirstEvent", "(LSpanTimetable$Plan;)V"⟩
abbrev cX7_placeFrom : ByteArray := prog_9_method_8_code
def yX7_placeFrom : MethodName := ⟨RX7, "placeFrom", "(II)V"⟩
abbrev cX7_placeAt : ByteArray := prog_9_method_9_code
def yX7_placeAt : MethodName := ⟨RX7, "placeAt", "(III)V"⟩
abbrev cX7_canGetBest : ByteArray := prog_9_method_10_code
def yX7_canGetBest : MethodName := ⟨RX7, "canGetBest", "(I)Z"⟩
abbrev cX7_priceBehind : ByteArray := prog_9_method_11_code
def yX7_priceBehind : MethodName := ⟨RX7, "priceBehind", "(II)I"⟩
def RX8 : String := "SpanTimetable"
def TX8 : u_T := fun k => match k with
  | 0 => ("SpanTimetable", "buffer", "[B", true)
  | 1 => ("SpanTimetable", "buffered", "I", false)
  | 2 => ("SpanTimetable", "reader", "LSpanTimetable$Reader;", true)
  | 3 => ("SpanTimetable", "names", "LSpanTimetable$Names;", true)
  | 4 => ("SpanTimetable", "plan", "LSpanTimetable$Plan;", true)
  | 5 => ("SpanTimetable", "trial", "LSpanTimetable$Plan;", true)
  | 6 => ("SpanTimetable", "history", "LSpanTimetable$History;", true)
  | 7 => ("SpanTimetable", "differences", "LSpanTimetable$Differences;", true)
  | 8 => ("SpanTimetable", "loops", "LSpanTimetable$Cycles;", true)
  | 9 => ("SpanTimetable", "search", "LSpanTimetable$Search;", true)
  | _ => ("SpanTimetable", "page", "LSpanTimetable$Page;", true)
def tyX8 : Nat → FieldType := fun k => match k with
  | 0 => .array .byte
  | 1 => .int
  | 2 => .object "SpanTimetable$Reader"
  | 3 => .object "SpanTimetable$Names"
  | 4 => .object "SpanTimetable$Plan"
  | 5 => .object "SpanTimetable$Plan"
  | 6 => .object "SpanTimetable$History"
  | 7 => .object "SpanTimetable$Differences"
  | 8 => .object "SpanTimetable$Cycles"
  | 9 => .object "SpanTimetable$Search"
  | _ => .object "SpanTimetable$Page"
abbrev cX8_init : ByteArray := prog_1_method_1_code
def yX8_init : MethodName := ⟨RX8, "<init>", "()V"⟩
abbrev cX8_feed : ByteArray := prog_1_method_2_code
def yX8_feed : MethodName := ⟨RX8, "feed", "(IIIII)I"⟩
abbrev cX8_appendBytes : ByteArray := prog_1_method_3_code
def yX8_appendBytes : MethodName := ⟨RX8, "appendBytes", "(I)V"⟩
abbrev cX8_load : ByteArray := prog_1_method_4_code
def yX8_load : MethodName := ⟨RX8, "load", "(I)I"⟩
abbrev cX8_errorKind : ByteArray := prog_1_method_5_code
def yX8_errorKind : MethodName := ⟨RX8, "errorKind", "()I"⟩
abbrev cX8_period : ByteArray := prog_1_method_7_code
def yX8_period : MethodName := ⟨RX8, "period", "()I"⟩
abbrev cX8_events : ByteArray := prog_1_method_8_code
def yX8_events : MethodName := ⟨RX8, "events", "()I"⟩
abbrev cX8_time : ByteArray := prog_1_method_11_code
def yX8_time : MethodName := ⟨RX8, "time", "(I)I"⟩
abbrev cX8_span : ByteArray := prog_1_method_12_code
def yX8_span : MethodName := ⟨RX8, "span", "(II)I"⟩
abbrev cX8_duration : ByteArray := prog_1_method_13_code
def yX8_duration : MethodName := ⟨RX8, "duration", "(I)I"⟩
abbrev cX8_slack : ByteArray := prog_1_method_14_code
def yX8_slack : MethodName := ⟨RX8, "slack", "(I)I"⟩
abbrev cX8_isKept : ByteArray := prog_1_method_15_code
def yX8_isKept : MethodName := ⟨RX8, "isKept", "(I)Z"⟩
abbrev cX8_broken : ByteArray := prog_1_method_16_code
def yX8_broken : MethodName := ⟨RX8, "broken", "()I"⟩
abbrev cX8_firstBroken : ByteArray := prog_1_method_17_code
def yX8_firstBroken : MethodName := ⟨RX8, "firstBroken", "()I"⟩
abbrev cX8_cost : ByteArray := prog_1_method_18_code
def yX8_cost : MethodName := ⟨RX8, "cost", "()I"⟩
abbrev cX8_meanSlack : ByteArray := prog_1_method_19_code
def yX8_meanSlack : MethodName := ⟨RX8, "meanSlack", "()F"⟩
abbrev cX8_allowed : ByteArray := prog_1_method_20_code
def yX8_allowed : MethodName := ⟨RX8, "allowed", "(IIZ)I"⟩
abbrev cX8_isAllowed : ByteArray := prog_1_method_21_code
def yX8_isAllowed : MethodName := ⟨RX8, "isAllowed", "(III)Z"⟩
abbrev cX8_isTight : ByteArray := prog_1_method_23_code
def yX8_isTight : MethodName := ⟨RX8, "isTight", "()Z"⟩
abbrev cX8_tightenDifferences : ByteArray := prog_1_method_25_code
def yX8_tightenDifferences : MethodName := ⟨RX8, "tightenDifferences", "()V"⟩
abbrev cX8_isSolvable : ByteArray := prog_1_method_32_code
def yX8_isSolvable : MethodName := ⟨RX8, "isSolvable", "()Z"⟩
abbrev cX8_leastCost : ByteArray := prog_1_method_33_code
def yX8_leastCost : MethodName := ⟨RX8, "leastCost", "()I"⟩
abbrev cX8_share : ByteArray := prog_1_method_37_code
def yX8_share : MethodName := ⟨RX8, "share", "(II)I"⟩
abbrev cX8_setPeriod : ByteArray := prog_1_method_44_code
def yX8_setPeriod : MethodName := ⟨RX8, "setPeriod", "(I)I"⟩
abbrev cX8_solve : ByteArray := prog_1_method_45_code
def yX8_solve : MethodName := ⟨RX8, "solve", "()I"⟩
abbrev cX8_cheapen : ByteArray := prog_1_method_46_code
def yX8_cheapen : MethodName := ⟨RX8, "cheapen", "()I"⟩
abbrev cX8_takeBest : ByteArray := prog_1_method_47_code
def yX8_takeBest : MethodName := ⟨RX8, "takeBest", "()I"⟩
abbrev cX8_undo : ByteArray := prog_1_method_49_code
def yX8_undo : MethodName := ⟨RX8, "undo", "()I"⟩
abbrev cX8_requireEvent : ByteArray := prog_1_method_53_code
def yX8_requireEvent : MethodName := ⟨RX8, "requireEvent", "(I)V"⟩
abbrev cX8_requireSpan : ByteArray := prog_1_method_54_code
def yX8_requireSpan : MethodName := ⟨RX8, "requireSpan", "(I)V"⟩
abbrev cX8_requireRange : ByteArray := prog_1_method_57_code
def yX8_requireRange : MethodName := ⟨RX8, "requireRange", "(III)V"⟩
abbrev cX8_requireGood : ByteArray := prog_1_method_59_code
def yX8_requireGood : MethodName := ⟨RX8, "requireGood", "(Z)V"⟩
abbrev cX8_modulo : ByteArray := prog_1_method_60_code
def yX8_modulo : MethodName := ⟨RX8, "modulo", "(II)I"⟩
def RX9 : String := "SpanTimetableModel"
def TX9 : u_T := fun k => match k with
  | _ => ("", "", "", false)
def tyX9 : Nat → FieldType := fun k => match k with
  | _ => .int
def RJx145de : String := "java/io/Serializable"
def TJx145de : u_T := fun k => match k with
  | _ => ("", "", "", false)
def tyJx145de : Nat → FieldType := fun k => match k with
  | _ => .int
def RJ5 : String := "java/lang/AbstractStringBuilder"
def TJ5 : u_T := fun k => match k with
  | _ => ("", "", "", false)
def tyJ5 : Nat → FieldType := fun k => match k with
  | _ => .int
abbrev cJ5_init_d00df : ByteArray := prog_13_method_2_code
def yJ5_init_d00df : MethodName := ⟨RJ5, "<init>", "(I)V"⟩
abbrev cJ5_length_8abf5 : ByteArray := prog_13_method_6_code
def yJ5_length_8abf5 : MethodName := ⟨RJ5, "length", "()I"⟩
abbrev cJ5_ensureCapacityInternal_d00df : ByteArray := prog_13_method_9_code
def yJ5_ensureCapacityInternal_d00df : MethodName := ⟨RJ5, "ensureCapacityInternal", "(I)V"⟩
abbrev cJ5_newCapacity_0f7a4 : ByteArray := prog_13_method_10_code
def yJ5_newCapacity_0f7a4 : MethodName := ⟨RJ5, "newCapacity", "(I)I"⟩
abbrev cJ5_inflate_da8c8 : ByteArray := prog_13_method_11_code
def yJ5_inflate_da8c8 : MethodName := ⟨RJ5, "inflate", "()V"⟩
abbrev cJ5_append_cf1ce : ByteArray := prog_13_method_22_code
def yJ5_append_cf1ce : MethodName := ⟨RJ5, "append", "(Ljava/lang/String;)Ljava/lang/AbstractStringBuilder;"⟩
abbrev cJ5_appendNull_278bc : ByteArray := prog_13_method_26_code
def yJ5_appendNull_278bc : MethodName := ⟨RJ5, "appendNull", "()Ljava/lang/AbstractStringBuilder;"⟩
abbrev cJ5_append_c97b9 : ByteArray := prog_13_method_32_code
def yJ5_append_c97b9 : MethodName := ⟨RJ5, "append", "(I)Ljava/lang/AbstractStringBuilder;"⟩
abbrev cJ5_getValue_6d5f1 : ByteArray := prog_13_method_64_code
def yJ5_getValue_6d5f1 : MethodName := ⟨RJ5, "getValue", "()[B"⟩
abbrev cJ5_isLatin1_aae02 : ByteArray := prog_13_method_68_code
def yJ5_isLatin1_aae02 : MethodName := ⟨RJ5, "isLatin1", "()Z"⟩
abbrev cJ5_inflateIfNeededFor_a7421 : ByteArray := prog_13_method_71_code
def yJ5_inflateIfNeededFor_a7421 : MethodName := ⟨RJ5, "inflateIfNeededFor", "(Ljava/lang/String;)V"⟩
abbrev cJ5_putStringAt_47b60 : ByteArray := prog_13_method_73_code
def yJ5_putStringAt_47b60 : MethodName := ⟨RJ5, "putStringAt", "(ILjava/lang/String;)V"⟩
def RJx2cfe8 : String := "java/lang/Appendable"
def TJx2cfe8 : u_T := fun k => match k with
  | _ => ("", "", "", false)
def tyJx2cfe8 : Nat → FieldType := fun k => match k with
  | _ => .int
def RJx9f9b0 : String := "java/lang/CharSequence"
def TJx9f9b0 : u_T := fun k => match k with
  | _ => ("", "", "", false)
def tyJx9f9b0 : Nat → FieldType := fun k => match k with
  | _ => .int
def RJx8e188 : String := "java/lang/Cloneable"
def TJx8e188 : u_T := fun k => match k with
  | _ => ("", "", "", false)
def tyJx8e188 : Nat → FieldType := fun k => match k with
  | _ => .int
def RJxb160c : String := "java/lang/Comparable"
def TJxb160c : u_T := fun k => match k with
  | _ => ("", "", "", false)
def tyJxb160c : Nat → FieldType := fun k => match k with
  | _ => .int
def RJ6 : String := "java/lang/Integer"
def TJ6 : u_T := fun k => match k with
  | _ => ("", "", "", false)
def tyJ6 : Nat → FieldType := fun k => match k with
  | _ => .int
abbrev cJ6_getChars_ba4f3 : ByteArray := prog_22_method_12_code
def yJ6_getChars_ba4f3 : MethodName := ⟨RJ6, "getChars", "(II[B)I"⟩
abbrev cJ6_stringSize_0f7a4 : ByteArray := prog_22_method_13_code
def yJ6_stringSize_0f7a4 : MethodName := ⟨RJ6, "stringSize", "(I)I"⟩
abbrev cJ6_bitCount_0f7a4 : ByteArray := prog_22_method_49_code
def yJ6_bitCount_0f7a4 : MethodName := ⟨RJ6, "bitCount", "(I)I"⟩
def RJ9 : String := "java/lang/Math"
def TJ9 : u_T := fun k => match k with
  | _ => ("", "", "", false)
def tyJ9 : Nat → FieldType := fun k => match k with
  | _ => .int
abbrev cJ9_max_7cf53 : ByteArray := prog_23_method_65_code
def yJ9_max_7cf53 : MethodName := ⟨RJ9, "max", "(II)I"⟩
abbrev cJ9_min_7cf53 : ByteArray := prog_23_method_69_code
def yJ9_min_7cf53 : MethodName := ⟨RJ9, "min", "(II)I"⟩
def RJxd2413 : String := "java/lang/Number"
def TJxd2413 : u_T := fun k => match k with
  | _ => ("", "", "", false)
def tyJxd2413 : Nat → FieldType := fun k => match k with
  | _ => .int
def RJ0 : String := "java/lang/String"
def TJ0 : u_T := fun k => match k with
  | 0 => ("java/lang/String", "value", "[B", true)
  | 1 => ("java/lang/String", "coder", "B", true)
  | 2 => ("java/lang/String", "hash", "I", false)
  | _ => ("java/lang/String", "hashIsZero", "Z", false)
def tyJ0 : Nat → FieldType := fun k => match k with
  | 0 => .array .byte
  | 1 => .byte
  | 2 => .int
  | _ => .boolean
abbrev cJ0_init_81219 : ByteArray := prog_26_method_53_code
def yJ0_init_81219 : MethodName := ⟨RJ0, "<init>", "(Ljava/lang/StringBuilder;)V"⟩
abbrev cJ0_length_8abf5 : ByteArray := prog_26_method_54_code
def yJ0_length_8abf5 : MethodName := ⟨RJ0, "length", "()I"⟩
abbrev cJ0_charAt_5068e : ByteArray := prog_26_method_56_code
def yJ0_charAt_5068e : MethodName := ⟨RJ0, "charAt", "(I)C"⟩
abbrev cJ0_substring_37a41 : ByteArray := prog_26_method_92_code
def yJ0_substring_37a41 : MethodName := ⟨RJ0, "substring", "(II)Ljava/lang/String;"⟩
abbrev cJ0_getBytes_840e7 : ByteArray := prog_26_method_147_code
def yJ0_getBytes_840e7 : MethodName := ⟨RJ0, "getBytes", "([BIB)V"⟩
abbrev cJ0_init_db425 : ByteArray := prog_26_method_150_code
def yJ0_init_db425 : MethodName := ⟨RJ0, "<init>", "(Ljava/lang/AbstractStringBuilder;Ljava/lang/Void;)V"⟩
abbrev cJ0_init_031fb : ByteArray := prog_26_method_151_code
def yJ0_init_031fb : MethodName := ⟨RJ0, "<init>", "([BB)V"⟩
abbrev cJ0_coder_7d493 : ByteArray := prog_26_method_152_code
def yJ0_coder_7d493 : MethodName := ⟨RJ0, "coder", "()B"⟩
abbrev cJ0_isLatin1_aae02 : ByteArray := prog_26_method_154_code
def yJ0_isLatin1_aae02 : MethodName := ⟨RJ0, "isLatin1", "()Z"⟩
abbrev cJ0_checkIndex_df160 : ByteArray := prog_26_method_155_code
def yJ0_checkIndex_df160 : MethodName := ⟨RJ0, "checkIndex", "(II)V"⟩
abbrev cJ0_checkBoundsOffCount_cabcc : ByteArray := prog_26_method_157_code
def yJ0_checkBoundsOffCount_cabcc : MethodName := ⟨RJ0, "checkBoundsOffCount", "(III)I"⟩
abbrev cJ0_checkBoundsBeginEnd_23922 : ByteArray := prog_26_method_158_code
def yJ0_checkBoundsBeginEnd_23922 : MethodName := ⟨RJ0, "checkBoundsBeginEnd", "(III)V"⟩
def RJ4 : String := "java/lang/StringBuilder"
def TJ4 : u_T := fun k => match k with
  | 0 => ("java/lang/AbstractStringBuilder", "value", "[B", false)
  | 1 => ("java/lang/AbstractStringBuilder", "coder", "B", false)
  | 2 => ("java/lang/AbstractStringBuilder", "maybeLatin1", "Z", false)
  | _ => ("java/lang/AbstractStringBuilder", "count", "I", false)
def tyJ4 : Nat → FieldType := fun k => match k with
  | 0 => .array .byte
  | 1 => .byte
  | 2 => .boolean
  | _ => .int
abbrev cJ4_init_da8c8 : ByteArray := prog_27_method_1_code
def yJ4_init_da8c8 : MethodName := ⟨RJ4, "<init>", "()V"⟩
abbrev cJ4_append_15ec4 : ByteArray := prog_27_method_7_code
def yJ4_append_15ec4 : MethodName := ⟨RJ4, "append", "(Ljava/lang/String;)Ljava/lang/StringBuilder;"⟩
abbrev cJ4_append_bf812 : ByteArray := prog_27_method_15_code
def yJ4_append_bf812 : MethodName := ⟨RJ4, "append", "(I)Ljava/lang/StringBuilder;"⟩
abbrev cJ4_toString_0e30d : ByteArray := prog_27_method_42_code
def yJ4_toString_0e30d : MethodName := ⟨RJ4, "toString", "()Ljava/lang/String;"⟩
abbrev cJ4_length_8abf5 : ByteArray := prog_27_method_93_code
def yJ4_length_8abf5 : MethodName := ⟨RJ4, "length", "()I"⟩
def RJ1 : String := "java/lang/StringLatin1"
def TJ1 : u_T := fun k => match k with
  | _ => ("", "", "", false)
def tyJ1 : Nat → FieldType := fun k => match k with
  | _ => .int
abbrev cJ1_charAt_3b067 : ByteArray := prog_28_method_2_code
def yJ1_charAt_3b067 : MethodName := ⟨RJ1, "charAt", "([BI)C"⟩
abbrev cJ1_newString_b4f7a : ByteArray := prog_28_method_47_code
def yJ1_newString_b4f7a : MethodName := ⟨RJ1, "newString", "([BII)Ljava/lang/String;"⟩
abbrev cJ1_inflate_0e8fd : ByteArray := prog_28_method_50_code
def yJ1_inflate_0e8fd : MethodName := ⟨RJ1, "inflate", "([BI[BII)V"⟩
def RJ2 : String := "java/lang/StringUTF16"
def TJ2 : u_T := fun k => match k with
  | _ => ("", "", "", false)
def tyJ2 : Nat → FieldType := fun k => match k with
  | _ => .int
abbrev cJ2_newBytesFor_77867 : ByteArray := prog_29_method_2_code
def yJ2_newBytesFor_77867 : MethodName := ⟨RJ2, "newBytesFor", "(I)[B"⟩
abbrev cJ2_newBytesLength_0f7a4 : ByteArray := prog_29_method_3_code
def yJ2_newBytesLength_0f7a4 : MethodName := ⟨RJ2, "newBytesLength", "(I)I"⟩
abbrev cJ2_putChar_b72d1 : ByteArray := prog_29_method_4_code
def yJ2_putChar_b72d1 : MethodName := ⟨RJ2, "putChar", "([BII)V"⟩
abbrev cJ2_getChar_3b067 : ByteArray := prog_29_method_5_code
def yJ2_getChar_3b067 : MethodName := ⟨RJ2, "getChar", "([BI)C"⟩
abbrev cJ2_length_9d52b : ByteArray := prog_29_method_6_code
def yJ2_length_9d52b : MethodName := ⟨RJ2, "length", "([B)I"⟩
abbrev cJ2_coderFromArrayLen_85cad : ByteArray := prog_29_method_15_code
def yJ2_coderFromArrayLen_85cad : MethodName := ⟨RJ2, "coderFromArrayLen", "([BI)B"⟩
abbrev cJ2_compress_39247 : ByteArray := prog_29_method_17_code
def yJ2_compress_39247 : MethodName := ⟨RJ2, "compress", "([BII)[B"⟩
abbrev cJ2_compress_5af95 : ByteArray := prog_29_method_22_code
def yJ2_compress_5af95 : MethodName := ⟨RJ2, "compress", "([BI[BII)I"⟩
abbrev cJ2_newString_b4f7a : ByteArray := prog_29_method_69_code
def yJ2_newString_b4f7a : MethodName := ⟨RJ2, "newString", "([BII)Ljava/lang/String;"⟩
abbrev cJ2_getChars_46870 : ByteArray := prog_29_method_77_code
def yJ2_getChars_46870 : MethodName := ⟨RJ2, "getChars", "(III[B)I"⟩
abbrev cJ2_putCharsAt_cd4e5 : ByteArray := prog_29_method_81_code
def yJ2_putCharsAt_cd4e5 : MethodName := ⟨RJ2, "putCharsAt", "([BICCCC)I"⟩
abbrev cJ2_charAt_3b067 : ByteArray := prog_29_method_83_code
def yJ2_charAt_3b067 : MethodName := ⟨RJ2, "charAt", "([BI)C"⟩
abbrev cJ2_inflate_0e8fd : ByteArray := prog_29_method_86_code
def yJ2_inflate_0e8fd : MethodName := ⟨RJ2, "inflate", "([BI[BII)V"⟩
abbrev cJ2_getChars_ba4f3 : ByteArray := prog_29_method_89_code
def yJ2_getChars_ba4f3 : MethodName := ⟨RJ2, "getChars", "(II[B)I"⟩
abbrev cJ2_checkIndex_2214a : ByteArray := prog_29_method_91_code
def yJ2_checkIndex_2214a : MethodName := ⟨RJ2, "checkIndex", "(I[B)V"⟩
abbrev cJ2_checkBoundsBeginEnd_d044e : ByteArray := prog_29_method_93_code
def yJ2_checkBoundsBeginEnd_d044e : MethodName := ⟨RJ2, "checkBoundsBeginEnd", "(II[B)V"⟩
abbrev cJ2_checkBoundsOffCount_d044e : ByteArray := prog_29_method_94_code
def yJ2_checkBoundsOffCount_d044e : MethodName := ⟨RJ2, "checkBoundsOffCount", "(II[B)V"⟩
def RJ10 : String := "java/lang/System"
def TJ10 : u_T := fun k => match k with
  | _ => ("", "", "", false)
def tyJ10 : Nat → FieldType := fun k => match k with
  | _ => .int
def RJxfd54e : String := "java/lang/constant/Constable"
def TJxfd54e : u_T := fun k => match k with
  | _ => ("", "", "", false)
def tyJxfd54e : Nat → FieldType := fun k => match k with
  | _ => .int
def RJx3cf43 : String := "java/lang/constant/ConstantDesc"
def TJx3cf43 : u_T := fun k => match k with
  | _ => ("", "", "", false)
def tyJx3cf43 : Nat → FieldType := fun k => match k with
  | _ => .int
def RJ7 : String := "java/util/Arrays"
def TJ7 : u_T := fun k => match k with
  | _ => ("", "", "", false)
def tyJ7 : Nat → FieldType := fun k => match k with
  | _ => .int
abbrev cJ7_copyOf_9075b : ByteArray := prog_34_method_121_code
def yJ7_copyOf_9075b : MethodName := ⟨RJ7, "copyOf", "([BI)[B"⟩
abbrev cJ7_checkLength_df160 : ByteArray := prog_34_method_131_code
def yJ7_checkLength_df160 : MethodName := ⟨RJ7, "checkLength", "(II)V"⟩
abbrev cJ7_copyOfRange_39247 : ByteArray := prog_34_method_132_code
def yJ7_copyOfRange_39247 : MethodName := ⟨RJ7, "copyOfRange", "([BII)[B"⟩
abbrev cJ7_copyOfRangeByte_39247 : ByteArray := prog_34_method_133_code
def yJ7_copyOfRangeByte_39247 : MethodName := ⟨RJ7, "copyOfRangeByte", "([BII)[B"⟩
def RJ8 : String := "jdk/internal/util/ArraysSupport"
def TJ8 : u_T := fun k => match k with
  | _ => ("", "", "", false)
def tyJ8 : Nat → FieldType := fun k => match k with
  | _ => .int
abbrev cJ8_newLength_cabcc : ByteArray := prog_36_method_27_code
def yJ8_newLength_cabcc : MethodName := ⟨RJ8, "newLength", "(III)I"⟩
abbrev cJ8_hugeLength_7cf53 : ByteArray := prog_36_method_28_code
def yJ8_hugeLength_7cf53 : MethodName := ⟨RJ8, "hugeLength", "(II)I"⟩
def RJ3 : String := "jdk/internal/util/Preconditions"
def TJ3 : u_T := fun k => match k with
  | _ => ("", "", "", false)
def tyJ3 : Nat → FieldType := fun k => match k with
  | _ => .int
abbrev cJ3_checkIndex_8e157 : ByteArray := prog_37_method_11_code
def yJ3_checkIndex_8e157 : MethodName := ⟨RJ3, "checkIndex", "(IILjava/util/function/BiFunction;)I"⟩
abbrev cJ3_checkFromToIndex_8c36e : ByteArray := prog_37_method_12_code
def yJ3_checkFromToIndex_8c36e : MethodName := ⟨RJ3, "checkFromToIndex", "(IIILjava/util/function/BiFunction;)I"⟩
abbrev cJ3_checkFromIndexSize_8c36e : ByteArray := prog_37_method_13_code
def yJ3_checkFromIndexSize_8c36e : MethodName := ⟨RJ3, "checkFromIndexSize", "(IIILjava/util/function/BiFunction;)I"⟩
def RL : String := "SpanTimetableLaw"
def TL : u_T := fun k => match k with
  | 0 => ("SpanTimetableLaw", "choices", "[I", false)
  | 1 => ("SpanTimetableLaw", "at", "I", false)
  | 2 => ("SpanTimetableLaw", "period", "I", false)
  | 3 => ("SpanTimetableLaw", "events", "I", false)
  | 4 => ("SpanTimetableLaw", "spans", "I", false)
  | 5 => ("SpanTimetableLaw", "first", "[I", false)
  | 6 => ("SpanTimetableLaw", "cheapest", "[I", false)
  | _ => ("SpanTimetableLaw", "least", "I", false)
def tyL : Nat → FieldType := fun k => match k with
  | 0 => .array .int
  | 1 => .int
  | 2 => .int
  | 3 => .int
  | 4 => .int
  | 5 => .array .int
  | 6 => .array .int
  | _ => .int
abbrev cL_init : ByteArray := method_1_code
def yL_init : MethodName := ⟨RL, "<init>", "()V"⟩
abbrev cL_among : ByteArray := method_2_code
def yL_among : MethodName := ⟨RL, "among", "(II)I"⟩
abbrev cL_cell : ByteArray := method_3_code
def yL_cell : MethodName := ⟨RL, "cell", "([II)I"⟩
abbrev cL_four : ByteArray := method_4_code
def yL_four : MethodName := ⟨RL, "four", "(Ljava/lang/String;I)I"⟩
abbrev cL_load : ByteArray := method_5_code
def yL_load : MethodName := ⟨RL, "load", "(LSpanTimetable;Ljava/lang/String;)I"⟩
abbrev cL_chosen : ByteArray := method_6_code
def yL_chosen : MethodName := ⟨RL, "chosen", "(I)I"⟩
abbrev cL_from : ByteArray := method_7_code
def yL_from : MethodName := ⟨RL, "from", "(II)I"⟩
abbrev cL_text : ByteArray := method_8_code
def yL_text : MethodName := ⟨RL, "text", "(I)Ljava/lang/String;"⟩
abbrev cL_law : ByteArray := code
def yL_law : MethodName := ⟨RL, "law", "([I)Z"⟩
abbrev cL_duration : ByteArray := method_11_code
def yL_duration : MethodName := ⟨RL, "duration", "(LSpanTimetable;I[I)I"⟩
abbrev cL_timesOf : ByteArray := method_12_code
def yL_timesOf : MethodName := ⟨RL, "timesOf", "(LSpanTimetable;)[I"⟩
abbrev cL_areSpans : ByteArray := method_13_code
def yL_areSpans : MethodName := ⟨RL, "areSpans", "(LSpanTimetable;)Z"⟩
abbrev cL_hasNoneBroken : ByteArray := method_14_code
def yL_hasNoneBroken : MethodName := ⟨RL, "hasNoneBroken", "(LSpanTimetable;)Z"⟩
abbrev cL_isShared : ByteArray := method_15_code
def yL_isShared : MethodName := ⟨RL, "isShared", "(LSpanTimetable;)Z"⟩
abbrev cL_areDifferences : ByteArray := method_16_code
def yL_areDifferences : MethodName := ⟨RL, "areDifferences", "(LSpanTimetable;)Z"⟩
abbrev cL_tries : ByteArray := method_17_code
def yL_tries : MethodName := ⟨RL, "tries", "(LSpanTimetable;)V"⟩
abbrev cL_isFound : ByteArray := method_18_code
def yL_isFound : MethodName := ⟨RL, "isFound", "(LSpanTimetable;)Z"⟩
abbrev cL_isHopeless : ByteArray := method_19_code
def yL_isHopeless : MethodName := ⟨RL, "isHopeless", "(LSpanTimetable;)Z"⟩
abbrev cL_isNoEvent : ByteArray := method_20_code
def yL_isNoEvent : MethodName := ⟨RL, "isNoEvent", "(LSpanTimetable;)Z"⟩
abbrev cL_isBad : ByteArray := method_21_code
def yL_isBad : MethodName := ⟨RL, "isBad", "(LSpanTimetable;)Z"⟩
abbrev vwCl : List vw_C := [(RX0, TX0, 6), (RX1, TX1, 5), (RX2, TX2, 3), (RX3, TX3, 3), (RX4, TX4, 2), (RX5, TX5, 9), (RX6, TX6, 10), (RX7, TX7, 10), (RX8, TX8, 11), (RL, TL, 8), (RJ0, TJ0, 4), (RJ4, TJ4, 4)]
theorem nmX0 : ∀ a, a < 6 → ∀ b, b < 6 → a ≠ b → (TX0 a).2.1 ≠ (TX0 b).2.1 := by decide +kernel
theorem tyX0_ok : ∀ k, k < 6 → parseFieldDescriptor (TX0 k).2.2.1 = some (tyX0 k) := by decide +kernel
theorem nmX1 : ∀ a, a < 5 → ∀ b, b < 5 → a ≠ b → (TX1 a).2.1 ≠ (TX1 b).2.1 := by decide +kernel
theorem tyX1_ok : ∀ k, k < 5 → parseFieldDescriptor (TX1 k).2.2.1 = some (tyX1 k) := by decide +kernel
theorem nmX2 : ∀ a, a < 3 → ∀ b, b < 3 → a ≠ b → (TX2 a).2.1 ≠ (TX2 b).2.1 := by decide +kernel
theorem tyX2_ok : ∀ k, k < 3 → parseFieldDescriptor (TX2 k).2.2.1 = some (tyX2 k) := by decide +kernel
theorem nmX3 : ∀ a, a < 3 → ∀ b, b < 3 → a ≠ b → (TX3 a).2.1 ≠ (TX3 b).2.1 := by decide +kernel
theorem tyX3_ok : ∀ k, k < 3 → parseFieldDescriptor (TX3 k).2.2.1 = some (tyX3 k) := by decide +kernel
theorem nmX4 : ∀ a, a < 2 → ∀ b, b < 2 → a ≠ b → (TX4 a).2.1 ≠ (TX4 b).2.1 := by decide +kernel
theorem tyX4_ok : ∀ k, k < 2 → parseFieldDescriptor (TX4 k).2.2.1 = some (tyX4 k) := by decide +kernel
theorem nmX5 : ∀ a, a < 9 → ∀ b, b < 9 → a ≠ b → (TX5 a).2.1 ≠ (TX5 b).2.1 := by decide +kernel
theorem tyX5_ok : ∀ k, k < 9 → parseFieldDescriptor (TX5 k).2.2.1 = some (tyX5 k) := by decide +kernel
theorem nmX6 : ∀ a, a < 10 → ∀ b, b < 10 → a ≠ b → (TX6 a).2.1 ≠ (TX6 b).2.1 := by decide +kernel
theorem tyX6_ok : ∀ k, k < 10 → parseFieldDescriptor (TX6 k).2.2.1 = some (tyX6 k) := by decide +kernel
theorem nmX7 : ∀ a, a < 10 → ∀ b, b < 10 → a ≠ b → (TX7 a).2.1 ≠ (TX7 b).2.1 := by decide +kernel
theorem tyX7_ok : ∀ k, k < 10 → parseFieldDescriptor (TX7 k).2.2.1 = some (tyX7 k) := by decide +kernel
theorem nmX8 : ∀ a, a < 11 → ∀ b, b < 11 → a ≠ b → (TX8 a).2.1 ≠ (TX8 b).2.1 := by decide +kernel
theorem tyX8_ok : ∀ k, k < 11 → parseFieldDescriptor (TX8 k).2.2.1 = some (tyX8 k) := by decide +kernel
theorem nmX9 : ∀ a, a < 0 → ∀ b, b < 0 → a ≠ b → (TX9 a).2.1 ≠ (TX9 b).2.1 := by decide +kernel
theorem tyX9_ok : ∀ k, k < 0 → parseFieldDescriptor (TX9 k).2.2.1 = some (tyX9 k) := by decide +kernel
theorem nmJ0 : ∀ a, a < 4 → ∀ b, b < 4 → a ≠ b → (TJ0 a).2.1 ≠ (TJ0 b).2.1 := by decide +kernel
theorem tyJ0_ok : ∀ k, k < 4 → parseFieldDescriptor (TJ0 k).2.2.1 = some (tyJ0 k) := by decide +kernel
theorem nmJ4 : ∀ a, a < 4 → ∀ b, b < 4 → a ≠ b → (TJ4 a).2.1 ≠ (TJ4 b).2.1 := by decide +kernel
theorem tyJ4_ok : ∀ k, k < 4 → parseFieldDescriptor (TJ4 k).2.2.1 = some (tyJ4 k) := by decide +kernel
theorem nmL : ∀ a, a < 8 → ∀ b, b < 8 → a ≠ b → (TL a).2.1 ≠ (TL b).2.1 := by decide +kernel
theorem tyL_ok : ∀ k, k < 8 → parseFieldDescriptor (TL k).2.2.1 = some (tyL k) := by decide +kernel
