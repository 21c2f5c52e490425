/-! ===== BEGIN printed: names, fields, word lists, decode rows ===== -/
def RX0 : String := "LineTimes$DayWord"
def TX0 : u_T := fun k => match k with
  | 0 => ("LineTimes$DayWord", "day", "I", true)
  | 1 => ("LineTimes$DayWord", "runs", "Z", false)
  | _ => ("LineTimes$DayWord", "before", "LLineTimes$DayWord;", true)
def tyX0 : Nat → FieldType := fun k => match k with
  | 0 => .int
  | 1 => .boolean
  | _ => .object "LineTimes$DayWord"
abbrev wsX00 : List Cond := u_ws RX0 TX0 3
theorem nmX0 : ∀ a, a < 3 → ∀ b, b < 3 → a ≠ b → (TX0 a).2.1 ≠ (TX0 b).2.1 := by decide +kernel
theorem tyX0_ok : ∀ k, k < 3 → parseFieldDescriptor (TX0 k).2.2.1 = some (tyX0 k) := by decide +kernel
abbrev cX0_init : ByteArray := prog_2_method_1_code
def yX0_init : MethodName := ⟨RX0, "<init>", "(IZLLineTimes$DayWord;)V"⟩
def RX1 : String := "LineTimes$LateWord"
def TX1 : u_T := fun k => match k with
  | 0 => ("LineTimes$LateWord", "stop", "I", true)
  | 1 => ("LineTimes$LateWord", "by", "I", true)
  | 2 => ("LineTimes$LateWord", "day", "I", true)
  | _ => ("LineTimes$LateWord", "before", "LLineTimes$LateWord;", true)
def tyX1 : Nat → FieldType := fun k => match k with
  | 0 => .int
  | 1 => .int
  | 2 => .int
  | _ => .object "LineTimes$LateWord"
abbrev wsX10 : List Cond := u_ws RX1 TX1 4
theorem nmX1 : ∀ a, a < 4 → ∀ b, b < 4 → a ≠ b → (TX1 a).2.1 ≠ (TX1 b).2.1 := by decide +kernel
theorem tyX1_ok : ∀ k, k < 4 → parseFieldDescriptor (TX1 k).2.2.1 = some (tyX1 k) := by decide +kernel
abbrev cX1_init : ByteArray := prog_3_method_1_code
def yX1_init : MethodName := ⟨RX1, "<init>", "(IIILLineTimes$LateWord;)V"⟩
def RX2 : String := "LineTimes$Leavings"
def TX2 : u_T := fun k => match k with
  | 0 => ("LineTimes$Leavings", "times", "[I", true)
  | 1 => ("LineTimes$Leavings", "count", "I", false)
  | _ => ("LineTimes$Leavings", "wanted", "I", false)
def tyX2 : Nat → FieldType := fun k => match k with
  | 0 => .array .int
  | 1 => .int
  | _ => .int
abbrev wsX20 : List Cond := u_ws RX2 TX2 3
theorem nmX2 : ∀ a, a < 3 → ∀ b, b < 3 → a ≠ b → (TX2 a).2.1 ≠ (TX2 b).2.1 := by decide +kernel
theorem tyX2_ok : ∀ k, k < 3 → parseFieldDescriptor (TX2 k).2.2.1 = some (tyX2 k) := by decide +kernel
abbrev cX2_init : ByteArray := prog_4_method_1_code
def yX2_init : MethodName := ⟨RX2, "<init>", "()V"⟩
abbrev cX2_clear : ByteArray := prog_4_method_2_code
def yX2_clear : MethodName := ⟨RX2, "clear", "(I)V"⟩
abbrev cX2_note : ByteArray := prog_4_method_3_code
def yX2_note : MethodName := ⟨RX2, "note", "(I)V"⟩
def RX3 : String := "LineTimes$Line"
def TX3 : u_T := fun k => match k with
  | 0 => ("LineTimes$Line", "weekDays", "I", true)
  | 1 => ("LineTimes$Line", "stopPlaces", "[I", true)
  | 2 => ("LineTimes$Line", "stopArrives", "[I", true)
  | 3 => ("LineTimes$Line", "stopLeaves", "[I", true)
  | 4 => ("LineTimes$Line", "stopCount", "I", false)
  | 5 => ("LineTimes$Line", "dayWords", "LLineTimes$DayWord;", false)
  | 6 => ("LineTimes$Line", "lateWords", "LLineTimes$LateWord;", false)
  | 7 => ("LineTimes$Line", "runs", "[Z", true)
  | 8 => ("LineTimes$Line", "arrivals", "[[I", true)
  | 9 => ("LineTimes$Line", "departures", "[[I", true)
  | _ => ("LineTimes$Line", "lateBy", "[I", true)
def tyX3 : Nat → FieldType := fun k => match k with
  | 0 => .int
  | 1 => .array .int
  | 2 => .array .int
  | 3 => .array .int
  | 4 => .int
  | 5 => .object "LineTimes$DayWord"
  | 6 => .object "LineTimes$LateWord"
  | 7 => .array .boolean
  | 8 => .array (.array .int)
  | 9 => .array (.array .int)
  | _ => .array .int
abbrev wsX30 : List Cond := u_ws RX3 TX3 11
theorem nmX3 : ∀ a, a < 11 → ∀ b, b < 11 → a ≠ b → (TX3 a).2.1 ≠ (TX3 b).2.1 := by decide +kernel
theorem tyX3_ok : ∀ k, k < 11 → parseFieldDescriptor (TX3 k).2.2.1 = some (tyX3 k) := by decide +kernel
abbrev cX3_init : ByteArray := prog_5_method_1_code
def yX3_init : MethodName := ⟨RX3, "<init>", "(I)V"⟩
abbrev cX3_hasRoom : ByteArray := prog_5_method_2_code
def yX3_hasRoom : MethodName := ⟨RX3, "hasRoom", "()Z"⟩
abbrev cX3_lastLeaving : ByteArray := prog_5_method_3_code
def yX3_lastLeaving : MethodName := ⟨RX3, "lastLeaving", "()I"⟩
abbrev cX3_addStop : ByteArray := prog_5_method_4_code
def yX3_addStop : MethodName := ⟨RX3, "addStop", "(III)V"⟩
abbrev cX3_wordFor : ByteArray := prog_5_method_5_code
def yX3_wordFor : MethodName := ⟨RX3, "wordFor", "(I)LLineTimes$DayWord;"⟩
abbrev cX3_workOutRuns : ByteArray := prog_5_method_6_code
def yX3_workOutRuns : MethodName := ⟨RX3, "workOutRuns", "(I[LLineTimes$Place;)V"⟩
abbrev cX3_runsOn : ByteArray := prog_5_method_7_code
def yX3_runsOn : MethodName := ⟨RX3, "runsOn", "(I)Z"⟩
abbrev cX3_workOutTimes : ByteArray := prog_5_method_8_code
def yX3_workOutTimes : MethodName := ⟨RX3, "workOutTimes", "(II[LLineTimes$Place;)V"⟩
abbrev cX3_gatherLate : ByteArray := prog_5_method_9_code
def yX3_gatherLate : MethodName := ⟨RX3, "gatherLate", "(I)V"⟩
def RX4 : String := "LineTimes$Net"
def TX4 : u_T := fun k => match k with
  | 0 => ("LineTimes$Net", "lines", "Ljava/util/List;", true)
  | 1 => ("LineTimes$Net", "places", "[LLineTimes$Place;", true)
  | 2 => ("LineTimes$Net", "arrivals", "[[I", true)
  | 3 => ("LineTimes$Net", "soonest", "[I", true)
  | _ => ("LineTimes$Net", "firstDay", "I", false)
def tyX4 : Nat → FieldType := fun k => match k with
  | 0 => .object "java/util/List"
  | 1 => .array (.object "LineTimes$Place")
  | 2 => .array (.array .int)
  | 3 => .array .int
  | _ => .int
abbrev wsX40 : List Cond := u_ws RX4 TX4 5
theorem nmX4 : ∀ a, a < 5 → ∀ b, b < 5 → a ≠ b → (TX4 a).2.1 ≠ (TX4 b).2.1 := by decide +kernel
theorem tyX4_ok : ∀ k, k < 5 → parseFieldDescriptor (TX4 k).2.2.1 = some (tyX4 k) := by decide +kernel
abbrev cX4_init : ByteArray := prog_6_method_1_code
def yX4_init : MethodName := ⟨RX4, "<init>", "()V"⟩
abbrev cX4_findBest : ByteArray := prog_6_method_2_code
def yX4_findBest : MethodName := ⟨RX4, "findBest", "(III)I"⟩
abbrev cX4_workOutRuns : ByteArray := prog_6_method_3_code
def yX4_workOutRuns : MethodName := ⟨RX4, "workOutRuns", "(I)V"⟩
abbrev cX4_spread : ByteArray := prog_6_method_4_code
def yX4_spread : MethodName := ⟨RX4, "spread", "(II)Z"⟩
abbrev cX4_ride : ByteArray := prog_6_method_5_code
def yX4_ride : MethodName := ⟨RX4, "ride", "(LLineTimes$Line;III)Z"⟩
abbrev cX4_canEnter : ByteArray := prog_6_method_6_code
def yX4_canEnter : MethodName := ⟨RX4, "canEnter", "(III)Z"⟩
abbrev cX4_tell : ByteArray := prog_6_method_7_code
def yX4_tell : MethodName := ⟨RX4, "tell", "(LLineTimes$Way;II)V"⟩
abbrev cX4_tellLastLeg : ByteArray := prog_6_method_8_code
def yX4_tellLastLeg : MethodName := ⟨RX4, "tellLastLeg", "([III)I"⟩
abbrev cX4_findLeg : ByteArray := prog_6_method_9_code
def yX4_findLeg : MethodName := ⟨RX4, "findLeg", "([ILLineTimes$Line;III)Z"⟩
abbrev cX4_findEntry : ByteArray := prog_6_method_10_code
def yX4_findEntry : MethodName := ⟨RX4, "findEntry", "(LLineTimes$Line;III)I"⟩
abbrev cX4_gather : ByteArray := prog_6_method_11_code
def yX4_gather : MethodName := ⟨RX4, "gather", "(LLineTimes$Leavings;III)V"⟩
abbrev cX4_gatherRun : ByteArray := prog_6_method_12_code
def yX4_gatherRun : MethodName := ⟨RX4, "gatherRun", "(LLineTimes$Leavings;LLineTimes$Line;IIII)V"⟩
def RX5 : String := "LineTimes$Place"
def TX5 : u_T := fun k => match k with
  | 0 => ("LineTimes$Place", "latest", "LLineTimes$ZoneRow;", false)
  | 1 => ("LineTimes$Place", "rowCount", "I", false)
  | _ => ("LineTimes$Place", "changeSeconds", "I", false)
def tyX5 : Nat → FieldType := fun k => match k with
  | 0 => .object "LineTimes$ZoneRow"
  | 1 => .int
  | _ => .int
abbrev wsX50 : List Cond := u_ws RX5 TX5 3
theorem nmX5 : ∀ a, a < 3 → ∀ b, b < 3 → a ≠ b → (TX5 a).2.1 ≠ (TX5 b).2.1 := by decide +kernel
theorem tyX5_ok : ∀ k, k < 3 → parseFieldDescriptor (TX5 k).2.2.1 = some (tyX5 k) := by decide +kernel
abbrev cX5_init : ByteArray := prog_7_method_1_code
def yX5_init : MethodName := ⟨RX5, "<init>", "()V"⟩
abbrev cX5_rowFrom : ByteArray := prog_7_method_2_code
def yX5_rowFrom : MethodName := ⟨RX5, "rowFrom", "(I)LLineTimes$ZoneRow;"⟩
abbrev cX5_addRow : ByteArray := prog_7_method_3_code
def yX5_addRow : MethodName := ⟨RX5, "addRow", "(II)V"⟩
abbrev cX5_minutesAt : ByteArray := prog_7_method_4_code
def yX5_minutesAt : MethodName := ⟨RX5, "minutesAt", "(I)I"⟩
def RX6 : String := "LineTimes$Text"
def TX6 : u_T := fun k => match k with
  | 0 => ("LineTimes$Text", "came", "Ljava/util/List;", true)
  | 1 => ("LineTimes$Text", "length", "I", false)
  | 2 => ("LineTimes$Text", "signs", "[C", true)
  | 3 => ("LineTimes$Text", "at", "I", false)
  | 4 => ("LineTimes$Text", "fault", "I", false)
  | _ => ("LineTimes$Text", "room", "I", false)
def tyX6 : Nat → FieldType := fun k => match k with
  | 0 => .object "java/util/List"
  | 1 => .int
  | 2 => .array .char
  | 3 => .int
  | 4 => .int
  | _ => .int
abbrev wsX60 : List Cond := u_ws RX6 TX6 6
theorem nmX6 : ∀ a, a < 6 → ∀ b, b < 6 → a ≠ b → (TX6 a).2.1 ≠ (TX6 b).2.1 := by decide +kernel
theorem tyX6_ok : ∀ k, k < 6 → parseFieldDescriptor (TX6 k).2.2.1 = some (tyX6 k) := by decide +kernel
abbrev cX6_init : ByteArray := prog_8_method_1_code
def yX6_init : MethodName := ⟨RX6, "<init>", "()V"⟩
abbrev cX6_add : ByteArray := prog_8_method_2_code
def yX6_add : MethodName := ⟨RX6, "add", "(C)V"⟩
abbrev cX6_clear : ByteArray := prog_8_method_3_code
def yX6_clear : MethodName := ⟨RX6, "clear", "()V"⟩
abbrev cX6_parse : ByteArray := prog_8_method_4_code
def yX6_parse : MethodName := ⟨RX6, "parse", "(I)I"⟩
abbrev cX6_parseItem : ByteArray := prog_8_method_5_code
def yX6_parseItem : MethodName := ⟨RX6, "parseItem", "()V"⟩
abbrev cX6_lastHasRoom : ByteArray := prog_8_method_6_code
def yX6_lastHasRoom : MethodName := ⟨RX6, "lastHasRoom", "()Z"⟩
abbrev cX6_parseLine : ByteArray := prog_8_method_7_code
def yX6_parseLine : MethodName := ⟨RX6, "parseLine", "()V"⟩
abbrev cX6_parseStop : ByteArray := prog_8_method_8_code
def yX6_parseStop : MethodName := ⟨RX6, "parseStop", "(LLineTimes$Line;)V"⟩
abbrev cX6_stands : ByteArray := prog_8_method_9_code
def yX6_stands : MethodName := ⟨RX6, "stands", "(C)Z"⟩
abbrev cX6_parseSign : ByteArray := prog_8_method_10_code
def yX6_parseSign : MethodName := ⟨RX6, "parseSign", "(C)V"⟩
abbrev cX6_parseNumber : ByteArray := prog_8_method_11_code
def yX6_parseNumber : MethodName := ⟨RX6, "parseNumber", "(II)I"⟩
def RX7 : String := "LineTimes$Way"
def TX7 : u_T := fun k => match k with
  | 0 => ("LineTimes$Way", "legs", "[[I", true)
  | _ => ("LineTimes$Way", "legCount", "I", false)
def tyX7 : Nat → FieldType := fun k => match k with
  | 0 => .array (.array .int)
  | _ => .int
abbrev wsX70 : List Cond := u_ws RX7 TX7 2
theorem nmX7 : ∀ a, a < 2 → ∀ b, b < 2 → a ≠ b → (TX7 a).2.1 ≠ (TX7 b).2.1 := by decide +kernel
theorem tyX7_ok : ∀ k, k < 2 → parseFieldDescriptor (TX7 k).2.2.1 = some (tyX7 k) := by decide +kernel
abbrev cX7_init : ByteArray := prog_9_method_1_code
def yX7_init : MethodName := ⟨RX7, "<init>", "()V"⟩
def RX8 : String := "LineTimes$ZoneRow"
def TX8 : u_T := fun k => match k with
  | 0 => ("LineTimes$ZoneRow", "from", "I", true)
  | 1 => ("LineTimes$ZoneRow", "minutes", "I", false)
  | _ => ("LineTimes$ZoneRow", "earlier", "LLineTimes$ZoneRow;", false)
def tyX8 : Nat → FieldType := fun k => match k with
  | 0 => .int
  | 1 => .int
  | _ => .object "LineTimes$ZoneRow"
abbrev wsX80 : List Cond := u_ws RX8 TX8 3
theorem nmX8 : ∀ a, a < 3 → ∀ b, b < 3 → a ≠ b → (TX8 a).2.1 ≠ (TX8 b).2.1 := by decide +kernel
theorem tyX8_ok : ∀ k, k < 3 → parseFieldDescriptor (TX8 k).2.2.1 = some (tyX8 k) := by decide +kernel
abbrev cX8_init : ByteArray := prog_10_method_1_code
def yX8_init : MethodName := ⟨RX8, "<init>", "(IILLineTimes$ZoneRow;)V"⟩
def RX9 : String := "LineTimes"
def TX9 : u_T := fun k => match k with
  | 0 => ("LineTimes", "net", "LLineTimes$Net;", true)
  | 1 => ("LineTimes", "way", "LLineTimes$Way;", true)
  | 2 => ("LineTimes", "leavings", "LLineTimes$Leavings;", true)
  | 3 => ("LineTimes", "text", "LLineTimes$Text;", true)
  | 4 => ("LineTimes", "exceptionCount", "I", false)
  | 5 => ("LineTimes", "zoneCount", "I", false)
  | _ => ("LineTimes", "lateCount", "I", false)
def tyX9 : Nat → FieldType := fun k => match k with
  | 0 => .object "LineTimes$Net"
  | 1 => .object "LineTimes$Way"
  | 2 => .object "LineTimes$Leavings"
  | 3 => .object "LineTimes$Text"
  | 4 => .int
  | 5 => .int
  | _ => .int
abbrev wsX90 : List Cond := u_ws RX9 TX9 7
theorem nmX9 : ∀ a, a < 7 → ∀ b, b < 7 → a ≠ b → (TX9 a).2.1 ≠ (TX9 b).2.1 := by decide +kernel
theorem tyX9_ok : ∀ k, k < 7 → parseFieldDescriptor (TX9 k).2.2.1 = some (tyX9 k) := by decide +kernel
abbrev cX9_init : ByteArray := prog_1_method_1_code
def yX9_init : MethodName := ⟨RX9, "<init>", "()V"⟩
abbrev cX9_line : ByteArray := prog_1_method_2_code
def yX9_line : MethodName := ⟨RX9, "line", "(I)I"⟩
abbrev cX9_stop : ByteArray := prog_1_method_3_code
def yX9_stop : MethodName := ⟨RX9, "stop", "(IIJJ)I"⟩
abbrev cX9_exception : ByteArray := prog_1_method_4_code
def yX9_exception : MethodName := ⟨RX9, "exception", "(IJZ)I"⟩
abbrev cX9_zone : ByteArray := prog_1_method_5_code
def yX9_zone : MethodName := ⟨RX9, "zone", "(IJI)I"⟩
abbrev cX9_least : ByteArray := prog_1_method_6_code
def yX9_least : MethodName := ⟨RX9, "least", "(IJ)I"⟩
abbrev cX9_change : ByteArray := prog_1_method_7_code
def yX9_change : MethodName := ⟨RX9, "change", "(IIJJ)I"⟩
abbrev cX9_earliest : ByteArray := prog_1_method_8_code
def yX9_earliest : MethodName := ⟨RX9, "earliest", "(IIJ)J"⟩
abbrev cX9_step : ByteArray := prog_1_method_9_code
def yX9_step : MethodName := ⟨RX9, "step", "(II)I"⟩
abbrev cX9_days : ByteArray := prog_1_method_10_code
def yX9_days : MethodName := ⟨RX9, "days", "(II)I"⟩
abbrev cX9_next : ByteArray := prog_1_method_11_code
def yX9_next : MethodName := ⟨RX9, "next", "(IIJI)I"⟩
abbrev cX9_sign : ByteArray := prog_1_method_12_code
def yX9_sign : MethodName := ⟨RX9, "sign", "(I)V"⟩
abbrev cX9_read : ByteArray := prog_1_method_13_code
def yX9_read : MethodName := ⟨RX9, "read", "()I"⟩
abbrev cX9_isLeap : ByteArray := prog_1_method_14_code
def yX9_isLeap : MethodName := ⟨RX9, "isLeap", "(I)Z"⟩
abbrev cX9_requireJourney : ByteArray := prog_1_method_15_code
def yX9_requireJourney : MethodName := ⟨RX9, "requireJourney", "(IIJ)V"⟩
abbrev cX9_requireIndex : ByteArray := prog_1_method_16_code
def yX9_requireIndex : MethodName := ⟨RX9, "requireIndex", "(II)V"⟩
abbrev cX9_requireRange : ByteArray := prog_1_method_17_code
def yX9_requireRange : MethodName := ⟨RX9, "requireRange", "(JJJ)V"⟩
abbrev cX9_requireRoom : ByteArray := prog_1_method_18_code
def yX9_requireRoom : MethodName := ⟨RX9, "requireRoom", "(Z)V"⟩
def RX10 : String := "LineTimesModel"
def TX10 : u_T := fun k => match k with
  | 0 => ("LineTimesModel", "thrown", "I", false)
  | 1 => ("LineTimesModel", "lines", "I", false)
  | 2 => ("LineTimesModel", "days", "[I", true)
  | 3 => ("LineTimesModel", "many", "[I", true)
  | 4 => ("LineTimesModel", "places", "[I", true)
  | 5 => ("LineTimesModel", "arrives", "[J", true)
  | 6 => ("LineTimesModel", "leaves", "[J", true)
  | 7 => ("LineTimesModel", "exceptions", "I", false)
  | 8 => ("LineTimesModel", "exceptLine", "[I", true)
  | 9 => ("LineTimesModel", "exceptDay", "[J", true)
  | 10 => ("LineTimesModel", "exceptRuns", "[Z", true)
  | 11 => ("LineTimesModel", "zones", "I", false)
  | 12 => ("LineTimesModel", "zonePlace", "[I", true)
  | 13 => ("LineTimesModel", "zoneFrom", "[J", true)
  | 14 => ("LineTimesModel", "zoneMinutes", "[I", true)
  | 15 => ("LineTimesModel", "lates", "I", false)
  | 16 => ("LineTimesModel", "lateLine", "[I", true)
  | 17 => ("LineTimesModel", "lateStop", "[I", true)
  | 18 => ("LineTimesModel", "lateBy", "[J", true)
  | 19 => ("LineTimesModel", "lateDay", "[J", true)
  | 20 => ("LineTimesModel", "changes", "[I", true)
  | 21 => ("LineTimesModel", "earliest", "[J", true)
  | 22 => ("LineTimesModel", "legs", "I", false)
  | 23 => ("LineTimesModel", "legLine", "[I", true)
  | 24 => ("LineTimesModel", "legDay", "[J", true)
  | 25 => ("LineTimesModel", "legOn", "[I", true)
  | 26 => ("LineTimesModel", "legOff", "[I", true)
  | 27 => ("LineTimesModel", "written", "I", false)
  | 28 => ("LineTimesModel", "text", "[I", true)
  | 29 => ("LineTimesModel", "in", "[J", true)
  | 30 => ("LineTimesModel", "out", "[J", true)
  | 31 => ("LineTimesModel", "legTimes", "[I", true)
  | 32 => ("LineTimesModel", "told", "[J", true)
  | 33 => ("LineTimesModel", "best", "[J", true)
  | 34 => ("LineTimesModel", "probe", "[J", true)
  | 35 => ("LineTimesModel", "at", "I", false)
  | _ => ("LineTimesModel", "fault", "I", false)
def tyX10 : Nat → FieldType := fun k => match k with
  | 0 => .int
  | 1 => .int
  | 2 => .array .int
  | 3 => .array .int
  | 4 => .array .int
  | 5 => .array .long
  | 6 => .array .long
  | 7 => .int
  | 8 => .array .int
  | 9 => .array .long
  | 10 => .array .boolean
  | 11 => .int
  | 12 => .array .int
  | 13 => .array .long
  | 14 => .array .int
  | 15 => .int
  | 16 => .array .int
  | 17 => .array .int
  | 18 => .array .long
  | 19 => .array .long
  | 20 => .array .int
  | 21 => .array .long
  | 22 => .int
  | 23 => .array .int
  | 24 => .array .long
  | 25 => .array .int
  | 26 => .array .int
  | 27 => .int
  | 28 => .array .int
  | 29 => .array .long
  | 30 => .array .long
  | 31 => .array .int
  | 32 => .array .long
  | 33 => .array .long
  | 34 => .array .long
  | 35 => .int
  | _ => .int
abbrev wsX100 : List Cond := u_ws RX10 TX10 37
theorem nmX10 : ∀ a, a < 37 → ∀ b, b < 37 → a ≠ b → (TX10 a).2.1 ≠ (TX10 b).2.1 := by decide +kernel
theorem tyX10_ok : ∀ k, k < 37 → parseFieldDescriptor (TX10 k).2.2.1 = some (tyX10 k) := by decide +kernel
abbrev cX10_init : ByteArray := prog_12_method_1_code
def yX10_init : MethodName := ⟨RX10, "<init>", "()V"⟩
abbrev cX10_thrown : ByteArray := prog_12_method_2_code
def yX10_thrown : MethodName := ⟨RX10, "thrown", "()I"⟩
abbrev cX10_refused : ByteArray := prog_12_method_3_code
def yX10_refused : MethodName := ⟨RX10, "refused", "(ZZZ)Z"⟩
abbrev cX10_within : ByteArray := prog_12_method_4_code
def yX10_within : MethodName := ⟨RX10, "within", "(JJJ)Z"⟩
abbrev cX10_isPlace : ByteArray := prog_12_method_5_code
def yX10_isPlace : MethodName := ⟨RX10, "isPlace", "(I)Z"⟩
abbrev cX10_isLine : ByteArray := prog_12_method_6_code
def yX10_isLine : MethodName := ⟨RX10, "isLine", "(I)Z"⟩
abbrev cX10_line : ByteArray := prog_12_method_7_code
def yX10_line : MethodName := ⟨RX10, "line", "(I)I"⟩
abbrev cX10_addStop : ByteArray := prog_12_method_8_code
def yX10_addStop : MethodName := ⟨RX10, "addStop", "(IIJJ)V"⟩
abbrev cX10_stop : ByteArray := prog_12_method_9_code
def yX10_stop : MethodName := ⟨RX10, "stop", "(IIJJ)I"⟩
abbrev cX10_exception : ByteArray := prog_12_method_10_code
def yX10_exception : MethodName := ⟨RX10, "exception", "(IJZ)I"⟩
abbrev cX10_zone : ByteArray := prog_12_method_11_code
def yX10_zone : MethodName := ⟨RX10, "zone", "(IJI)I"⟩
abbrev cX10_least : ByteArray := prog_12_method_12_code
def yX10_least : MethodName := ⟨RX10, "least", "(IJ)I"⟩
abbrev cX10_change : ByteArray := prog_12_method_13_code
def yX10_change : MethodName := ⟨RX10, "change", "(IIJJ)I"⟩
abbrev cX10_runs : ByteArray := prog_12_method_14_code
def yX10_runs : MethodName := ⟨RX10, "runs", "(IJ)Z"⟩
abbrev cX10_minutesAt : ByteArray := prog_12_method_15_code
def yX10_minutesAt : MethodName := ⟨RX10, "minutesAt", "(IJ)I"⟩
abbrev cX10_lateAt : ByteArray := prog_12_method_16_code
def yX10_lateAt : MethodName := ⟨RX10, "lateAt", "(IIJ)J"⟩
abbrev cX10_timeAt : ByteArray := prog_12_method_17_code
def yX10_timeAt : MethodName := ⟨RX10, "timeAt", "(IJIZ)J"⟩
abbrev cX10_take : ByteArray := prog_12_method_18_code
def yX10_take : MethodName := ⟨RX10, "take", "(IJ)Z"⟩
abbrev cX10_isLeg : ByteArray := prog_12_method_19_code
def yX10_isLeg : MethodName := ⟨RX10, "isLeg", "(II)Z"⟩
abbrev cX10_ready : ByteArray := prog_12_method_20_code
def yX10_ready : MethodName := ⟨RX10, "ready", "(IIIJ)J"⟩
abbrev cX10_round : ByteArray := prog_12_method_21_code
def yX10_round : MethodName := ⟨RX10, "round", "(IIJ)V"⟩
abbrev cX10_choose : ByteArray := prog_12_method_22_code
def yX10_choose : MethodName := ⟨RX10, "choose", "(IIIJ)V"⟩
abbrev cX10_earliest : ByteArray := prog_12_method_23_code
def yX10_earliest : MethodName := ⟨RX10, "earliest", "(IIJ)J"⟩
abbrev cX10_step : ByteArray := prog_12_method_24_code
def yX10_step : MethodName := ⟨RX10, "step", "(II)I"⟩
abbrev cX10_keepTimes : ByteArray := prog_12_method_25_code
def yX10_keepTimes : MethodName := ⟨RX10, "keepTimes", "()V"⟩
abbrev cX10_days : ByteArray := prog_12_method_26_code
def yX10_days : MethodName := ⟨RX10, "days", "(II)I"⟩
abbrev cX10_order : ByteArray := prog_12_method_27_code
def yX10_order : MethodName := ⟨RX10, "order", "([J[J)I"⟩
abbrev cX10_goOn : ByteArray := prog_12_method_28_code
def yX10_goOn : MethodName := ⟨RX10, "goOn", "(IIJZ)Z"⟩
abbrev cX10_next : ByteArray := prog_12_method_29_code
def yX10_next : MethodName := ⟨RX10, "next", "(IIJI)I"⟩
abbrev cX10_sign : ByteArray := prog_12_method_30_code
def yX10_sign : MethodName := ⟨RX10, "sign", "(I)V"⟩
abbrev cX10_fail : ByteArray := prog_12_method_31_code
def yX10_fail : MethodName := ⟨RX10, "fail", "(I)V"⟩
abbrev cX10_look : ByteArray := prog_12_method_32_code
def yX10_look : MethodName := ⟨RX10, "look", "()I"⟩
abbrev cX10_number : ByteArray := prog_12_method_33_code
def yX10_number : MethodName := ⟨RX10, "number", "(I)I"⟩
abbrev cX10_blank : ByteArray := prog_12_method_34_code
def yX10_blank : MethodName := ⟨RX10, "blank", "()V"⟩
abbrev cX10_readStop : ByteArray := prog_12_method_35_code
def yX10_readStop : MethodName := ⟨RX10, "readStop", "(I)V"⟩
abbrev cX10_read : ByteArray := prog_12_method_36_code
def yX10_read : MethodName := ⟨RX10, "read", "()I"⟩
def RJx145de : String := "java/io/Serializable"
def TJx145de : u_T := fun k => match k with
  | _ => ("", "", "", false)
def tyJx145de : Nat → FieldType := fun k => match k with
  | _ => .int
abbrev wsJx145de0 : List Cond := u_ws RJx145de TJx145de 0
theorem nmJx145de : ∀ a, a < 0 → ∀ b, b < 0 → a ≠ b → (TJx145de a).2.1 ≠ (TJx145de b).2.1 := by decide +kernel
theorem tyJx145de_ok : ∀ k, k < 0 → parseFieldDescriptor (TJx145de k).2.2.1 = some (tyJx145de k) := by decide +kernel
def RJx00060 : String := "java/lang/ArrayIndexOutOfBoundsException"
def TJx00060 : u_T := fun k => match k with
  | 0 => ("java/lang/Throwable", "cause", "Ljava/lang/Throwable;", false)
  | 1 => ("java/lang/Throwable", "stackTrace", "[Ljava/lang/StackTraceElement;", false)
  | 2 => ("java/lang/Throwable", "suppressedExceptions", "Ljava/util/List;", false)
  | 3 => ("java/lang/Throwable", "detailMessage", "Ljava/lang/String;", false)
  | 4 => ("java/lang/Throwable", "backtrace", "Ljava/lang/Object;", false)
  | _ => ("java/lang/Throwable", "depth", "I", false)
def tyJx00060 : Nat → FieldType := fun k => match k with
  | 0 => .object "java/lang/Throwable"
  | 1 => .array (.object "java/lang/StackTraceElement")
  | 2 => .object "java/util/List"
  | 3 => .object "java/lang/String"
  | 4 => .object "java/lang/Object"
  | _ => .int
abbrev wsJx000600 : List Cond := u_ws RJx00060 TJx00060 6
theorem nmJx00060 : ∀ a, a < 6 → ∀ b, b < 6 → a ≠ b → (TJx00060 a).2.1 ≠ (TJx00060 b).2.1 := by decide +kernel
theorem tyJx00060_ok : ∀ k, k < 6 → parseFieldDescriptor (TJx00060 k).2.2.1 = some (tyJx00060 k) := by decide +kernel
abbrev cJx00060_init_a7421 : ByteArray := prog_14_method_2_code
def yJx00060_init_a7421 : MethodName := ⟨RJx00060, "<init>", "(Ljava/lang/String;)V"⟩
def RJx8e188 : String := "java/lang/Cloneable"
def TJx8e188 : u_T := fun k => match k with
  | _ => ("", "", "", false)
def tyJx8e188 : Nat → FieldType := fun k => match k with
  | _ => .int
abbrev wsJx8e1880 : List Cond := u_ws RJx8e188 TJx8e188 0
theorem nmJx8e188 : ∀ a, a < 0 → ∀ b, b < 0 → a ≠ b → (TJx8e188 a).2.1 ≠ (TJx8e188 b).2.1 := by decide +kernel
theorem tyJx8e188_ok : ∀ k, k < 0 → parseFieldDescriptor (TJx8e188 k).2.2.1 = some (tyJx8e188 k) := by decide +kernel
def RJxab1ab : String := "java/lang/Iterable"
def TJxab1ab : u_T := fun k => match k with
  | _ => ("", "", "", false)
def tyJxab1ab : Nat → FieldType := fun k => match k with
  | _ => .int
abbrev wsJxab1ab0 : List Cond := u_ws RJxab1ab TJxab1ab 0
theorem nmJxab1ab : ∀ a, a < 0 → ∀ b, b < 0 → a ≠ b → (TJxab1ab a).2.1 ≠ (TJxab1ab b).2.1 := by decide +kernel
theorem tyJxab1ab_ok : ∀ k, k < 0 → parseFieldDescriptor (TJxab1ab k).2.2.1 = some (tyJxab1ab k) := by decide +kernel
def RJ9 : String := "java/lang/Math"
def TJ9 : u_T := fun k => match k with
  | _ => ("", "", "", false)
def tyJ9 : Nat → FieldType := fun k => match k with
  | _ => .int
abbrev wsJ90 : List Cond := u_ws RJ9 TJ9 0
theorem nmJ9 : ∀ a, a < 0 → ∀ b, b < 0 → a ≠ b → (TJ9 a).2.1 ≠ (TJ9 b).2.1 := by decide +kernel
theorem tyJ9_ok : ∀ k, k < 0 → parseFieldDescriptor (TJ9 k).2.2.1 = some (tyJ9 k) := by decide +kernel
abbrev cJ9_max_7cf53 : ByteArray := prog_20_method_65_code
def yJ9_max_7cf53 : MethodName := ⟨RJ9, "max", "(II)I"⟩
abbrev cJ9_min_7cf53 : ByteArray := prog_20_method_69_code
def yJ9_min_7cf53 : MethodName := ⟨RJ9, "min", "(II)I"⟩
def RJ0 : String := "java/lang/String"
def TJ0 : u_T := fun k => match k with
  | _ => ("", "", "", false)
def tyJ0 : Nat → FieldType := fun k => match k with
  | _ => .int
abbrev wsJ00 : List Cond := u_ws RJ0 TJ0 0
theorem nmJ0 : ∀ a, a < 0 → ∀ b, b < 0 → a ≠ b → (TJ0 a).2.1 ≠ (TJ0 b).2.1 := by decide +kernel
theorem tyJ0_ok : ∀ k, k < 0 → parseFieldDescriptor (TJ0 k).2.2.1 = some (tyJ0 k) := by decide +kernel
def RJ10 : String := "java/lang/System"
def TJ10 : u_T := fun k => match k with
  | _ => ("", "", "", false)
def tyJ10 : Nat → FieldType := fun k => match k with
  | _ => .int
abbrev wsJ100 : List Cond := u_ws RJ10 TJ10 0
theorem nmJ10 : ∀ a, a < 0 → ∀ b, b < 0 → a ≠ b → (TJ10 a).2.1 ≠ (TJ10 b).2.1 := by decide +kernel
theorem tyJ10_ok : ∀ k, k < 0 → parseFieldDescriptor (TJ10 k).2.2.1 = some (tyJ10 k) := by decide +kernel
def RJxa1e45 : String := "java/util/AbstractCollection"
def TJxa1e45 : u_T := fun k => match k with
  | _ => ("", "", "", false)
def tyJxa1e45 : Nat → FieldType := fun k => match k with
  | _ => .int
abbrev wsJxa1e450 : List Cond := u_ws RJxa1e45 TJxa1e45 0
theorem nmJxa1e45 : ∀ a, a < 0 → ∀ b, b < 0 → a ≠ b → (TJxa1e45 a).2.1 ≠ (TJxa1e45 b).2.1 := by decide +kernel
theorem tyJxa1e45_ok : ∀ k, k < 0 → parseFieldDescriptor (TJxa1e45 k).2.2.1 = some (tyJxa1e45 k) := by decide +kernel
abbrev cJxa1e45_init_da8c8 : ByteArray := prog_26_method_1_code
def yJxa1e45_init_da8c8 : MethodName := ⟨RJxa1e45, "<init>", "()V"⟩
def RJxc12de : String := "java/util/AbstractList"
def TJxc12de : u_T := fun k => match k with
  | _ => ("", "", "", false)
def tyJxc12de : Nat → FieldType := fun k => match k with
  | _ => .int
abbrev wsJxc12de0 : List Cond := u_ws RJxc12de TJxc12de 0
theorem nmJxc12de : ∀ a, a < 0 → ∀ b, b < 0 → a ≠ b → (TJxc12de a).2.1 ≠ (TJxc12de b).2.1 := by decide +kernel
theorem tyJxc12de_ok : ∀ k, k < 0 → parseFieldDescriptor (TJxc12de k).2.2.1 = some (tyJxc12de k) := by decide +kernel
abbrev cJxc12de_init_da8c8 : ByteArray := prog_27_method_1_code
def yJxc12de_init_da8c8 : MethodName := ⟨RJxc12de, "<init>", "()V"⟩
def RJx4a65c : String := "java/util/ArrayList"
def TJx4a65c : u_T := fun k => match k with
  | 0 => ("java/util/AbstractList", "modCount", "I", false)
  | 1 => ("java/util/ArrayList", "elementData", "[Ljava/lang/Object;", false)
  | _ => ("java/util/ArrayList", "size", "I", false)
def tyJx4a65c : Nat → FieldType := fun k => match k with
  | 0 => .int
  | 1 => .array (.object "java/lang/Object")
  | _ => .int
abbrev wsJx4a65c0 : List Cond := u_ws RJx4a65c TJx4a65c 3
theorem nmJx4a65c : ∀ a, a < 3 → ∀ b, b < 3 → a ≠ b → (TJx4a65c a).2.1 ≠ (TJx4a65c b).2.1 := by decide +kernel
theorem tyJx4a65c_ok : ∀ k, k < 3 → parseFieldDescriptor (TJx4a65c k).2.2.1 = some (tyJx4a65c k) := by decide +kernel
abbrev cJx4a65c_init_da8c8 : ByteArray := prog_28_method_2_code
def yJx4a65c_init_da8c8 : MethodName := ⟨RJx4a65c, "<init>", "()V"⟩
abbrev cJx4a65c_grow_92f84 : ByteArray := prog_28_method_6_code
def yJx4a65c_grow_92f84 : MethodName := ⟨RJx4a65c, "grow", "(I)[Ljava/lang/Object;"⟩
abbrev cJx4a65c_grow_d5877 : ByteArray := prog_28_method_7_code
def yJx4a65c_grow_d5877 : MethodName := ⟨RJx4a65c, "grow", "()[Ljava/lang/Object;"⟩
abbrev cJx4a65c_size_8abf5 : ByteArray := prog_28_method_8_code
def yJx4a65c_size_8abf5 : MethodName := ⟨RJx4a65c, "size", "()I"⟩
abbrev cJx4a65c_isEmpty_aae02 : ByteArray := prog_28_method_9_code
def yJx4a65c_isEmpty_aae02 : MethodName := ⟨RJx4a65c, "isEmpty", "()Z"⟩
abbrev cJx4a65c_elementData_915e3 : ByteArray := prog_28_method_18_code
def yJx4a65c_elementData_915e3 : MethodName := ⟨RJx4a65c, "elementData", "(I)Ljava/lang/Object;"⟩
abbrev cJx4a65c_get_915e3 : ByteArray := prog_28_method_20_code
def yJx4a65c_get_915e3 : MethodName := ⟨RJx4a65c, "get", "(I)Ljava/lang/Object;"⟩
abbrev cJx4a65c_add_72be8 : ByteArray := prog_28_method_24_code
def yJx4a65c_add_72be8 : MethodName := ⟨RJx4a65c, "add", "(Ljava/lang/Object;[Ljava/lang/Object;I)V"⟩
abbrev cJx4a65c_add_9ea2d : ByteArray := prog_28_method_25_code
def yJx4a65c_add_9ea2d : MethodName := ⟨RJx4a65c, "add", "(Ljava/lang/Object;)Z"⟩
abbrev cJx4a65c_clear_da8c8 : ByteArray := prog_28_method_40_code
def yJx4a65c_clear_da8c8 : MethodName := ⟨RJx4a65c, "clear", "()V"⟩
def RJ7 : String := "java/util/Arrays"
def TJ7 : u_T := fun k => match k with
  | _ => ("", "", "", false)
def tyJ7 : Nat → FieldType := fun k => match k with
  | _ => .int
abbrev wsJ70 : List Cond := u_ws RJ7 TJ7 0
theorem nmJ7 : ∀ a, a < 0 → ∀ b, b < 0 → a ≠ b → (TJ7 a).2.1 ≠ (TJ7 b).2.1 := by decide +kernel
theorem tyJ7_ok : ∀ k, k < 0 → parseFieldDescriptor (TJ7 k).2.2.1 = some (tyJ7 k) := by decide +kernel
abbrev cJ7_fill_53178 : ByteArray := prog_29_method_103_code
def yJ7_fill_53178 : MethodName := ⟨RJ7, "fill", "([II)V"⟩
abbrev cJ7_copyOf_1904c : ByteArray := prog_29_method_119_code
def yJ7_copyOf_1904c : MethodName := ⟨RJ7, "copyOf", "([Ljava/lang/Object;I)[Ljava/lang/Object;"⟩
abbrev cJ7_copyOf_6403c : ByteArray := prog_29_method_120_code
def yJ7_copyOf_6403c : MethodName := ⟨RJ7, "copyOf", "([Ljava/lang/Object;ILjava/lang/Class;)[Ljava/lang/Object;"⟩
def RJx5ef63 : String := "java/util/Collection"
def TJx5ef63 : u_T := fun k => match k with
  | _ => ("", "", "", false)
def tyJx5ef63 : Nat → FieldType := fun k => match k with
  | _ => .int
abbrev wsJx5ef630 : List Cond := u_ws RJx5ef63 TJx5ef63 0
theorem nmJx5ef63 : ∀ a, a < 0 → ∀ b, b < 0 → a ≠ b → (TJx5ef63 a).2.1 ≠ (TJx5ef63 b).2.1 := by decide +kernel
theorem tyJx5ef63_ok : ∀ k, k < 0 → parseFieldDescriptor (TJx5ef63 k).2.2.1 = some (tyJx5ef63 k) := by decide +kernel
def RJxbd725 : String := "java/util/List"
def TJxbd725 : u_T := fun k => match k with
  | _ => ("", "", "", false)
def tyJxbd725 : Nat → FieldType := fun k => match k with
  | _ => .int
abbrev wsJxbd7250 : List Cond := u_ws RJxbd725 TJxbd725 0
theorem nmJxbd725 : ∀ a, a < 0 → ∀ b, b < 0 → a ≠ b → (TJxbd725 a).2.1 ≠ (TJxbd725 b).2.1 := by decide +kernel
theorem tyJxbd725_ok : ∀ k, k < 0 → parseFieldDescriptor (TJxbd725 k).2.2.1 = some (tyJxbd725 k) := by decide +kernel
def RJ15 : String := "java/util/Objects"
def TJ15 : u_T := fun k => match k with
  | _ => ("", "", "", false)
def tyJ15 : Nat → FieldType := fun k => match k with
  | _ => .int
abbrev wsJ150 : List Cond := u_ws RJ15 TJ15 0
theorem nmJ15 : ∀ a, a < 0 → ∀ b, b < 0 → a ≠ b → (TJ15 a).2.1 ≠ (TJ15 b).2.1 := by decide +kernel
theorem tyJ15_ok : ∀ k, k < 0 → parseFieldDescriptor (TJ15 k).2.2.1 = some (tyJ15 k) := by decide +kernel
abbrev cJ15_checkIndex_7cf53 : ByteArray := prog_32_method_17_code
def yJ15_checkIndex_7cf53 : MethodName := ⟨RJ15, "checkIndex", "(II)I"⟩
def RJxf0a74 : String := "java/util/RandomAccess"
def TJxf0a74 : u_T := fun k => match k with
  | _ => ("", "", "", false)
def tyJxf0a74 : Nat → FieldType := fun k => match k with
  | _ => .int
abbrev wsJxf0a740 : List Cond := u_ws RJxf0a74 TJxf0a74 0
theorem nmJxf0a74 : ∀ a, a < 0 → ∀ b, b < 0 → a ≠ b → (TJxf0a74 a).2.1 ≠ (TJxf0a74 b).2.1 := by decide +kernel
theorem tyJxf0a74_ok : ∀ k, k < 0 → parseFieldDescriptor (TJxf0a74 k).2.2.1 = some (tyJxf0a74 k) := by decide +kernel
def RJxa66e6 : String := "java/util/SequencedCollection"
def TJxa66e6 : u_T := fun k => match k with
  | _ => ("", "", "", false)
def tyJxa66e6 : Nat → FieldType := fun k => match k with
  | _ => .int
abbrev wsJxa66e60 : List Cond := u_ws RJxa66e6 TJxa66e6 0
theorem nmJxa66e6 : ∀ a, a < 0 → ∀ b, b < 0 → a ≠ b → (TJxa66e6 a).2.1 ≠ (TJxa66e6 b).2.1 := by decide +kernel
theorem tyJxa66e6_ok : ∀ k, k < 0 → parseFieldDescriptor (TJxa66e6 k).2.2.1 = some (tyJxa66e6 k) := by decide +kernel
def RJ8 : String := "jdk/internal/util/ArraysSupport"
def TJ8 : u_T := fun k => match k with
  | _ => ("", "", "", false)
def tyJ8 : Nat → FieldType := fun k => match k with
  | _ => .int
abbrev wsJ80 : List Cond := u_ws RJ8 TJ8 0
theorem nmJ8 : ∀ a, a < 0 → ∀ b, b < 0 → a ≠ b → (TJ8 a).2.1 ≠ (TJ8 b).2.1 := by decide +kernel
theorem tyJ8_ok : ∀ k, k < 0 → parseFieldDescriptor (TJ8 k).2.2.1 = some (tyJ8 k) := by decide +kernel
abbrev cJ8_newLength_cabcc : ByteArray := prog_35_method_27_code
def yJ8_newLength_cabcc : MethodName := ⟨RJ8, "newLength", "(III)I"⟩
abbrev cJ8_hugeLength_7cf53 : ByteArray := prog_35_method_28_code
def yJ8_hugeLength_7cf53 : MethodName := ⟨RJ8, "hugeLength", "(II)I"⟩
def RJ3 : String := "jdk/internal/util/Preconditions"
def TJ3 : u_T := fun k => match k with
  | _ => ("", "", "", false)
def tyJ3 : Nat → FieldType := fun k => match k with
  | _ => .int
abbrev wsJ30 : List Cond := u_ws RJ3 TJ3 0
theorem nmJ3 : ∀ a, a < 0 → ∀ b, b < 0 → a ≠ b → (TJ3 a).2.1 ≠ (TJ3 b).2.1 := by decide +kernel
theorem tyJ3_ok : ∀ k, k < 0 → parseFieldDescriptor (TJ3 k).2.2.1 = some (tyJ3 k) := by decide +kernel
abbrev cJ3_checkIndex_8e157 : ByteArray := prog_36_method_11_code
def yJ3_checkIndex_8e157 : MethodName := ⟨RJ3, "checkIndex", "(IILjava/util/function/BiFunction;)I"⟩
def RL : String := "LineTimesLaw"
abbrev cL_line : ByteArray := method_3_code
def yL_line : MethodName := ⟨RL, "line", "(LLineTimes;I[J)I"⟩
abbrev cL_stop : ByteArray := method_4_code
def yL_stop : MethodName := ⟨RL, "stop", "(LLineTimes;IIJJ[J)I"⟩
abbrev cL_exception : ByteArray := method_5_code
def yL_exception : MethodName := ⟨RL, "exception", "(LLineTimes;IJZ[J)I"⟩
abbrev cL_zone : ByteArray := method_6_code
def yL_zone : MethodName := ⟨RL, "zone", "(LLineTimes;IJI[J)I"⟩
abbrev cL_least : ByteArray := method_7_code
def yL_least : MethodName := ⟨RL, "least", "(LLineTimes;IJ[J)I"⟩
abbrev cL_change : ByteArray := method_8_code
def yL_change : MethodName := ⟨RL, "change", "(LLineTimes;IIJJ[J)I"⟩
abbrev cL_earliest : ByteArray := method_9_code
def yL_earliest : MethodName := ⟨RL, "earliest", "(LLineTimes;IIJ[J)I"⟩
abbrev cL_step : ByteArray := method_10_code
def yL_step : MethodName := ⟨RL, "step", "(LLineTimes;II[J)I"⟩
abbrev cL_days : ByteArray := method_11_code
def yL_days : MethodName := ⟨RL, "days", "(LLineTimes;II[J)I"⟩
abbrev cL_next : ByteArray := method_12_code
def yL_next : MethodName := ⟨RL, "next", "(LLineTimes;IIJI[J)I"⟩
abbrev cL_sign : ByteArray := method_13_code
def yL_sign : MethodName := ⟨RL, "sign", "(LLineTimes;I)I"⟩
abbrev cL_law : ByteArray := code
def yL_law : MethodName := ⟨RL, "law", "([I)Z"⟩
