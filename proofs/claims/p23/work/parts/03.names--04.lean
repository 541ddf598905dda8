section
def RX0 : String := "CountyWatch$Beats"
def TX0 : u_T := fun k => match k with
  | 0 => ("CountyWatch$Beats", "steps", "[I", true)
  | 1 => ("CountyWatch$Beats", "lengths", "[I", true)
  | 2 => ("CountyWatch$Beats", "meetings", "[I", true)
  | _ => ("CountyWatch$Beats", "beats", "I", false)
def tyX0 : Nat → FieldType := fun k => match k with
  | 0 => .array .int
  | 1 => .array .int
  | 2 => .array .int
  | _ => .int
theorem nmX0 : ∀ a, a < 4 → ∀ b, b < 4 → a ≠ b → (TX0 a).2.1 ≠ (TX0 b).2.1 := by decide +kernel
theorem tyX0_ok : ∀ k, k < 4 → parseFieldDescriptor (TX0 k).2.2.1 = some (tyX0 k) := by decide +kernel
def RX1 : String := "CountyWatch$Cases"
def TX1 : u_T := fun k => match k with
  | 0 => ("CountyWatch$Cases", "kind", "[I", true)
  | 1 => ("CountyWatch$Cases", "openedAt", "[I", true)
  | 2 => ("CountyWatch$Cases", "stories", "[I", true)
  | 3 => ("CountyWatch$Cases", "opened", "I", false)
  | 4 => ("CountyWatch$Cases", "needs", "[I", true)
  | 5 => ("CountyWatch$Cases", "wants", "[I", true)
  | 6 => ("CountyWatch$Cases", "statement", "[I", true)
  | 7 => ("CountyWatch$Cases", "statedAt", "[I", true)
  | 8 => ("CountyWatch$Cases", "statements", "I", false)
  | 9 => ("CountyWatch$Cases", "withdrawnAt", "[I", true)
  | 10 => ("CountyWatch$Cases", "storySo", "[I", true)
  | 11 => ("CountyWatch$Cases", "storyNot", "[I", true)
  | 12 => ("CountyWatch$Cases", "storyAt", "[I", true)
  | 13 => ("CountyWatch$Cases", "yesBits", "[I", true)
  | 14 => ("CountyWatch$Cases", "noBits", "[I", true)
  | _ => ("CountyWatch$Cases", "before", "[I", true)
def tyX1 : Nat → FieldType := fun k => match k with
  | 0 => .array .int
  | 1 => .array .int
  | 2 => .array .int
  | 3 => .int
  | 4 => .array .int
  | 5 => .array .int
  | 6 => .array .int
  | 7 => .array .int
  | 8 => .int
  | 9 => .array .int
  | 10 => .array .int
  | 11 => .array .int
  | 12 => .array .int
  | 13 => .array .int
  | 14 => .array .int
  | _ => .array .int
theorem nmX1 : ∀ a, a < 16 → ∀ b, b < 16 → a ≠ b → (TX1 a).2.1 ≠ (TX1 b).2.1 := by decide +kernel
theorem tyX1_ok : ∀ k, k < 16 → parseFieldDescriptor (TX1 k).2.2.1 = some (tyX1 k) := by decide +kernel
def RX2 : String := "CountyWatch$Constable"
def TX2 : u_T := fun k => match k with
  | 0 => ("CountyWatch$Constable", "number", "I", true)
  | 1 => ("CountyWatch$Constable", "rank", "I", true)
  | 2 => ("CountyWatch$Constable", "years", "I", true)
  | 3 => ("CountyWatch$Constable", "home", "I", true)
  | 4 => ("CountyWatch$Constable", "about", "I", false)
  | 5 => ("CountyWatch$Constable", "place", "I", false)
  | 6 => ("CountyWatch$Constable", "target", "I", false)
  | 7 => ("CountyWatch$Constable", "till", "I", false)
  | 8 => ("CountyWatch$Constable", "beat", "I", false)
  | 9 => ("CountyWatch$Constable", "step", "I", false)
  | 10 => ("CountyWatch$Constable", "begun", "I", false)
  | 11 => ("CountyWatch$Constable", "row", "I", false)
  | 12 => ("CountyWatch$Constable", "rowsEnd", "I", false)
  | 13 => ("CountyWatch$Constable", "drawnTo", "I", false)
  | 14 => ("CountyWatch$Constable", "drawnTill", "I", false)
  | 15 => ("CountyWatch$Constable", "met", "I", false)
  | _ => ("CountyWatch$Constable", "missed", "I", false)
def tyX2 : Nat → FieldType := fun k => match k with
  | 0 => .int
  | 1 => .int
  | 2 => .int
  | 3 => .int
  | 4 => .int
  | 5 => .int
  | 6 => .int
  | 7 => .int
  | 8 => .int
  | 9 => .int
  | 10 => .int
  | 11 => .int
  | 12 => .int
  | 13 => .int
  | 14 => .int
  | 15 => .int
  | _ => .int
theorem nmX2 : ∀ a, a < 17 → ∀ b, b < 17 → a ≠ b → (TX2 a).2.1 ≠ (TX2 b).2.1 := by decide +kernel
theorem tyX2_ok : ∀ k, k < 17 → parseFieldDescriptor (TX2 k).2.2.1 = some (tyX2 k) := by decide +kernel
def RX3 : String := "CountyWatch$Goods"
def TX3 : u_T := fun k => match k with
  | 0 => ("CountyWatch$Goods", "lost", "[I", true)
  | 1 => ("CountyWatch$Goods", "found", "[I", true)
  | 2 => ("CountyWatch$Goods", "lostGoods", "I", false)
  | 3 => ("CountyWatch$Goods", "foundGoods", "I", false)
  | 4 => ("CountyWatch$Goods", "leastMarks", "I", false)
  | 5 => ("CountyWatch$Goods", "stale", "Z", false)
  | 6 => ("CountyWatch$Goods", "gain", "[I", true)
  | 7 => ("CountyWatch$Goods", "best", "[I", true)
  | 8 => ("CountyWatch$Goods", "reached", "[Z", true)
  | 9 => ("CountyWatch$Goods", "choices", "[I", true)
  | _ => ("CountyWatch$Goods", "first", "[I", true)
def tyX3 : Nat → FieldType := fun k => match k with
  | 0 => .array .int
  | 1 => .array .int
  | 2 => .int
  | 3 => .int
  | 4 => .int
  | 5 => .boolean
  | 6 => .array .int
  | 7 => .array .int
  | 8 => .array .boolean
  | 9 => .array .int
  | _ => .array .int
theorem nmX3 : ∀ a, a < 11 → ∀ b, b < 11 → a ≠ b → (TX3 a).2.1 ≠ (TX3 b).2.1 := by decide +kernel
theorem tyX3_ok : ∀ k, k < 11 → parseFieldDescriptor (TX3 k).2.2.1 = some (tyX3 k) := by decide +kernel
def RX4 : String := "CountyWatch$Looks"
def TX4 : u_T := fun k => match k with
  | 0 => ("CountyWatch$Looks", "kind", "[I", true)
  | 1 => ("CountyWatch$Looks", "place", "[I", true)
  | 2 => ("CountyWatch$Looks", "from", "[I", true)
  | 3 => ("CountyWatch$Looks", "to", "[I", true)
  | 4 => ("CountyWatch$Looks", "weight", "[I", true)
  | 5 => ("CountyWatch$Looks", "seen", "[I", true)
  | 6 => ("CountyWatch$Looks", "taken", "[Z", true)
  | 7 => ("CountyWatch$Looks", "finds", "I", false)
  | 8 => ("CountyWatch$Looks", "takenFinds", "I", false)
  | 9 => ("CountyWatch$Looks", "man", "[I", true)
  | 10 => ("CountyWatch$Looks", "find", "[I", true)
  | 11 => ("CountyWatch$Looks", "minute", "[I", true)
  | 12 => ("CountyWatch$Looks", "done", "[I", true)
  | 13 => ("CountyWatch$Looks", "opened", "[I", true)
  | 14 => ("CountyWatch$Looks", "known", "[I", true)
  | 15 => ("CountyWatch$Looks", "letters", "[I", true)
  | _ => ("CountyWatch$Looks", "sightings", "I", false)
def tyX4 : Nat → FieldType := fun k => match k with
  | 0 => .array .int
  | 1 => .array .int
  | 2 => .array .int
  | 3 => .array .int
  | 4 => .array .int
  | 5 => .array .int
  | 6 => .array .boolean
  | 7 => .int
  | 8 => .int
  | 9 => .array .int
  | 10 => .array .int
  | 11 => .array .int
  | 12 => .array .int
  | 13 => .array .int
  | 14 => .array .int
  | 15 => .array .int
  | _ => .int
theorem nmX4 : ∀ a, a < 17 → ∀ b, b < 17 → a ≠ b → (TX4 a).2.1 ≠ (TX4 b).2.1 := by decide +kernel
theorem tyX4_ok : ∀ k, k < 17 → parseFieldDescriptor (TX4 k).2.2.1 = some (tyX4 k) := by decide +kernel
def RX5 : String := "CountyWatch$Payroll"
def TX5 : u_T := fun k => match k with
  | 0 => ("CountyWatch$Payroll", "rankMan", "[I", true)
  | 1 => ("CountyWatch$Payroll", "rankTo", "[I", true)
  | 2 => ("CountyWatch$Payroll", "rankDay", "[I", true)
  | 3 => ("CountyWatch$Payroll", "rankTold", "[I", true)
  | 4 => ("CountyWatch$Payroll", "ranks", "I", false)
  | 5 => ("CountyWatch$Payroll", "letters", "[I", true)
  | 6 => ("CountyWatch$Payroll", "wages", "[I", true)
  | 7 => ("CountyWatch$Payroll", "booked", "[I", true)
  | 8 => ("CountyWatch$Payroll", "lineMan", "[I", true)
  | 9 => ("CountyWatch$Payroll", "lineDay", "[I", true)
  | 10 => ("CountyWatch$Payroll", "lineCoins", "[I", true)
  | 11 => ("CountyWatch$Payroll", "lineMinute", "[I", true)
  | 12 => ("CountyWatch$Payroll", "lines", "I", false)
  | 13 => ("CountyWatch$Payroll", "coins", "I", false)
  | 14 => ("CountyWatch$Payroll", "marks", "[I", true)
  | _ => ("CountyWatch$Payroll", "enough", "I", false)
def tyX5 : Nat → FieldType := fun k => match k with
  | 0 => .array .int
  | 1 => .array .int
  | 2 => .array .int
  | 3 => .array .int
  | 4 => .int
  | 5 => .array .int
  | 6 => .array .int
  | 7 => .array .int
  | 8 => .array .int
  | 9 => .array .int
  | 10 => .array .int
  | 11 => .array .int
  | 12 => .int
  | 13 => .int
  | 14 => .array .int
  | _ => .int
theorem nmX5 : ∀ a, a < 16 → ∀ b, b < 16 → a ≠ b → (TX5 a).2.1 ≠ (TX5 b).2.1 := by decide +kernel
theorem tyX5_ok : ∀ k, k < 16 → parseFieldDescriptor (TX5 k).2.2.1 = some (tyX5 k) := by decide +kernel
def RX6 : String := "CountyWatch$Plans"
def TX6 : u_T := fun k => match k with
  | 0 => ("CountyWatch$Plans", "watchPlace", "[I", true)
  | 1 => ("CountyWatch$Plans", "watchFrom", "[I", true)
  | 2 => ("CountyWatch$Plans", "watchTo", "[I", true)
  | 3 => ("CountyWatch$Plans", "watches", "I", false)
  | 4 => ("CountyWatch$Plans", "sight", "[J", true)
  | 5 => ("CountyWatch$Plans", "trial", "[I", true)
  | 6 => ("CountyWatch$Plans", "shares", "[I", true)
  | 7 => ("CountyWatch$Plans", "sharing", "I", false)
  | 8 => ("CountyWatch$Plans", "bestSafe", "I", false)
  | 9 => ("CountyWatch$Plans", "bestSum", "I", false)
  | 10 => ("CountyWatch$Plans", "sharedBeats", "I", false)
  | 11 => ("CountyWatch$Plans", "sharedPaths", "I", false)
  | 12 => ("CountyWatch$Plans", "sharedWatches", "I", false)
  | 13 => ("CountyWatch$Plans", "fairPlace", "[I", true)
  | 14 => ("CountyWatch$Plans", "fairMinute", "[I", true)
  | 15 => ("CountyWatch$Plans", "fairWanted", "[I", true)
  | 16 => ("CountyWatch$Plans", "fairs", "I", false)
  | 17 => ("CountyWatch$Plans", "prices", "[I", true)
  | 18 => ("CountyWatch$Plans", "costs", "[I", true)
  | _ => ("CountyWatch$Plans", "lentTo", "[I", true)
def tyX6 : Nat → FieldType := fun k => match k with
  | 0 => .array .int
  | 1 => .array .int
  | 2 => .array .int
  | 3 => .int
  | 4 => .array .long
  | 5 => .array .int
  | 6 => .array .int
  | 7 => .int
  | 8 => .int
  | 9 => .int
  | 10 => .int
  | 11 => .int
  | 12 => .int
  | 13 => .array .int
  | 14 => .array .int
  | 15 => .array .int
  | 16 => .int
  | 17 => .array .int
  | 18 => .array .int
  | _ => .array .int
theorem nmX6 : ∀ a, a < 20 → ∀ b, b < 20 → a ≠ b → (TX6 a).2.1 ≠ (TX6 b).2.1 := by decide +kernel
theorem tyX6_ok : ∀ k, k < 20 → parseFieldDescriptor (TX6 k).2.2.1 = some (tyX6 k) := by decide +kernel
def RX7 : String := "CountyWatch$Points"
def TX7 : u_T := fun k => match k with
  | 0 => ("CountyWatch$Points", "man", "[I", true)
  | 1 => ("CountyWatch$Points", "place", "[I", true)
  | 2 => ("CountyWatch$Points", "due", "[I", true)
  | 3 => ("CountyWatch$Points", "begun", "[I", true)
  | 4 => ("CountyWatch$Points", "outcome", "[I", true)
  | 5 => ("CountyWatch$Points", "settled", "[I", true)
  | 6 => ("CountyWatch$Points", "firstCause", "[I", true)
  | 7 => ("CountyWatch$Points", "rows", "I", false)
  | 8 => ("CountyWatch$Points", "toldRow", "[I", true)
  | 9 => ("CountyWatch$Points", "toldCause", "[I", true)
  | 10 => ("CountyWatch$Points", "toldAt", "[I", true)
  | _ => ("CountyWatch$Points", "tellings", "I", false)
def tyX7 : Nat → FieldType := fun k => match k with
  | 0 => .array .int
  | 1 => .array .int
  | 2 => .array .int
  | 3 => .array .int
  | 4 => .array .int
  | 5 => .array .int
  | 6 => .array .int
  | 7 => .int
  | 8 => .array .int
  | 9 => .array .int
  | 10 => .array .int
  | _ => .int
theorem nmX7 : ∀ a, a < 12 → ∀ b, b < 12 → a ≠ b → (TX7 a).2.1 ≠ (TX7 b).2.1 := by decide +kernel
theorem tyX7_ok : ∀ k, k < 12 → parseFieldDescriptor (TX7 k).2.2.1 = some (tyX7 k) := by decide +kernel
def RX8 : String := "CountyWatch$Reader"
def TX8 : u_T := fun k => match k with
  | 0 => ("CountyWatch$Reader", "bytes", "[I", true)
  | 1 => ("CountyWatch$Reader", "length", "I", false)
  | 2 => ("CountyWatch$Reader", "at", "I", false)
  | 3 => ("CountyWatch$Reader", "fault", "I", false)
  | 4 => ("CountyWatch$Reader", "letters", "Ljava/lang/String;", false)
  | 5 => ("CountyWatch$Reader", "steps", "[I", true)
  | 6 => ("CountyWatch$Reader", "stepCount", "I", false)
  | 7 => ("CountyWatch$Reader", "tooLong", "Z", false)
  | 8 => ("CountyWatch$Reader", "code", "[I", true)
  | _ => ("CountyWatch$Reader", "codeLength", "I", false)
def tyX8 : Nat → FieldType := fun k => match k with
  | 0 => .array .int
  | 1 => .int
  | 2 => .int
  | 3 => .int
  | 4 => .object "java/lang/String"
  | 5 => .array .int
  | 6 => .int
  | 7 => .boolean
  | 8 => .array .int
  | _ => .int
theorem nmX8 : ∀ a, a < 10 → ∀ b, b < 10 → a ≠ b → (TX8 a).2.1 ≠ (TX8 b).2.1 := by decide +kernel
theorem tyX8_ok : ∀ k, k < 10 → parseFieldDescriptor (TX8 k).2.2.1 = some (tyX8 k) := by decide +kernel
def RX9 : String := "CountyWatch$Roads"
def TX9 : u_T := fun k => match k with
  | 0 => ("CountyWatch$Roads", "walks", "[I", true)
  | _ => ("CountyWatch$Roads", "paths", "I", false)
def tyX9 : Nat → FieldType := fun k => match k with
  | 0 => .array .int
  | _ => .int
theorem nmX9 : ∀ a, a < 2 → ∀ b, b < 2 → a ≠ b → (TX9 a).2.1 ≠ (TX9 b).2.1 := by decide +kernel
theorem tyX9_ok : ∀ k, k < 2 → parseFieldDescriptor (TX9 k).2.2.1 = some (tyX9 k) := by decide +kernel
def RX10 : String := "CountyWatch$Rules"
def TX10 : u_T := fun k => match k with
  | 0 => ("CountyWatch$Rules", "days", "[I", true)
  | 1 => ("CountyWatch$Rules", "told", "[I", true)
  | 2 => ("CountyWatch$Rules", "lengths", "[I", true)
  | 3 => ("CountyWatch$Rules", "codes", "[I", true)
  | 4 => ("CountyWatch$Rules", "stack", "[I", true)
  | _ => ("CountyWatch$Rules", "rules", "I", false)
def tyX10 : Nat → FieldType := fun k => match k with
  | 0 => .array .int
  | 1 => .array .int
  | 2 => .array .int
  | 3 => .array .int
  | 4 => .array .int
  | _ => .int
theorem nmX10 : ∀ a, a < 6 → ∀ b, b < 6 → a ≠ b → (TX10 a).2.1 ≠ (TX10 b).2.1 := by decide +kernel
theorem tyX10_ok : ∀ k, k < 6 → parseFieldDescriptor (TX10 k).2.2.1 = some (tyX10 k) := by decide +kernel
def RX11 : String := "CountyWatch"
def TX11 : u_T := fun k => match k with
  | 0 => ("CountyWatch", "now", "I", false)
  | 1 => ("CountyWatch", "roads", "LCountyWatch$Roads;", true)
  | 2 => ("CountyWatch", "reader", "LCountyWatch$Reader;", true)
  | 3 => ("CountyWatch", "beats", "LCountyWatch$Beats;", true)
  | 4 => ("CountyWatch", "acts", "LCountyWatch$Rules;", true)
  | 5 => ("CountyWatch", "pays", "LCountyWatch$Rules;", true)
  | 6 => ("CountyWatch", "men", "[LCountyWatch$Constable;", true)
  | 7 => ("CountyWatch", "manCount", "I", false)
  | 8 => ("CountyWatch", "points", "LCountyWatch$Points;", true)
  | 9 => ("CountyWatch", "looks", "LCountyWatch$Looks;", true)
  | 10 => ("CountyWatch", "cases", "LCountyWatch$Cases;", true)
  | 11 => ("CountyWatch", "goods", "LCountyWatch$Goods;", true)
  | 12 => ("CountyWatch", "plans", "LCountyWatch$Plans;", true)
  | 13 => ("CountyWatch", "payroll", "LCountyWatch$Payroll;", true)
  | 14 => ("CountyWatch", "here", "J", false)
  | _ => ("CountyWatch", "history", "[J", false)
def tyX11 : Nat → FieldType := fun k => match k with
  | 0 => .int
  | 1 => .object "CountyWatch$Roads"
  | 2 => .object "CountyWatch$Reader"
  | 3 => .object "CountyWatch$Beats"
  | 4 => .object "CountyWatch$Rules"
  | 5 => .object "CountyWatch$Rules"
  | 6 => .array (.object "CountyWatch$Constable")
  | 7 => .int
  | 8 => .object "CountyWatch$Points"
  | 9 => .object "CountyWatch$Looks"
  | 10 => .object "CountyWatch$Cases"
  | 11 => .object "CountyWatch$Goods"
  | 12 => .object "CountyWatch$Plans"
  | 13 => .object "CountyWatch$Payroll"
  | 14 => .long
  | _ => .array .long
theorem nmX11 : ∀ a, a < 16 → ∀ b, b < 16 → a ≠ b → (TX11 a).2.1 ≠ (TX11 b).2.1 := by decide +kernel
theorem tyX11_ok : ∀ k, k < 16 → parseFieldDescriptor (TX11 k).2.2.1 = some (tyX11 k) := by decide +kernel
def RX12 : String := "CountyWatchModel"
def TX12 : u_T := fun k => match k with
  | 0 => ("CountyWatchModel", "now", "I", false)
  | 1 => ("CountyWatchModel", "thrown", "I", false)
  | 2 => ("CountyWatchModel", "pathOne", "[I", true)
  | 3 => ("CountyWatchModel", "pathOther", "[I", true)
  | 4 => ("CountyWatchModel", "pathLong", "[I", true)
  | 5 => ("CountyWatchModel", "far", "[I", true)
  | 6 => ("CountyWatchModel", "paths", "I", false)
  | 7 => ("CountyWatchModel", "men", "I", false)
  | 8 => ("CountyWatchModel", "rankFirst", "[I", true)
  | 9 => ("CountyWatchModel", "years", "[I", true)
  | 10 => ("CountyWatchModel", "home", "[I", true)
  | 11 => ("CountyWatchModel", "toldAt", "[I", true)
  | 12 => ("CountyWatchModel", "doing", "[I", true)
  | 13 => ("CountyWatchModel", "place", "[I", true)
  | 14 => ("CountyWatchModel", "goal", "[I", true)
  | 15 => ("CountyWatchModel", "till", "[I", true)
  | 16 => ("CountyWatchModel", "beatOf", "[I", true)
  | 17 => ("CountyWatchModel", "stepOf", "[I", true)
  | 18 => ("CountyWatchModel", "began", "[I", true)
  | 19 => ("CountyWatchModel", "rowOf", "[I", true)
  | 20 => ("CountyWatchModel", "rowNext", "[I", true)
  | 21 => ("CountyWatchModel", "rowEnd", "[I", true)
  | 22 => ("CountyWatchModel", "drawnTo", "[I", true)
  | 23 => ("CountyWatchModel", "drawnTill", "[I", true)
  | 24 => ("CountyWatchModel", "history", "[B", true)
  | 25 => ("CountyWatchModel", "classOf", "[I", true)
  | 26 => ("CountyWatchModel", "classTo", "[I", true)
  | 27 => ("CountyWatchModel", "classDay", "[I", true)
  | 28 => ("CountyWatchModel", "classTold", "[I", true)
  | 29 => ("CountyWatchModel", "classes", "I", false)
  | 30 => ("CountyWatchModel", "tape", "[I", true)
  | 31 => ("CountyWatchModel", "saying", "[I", true)
  | 32 => ("CountyWatchModel", "size", "I", false)
  | 33 => ("CountyWatchModel", "at", "I", false)
  | 34 => ("CountyWatchModel", "wrong", "I", false)
  | 35 => ("CountyWatchModel", "deep", "I", false)
  | 36 => ("CountyWatchModel", "said", "I", false)
  | 37 => ("CountyWatchModel", "sort", "I", false)
  | 38 => ("CountyWatchModel", "beatSize", "[I", true)
  | 39 => ("CountyWatchModel", "stepWhat", "[I", true)
  | 40 => ("CountyWatchModel", "stepA", "[I", true)
  | 41 => ("CountyWatchModel", "stepB", "[I", true)
  | 42 => ("CountyWatchModel", "beats", "I", false)
  | 43 => ("CountyWatchModel", "unfolded", "I", false)
  | 44 => ("CountyWatchModel", "next", "I", false)
  | 45 => ("CountyWatchModel", "codes", "[I", true)
  | 46 => ("CountyWatchModel", "textSize", "[I", true)
  | 47 => ("CountyWatchModel", "textDay", "[I", true)
  | 48 => ("CountyWatchModel", "textTold", "[I", true)
  | 49 => ("CountyWatchModel", "texts", "[I", true)
  | 50 => ("CountyWatchModel", "letters", "[I", true)
  | 51 => ("CountyWatchModel", "pile", "[I", true)
  | 52 => ("CountyWatchModel", "reading", "I", false)
  | 53 => ("CountyWatchModel", "rowMan", "[I", true)
  | 54 => ("CountyWatchModel", "rowPlace", "[I", true)
  | 55 => ("CountyWatchModel", "rowDue", "[I", true)
  | 56 => ("CountyWatchModel", "rowMet", "[I", true)
  | 57 => ("CountyWatchModel", "rowMissed", "[I", true)
  | 58 => ("CountyWatchModel", "rowCause", "[I", true)
  | 59 => ("CountyWatchModel", "rowBegan", "[I", true)
  | 60 => ("CountyWatchModel", "causeRow", "[I", true)
  | 61 => ("CountyWatchModel", "causeTo", "[I", true)
  | 62 => ("CountyWatchModel", "causeTold", "[I", true)
  | 63 => ("CountyWatchModel", "rows", "I", false)
  | 64 => ("CountyWatchModel", "causings", "I", false)
  | 65 => ("CountyWatchModel", "arrives", "[Z", true)
  | 66 => ("CountyWatchModel", "findKind", "[I", true)
  | 67 => ("CountyWatchModel", "findPlace", "[I", true)
  | 68 => ("CountyWatchModel", "findFrom", "[I", true)
  | 69 => ("CountyWatchModel", "findTo", "[I", true)
  | 70 => ("CountyWatchModel", "findWeight", "[I", true)
  | 71 => ("CountyWatchModel", "taken", "[Z", true)
  | 72 => ("CountyWatchModel", "seenBy", "[I", true)
  | 73 => ("CountyWatchModel", "seenWhat", "[I", true)
  | 74 => ("CountyWatchModel", "seenAt", "[I", true)
  | 75 => ("CountyWatchModel", "done", "[I", true)
  | 76 => ("CountyWatchModel", "caseFor", "[I", true)
  | 77 => ("CountyWatchModel", "known", "[I", true)
  | 78 => ("CountyWatchModel", "seenLetters", "[I", true)
  | 79 => ("CountyWatchModel", "finds", "I", false)
  | 80 => ("CountyWatchModel", "sightings", "I", false)
  | 81 => ("CountyWatchModel", "caseKind", "[I", true)
  | 82 => ("CountyWatchModel", "caseAt", "[I", true)
  | 83 => ("CountyWatchModel", "needs", "[I", true)
  | 84 => ("CountyWatchModel", "wants", "[I", true)
  | 85 => ("CountyWatchModel", "sayCase", "[I", true)
  | 86 => ("CountyWatchModel", "sayFact", "[I", true)
  | 87 => ("CountyWatchModel", "sayBy", "[I", true)
  | 88 => ("CountyWatchModel", "sayTold", "[I", true)
  | 89 => ("CountyWatchModel", "sayYes", "[Z", true)
  | 90 => ("CountyWatchModel", "gone", "[I", true)
  | 91 => ("CountyWatchModel", "isGone", "[Z", true)
  | 92 => ("CountyWatchModel", "storySo", "[I", true)
  | 93 => ("CountyWatchModel", "storyNot", "[I", true)
  | 94 => ("CountyWatchModel", "storyTold", "[I", true)
  | 95 => ("CountyWatchModel", "stories", "[I", true)
  | 96 => ("CountyWatchModel", "cases", "I", false)
  | 97 => ("CountyWatchModel", "statements", "I", false)
  | 98 => ("CountyWatchModel", "had", "[I", true)
  | 99 => ("CountyWatchModel", "lostMarks", "[I", true)
  | 100 => ("CountyWatchModel", "foundMarks", "[I", true)
  | 101 => ("CountyWatchModel", "lostMany", "I", false)
  | 102 => ("CountyWatchModel", "foundMany", "I", false)
  | 103 => ("CountyWatchModel", "leastLike", "I", false)
  | 104 => ("CountyWatchModel", "most", "[I", true)
  | 105 => ("CountyWatchModel", "watchPlace", "[I", true)
  | 106 => ("CountyWatchModel", "watchFrom", "[I", true)
  | 107 => ("CountyWatchModel", "watchTo", "[I", true)
  | 108 => ("CountyWatchModel", "watches", "I", false)
  | 109 => ("CountyWatchModel", "chosen", "[I", true)
  | 110 => ("CountyWatchModel", "parts", "[I", true)
  | 111 => ("CountyWatchModel", "bestParts", "[I", true)
  | 112 => ("CountyWatchModel", "seenBits", "[I", true)
  | 113 => ("CountyWatchModel", "chosenMany", "I", false)
  | 114 => ("CountyWatchModel", "bestSafe", "I", false)
  | 115 => ("CountyWatchModel", "bestSum", "I", false)
  | 116 => ("CountyWatchModel", "fairPlace", "[I", true)
  | 117 => ("CountyWatchModel", "fairAt", "[I", true)
  | 118 => ("CountyWatchModel", "fairWants", "[I", true)
  | 119 => ("CountyWatchModel", "fairMany", "I", false)
  | 120 => ("CountyWatchModel", "least1", "[I", true)
  | 121 => ("CountyWatchModel", "costs", "[I", true)
  | 122 => ("CountyWatchModel", "booked", "[I", true)
  | 123 => ("CountyWatchModel", "lineMan", "[I", true)
  | 124 => ("CountyWatchModel", "lineDay", "[I", true)
  | 125 => ("CountyWatchModel", "lineCoins", "[I", true)
  | 126 => ("CountyWatchModel", "lineAt", "[I", true)
  | 127 => ("CountyWatchModel", "lines", "I", false)
  | 128 => ("CountyWatchModel", "marks", "[I", true)
  | 129 => ("CountyWatchModel", "marked", "[Z", true)
  | _ => ("CountyWatchModel", "least3", "I", false)
def tyX12 : Nat → FieldType := fun k => match k with
  | 0 => .int
  | 1 => .int
  | 2 => .array .int
  | 3 => .array .int
  | 4 => .array .int
  | 5 => .array .int
  | 6 => .int
  | 7 => .int
  | 8 => .array .int
  | 9 => .array .int
  | 10 => .array .int
  | 11 => .array .int
  | 12 => .array .int
  | 13 => .array .int
  | 14 => .array .int
  | 15 => .array .int
  | 16 => .array .int
  | 17 => .array .int
  | 18 => .array .int
  | 19 => .array .int
  | 20 => .array .int
  | 21 => .array .int
  | 22 => .array .int
  | 23 => .array .int
  | 24 => .array .byte
  | 25 => .array .int
  | 26 => .array .int
  | 27 => .array .int
  | 28 => .array .int
  | 29 => .int
  | 30 => .array .int
  | 31 => .array .int
  | 32 => .int
  | 33 => .int
  | 34 => .int
  | 35 => .int
  | 36 => .int
  | 37 => .int
  | 38 => .array .int
  | 39 => .array .int
  | 40 => .array .int
  | 41 => .array .int
  | 42 => .int
  | 43 => .int
  | 44 => .int
  | 45 => .array .int
  | 46 => .array .int
  | 47 => .array .int
  | 48 => .array .int
  | 49 => .array .int
  | 50 => .array .int
  | 51 => .array .int
  | 52 => .int
  | 53 => .array .int
  | 54 => .array .int
  | 55 => .array .int
  | 56 => .array .int
  | 57 => .array .int
  | 58 => .array .int
  | 59 => .array .int
  | 60 => .array .int
  | 61 => .array .int
  | 62 => .array .int
  | 63 => .int
  | 64 => .int
  | 65 => .array .boolean
  | 66 => .array .int
  | 67 => .array .int
  | 68 => .array .int
  | 69 => .array .int
  | 70 => .array .int
  | 71 => .array .boolean
  | 72 => .array .int
  | 73 => .array .int
  | 74 => .array .int
  | 75 => .array .int
  | 76 => .array .int
  | 77 => .array .int
  | 78 => .array .int
  | 79 => .int
  | 80 => .int
  | 81 => .array .int
  | 82 => .array .int
  | 83 => .array .int
  | 84 => .array .int
  | 85 => .array .int
  | 86 => .array .int
  | 87 => .array .int
  | 88 => .array .int
  | 89 => .array .boolean
  | 90 => .array .int
  | 91 => .array .boolean
  | 92 => .array .int
  | 93 => .array .int
  | 94 => .array .int
  | 95 => .array .int
  | 96 => .int
  | 97 => .int
  | 98 => .array .int
  | 99 => .array .int
  | 100 => .array .int
  | 101 => .int
  | 102 => .int
  | 103 => .int
  | 104 => .array .int
  | 105 => .array .int
  | 106 => .array .int
  | 107 => .array .int
  | 108 => .int
  | 109 => .array .int
  | 110 => .array .int
  | 111 => .array .int
  | 112 => .array .int
  | 113 => .int
  | 114 => .int
  | 115 => .int
  | 116 => .array .int
  | 117 => .array .int
  | 118 => .array .int
  | 119 => .int
  | 120 => .array .int
  | 121 => .array .int
  | 122 => .array .int
  | 123 => .array .int
  | 124 => .array .int
  | 125 => .array .int
  | 126 => .array .int
  | 127 => .int
  | 128 => .array .int
  | 129 => .array .boolean
  | _ => .int
theorem nmX12 : ∀ a, a < 131 → ∀ b, b < 131 → a ≠ b → (TX12 a).2.1 ≠ (TX12 b).2.1 := by decide +kernel
theorem tyX12_ok : ∀ k, k < 131 → parseFieldDescriptor (TX12 k).2.2.1 = some (tyX12 k) := by decide +kernel
theorem tw_109 : (Jvm.Cond.laysFinal "CountyWatch$Beats" "CountyWatch$Beats" "steps" "[I") ∈ lw_g := lw_c1 109 (by decide +kernel) (by decide +kernel)
theorem tw_111 : (Jvm.Cond.laysFinal "CountyWatch$Beats" "CountyWatch$Beats" "lengths" "[I") ∈ lw_g := lw_c1 111 (by decide +kernel) (by decide +kernel)
theorem tw_113 : (Jvm.Cond.laysFinal "CountyWatch$Beats" "CountyWatch$Beats" "meetings" "[I") ∈ lw_g := lw_c1 113 (by decide +kernel) (by decide +kernel)
theorem tw_115 : (Jvm.Cond.lays "CountyWatch$Beats" "CountyWatch$Beats" "beats" "I") ∈ lw_g := lw_c1 115 (by decide +kernel) (by decide +kernel)
set_option maxRecDepth 100000 in
theorem eX0 : u_ws RX0 TX0 4 = [(Jvm.Cond.laysFinal "CountyWatch$Beats" "CountyWatch$Beats" "steps" "[I"), (Jvm.Cond.laysFinal "CountyWatch$Beats" "CountyWatch$Beats" "lengths" "[I"), (Jvm.Cond.laysFinal "CountyWatch$Beats" "CountyWatch$Beats" "meetings" "[I"), (Jvm.Cond.lays "CountyWatch$Beats" "CountyWatch$Beats" "beats" "I")] := by decide +kernel
theorem iX0 : ∀ w ∈ u_ws RX0 TX0 4, w ∈ lw_g := by
  rw [eX0]
  exact List.forall_mem_cons.mpr ⟨tw_109, List.forall_mem_cons.mpr ⟨tw_111, List.forall_mem_cons.mpr ⟨tw_113, List.forall_mem_cons.mpr ⟨tw_115, fun _ h => absurd h List.not_mem_nil⟩⟩⟩⟩
theorem tw_282 : (Jvm.Cond.laysFinal "CountyWatch$Cases" "CountyWatch$Cases" "kind" "[I") ∈ lw_g := lw_c2 42 (by decide +kernel) (by decide +kernel)
theorem tw_284 : (Jvm.Cond.laysFinal "CountyWatch$Cases" "CountyWatch$Cases" "openedAt" "[I") ∈ lw_g := lw_c2 44 (by decide +kernel) (by decide +kernel)
theorem tw_286 : (Jvm.Cond.laysFinal "CountyWatch$Cases" "CountyWatch$Cases" "stories" "[I") ∈ lw_g := lw_c2 46 (by decide +kernel) (by decide +kernel)
theorem tw_288 : (Jvm.Cond.lays "CountyWatch$Cases" "CountyWatch$Cases" "opened" "I") ∈ lw_g := lw_c2 48 (by decide +kernel) (by decide +kernel)
theorem tw_290 : (Jvm.Cond.laysFinal "CountyWatch$Cases" "CountyWatch$Cases" "needs" "[I") ∈ lw_g := lw_c2 50 (by decide +kernel) (by decide +kernel)
theorem tw_292 : (Jvm.Cond.laysFinal "CountyWatch$Cases" "CountyWatch$Cases" "wants" "[I") ∈ lw_g := lw_c2 52 (by decide +kernel) (by decide +kernel)
theorem tw_294 : (Jvm.Cond.laysFinal "CountyWatch$Cases" "CountyWatch$Cases" "statement" "[I") ∈ lw_g := lw_c2 54 (by decide +kernel) (by decide +kernel)
theorem tw_296 : (Jvm.Cond.laysFinal "CountyWatch$Cases" "CountyWatch$Cases" "statedAt" "[I") ∈ lw_g := lw_c2 56 (by decide +kernel) (by decide +kernel)
theorem tw_298 : (Jvm.Cond.lays "CountyWatch$Cases" "CountyWatch$Cases" "statements" "I") ∈ lw_g := lw_c2 58 (by decide +kernel) (by decide +kernel)
theorem tw_300 : (Jvm.Cond.laysFinal "CountyWatch$Cases" "CountyWatch$Cases" "withdrawnAt" "[I") ∈ lw_g := lw_c2 60 (by decide +kernel) (by decide +kernel)
theorem tw_302 : (Jvm.Cond.laysFinal "CountyWatch$Cases" "CountyWatch$Cases" "storySo" "[I") ∈ lw_g := lw_c2 62 (by decide +kernel) (by decide +kernel)
theorem tw_304 : (Jvm.Cond.laysFinal "CountyWatch$Cases" "CountyWatch$Cases" "storyNot" "[I") ∈ lw_g := lw_c2 64 (by decide +kernel) (by decide +kernel)
theorem tw_306 : (Jvm.Cond.laysFinal "CountyWatch$Cases" "CountyWatch$Cases" "storyAt" "[I") ∈ lw_g := lw_c2 66 (by decide +kernel) (by decide +kernel)
theorem tw_308 : (Jvm.Cond.laysFinal "CountyWatch$Cases" "CountyWatch$Cases" "yesBits" "[I") ∈ lw_g := lw_c2 68 (by decide +kernel) (by decide +kernel)
theorem tw_310 : (Jvm.Cond.laysFinal "CountyWatch$Cases" "CountyWatch$Cases" "noBits" "[I") ∈ lw_g := lw_c2 70 (by decide +kernel) (by decide +kernel)
theorem tw_312 : (Jvm.Cond.laysFinal "CountyWatch$Cases" "CountyWatch$Cases" "before" "[I") ∈ lw_g := lw_c2 72 (by decide +kernel) (by decide +kernel)
set_option maxRecDepth 100000 in
theorem eX1 : u_ws RX1 TX1 16 = [(Jvm.Cond.laysFinal "CountyWatch$Cases" "CountyWatch$Cases" "kind" "[I"), (Jvm.Cond.laysFinal "CountyWatch$Cases" "CountyWatch$Cases" "openedAt" "[I"), (Jvm.Cond.laysFinal "CountyWatch$Cases" "CountyWatch$Cases" "stories" "[I"), (Jvm.Cond.lays "CountyWatch$Cases" "CountyWatch$Cases" "opened" "I"), (Jvm.Cond.laysFinal "CountyWatch$Cases" "CountyWatch$Cases" "needs" "[I"), (Jvm.Cond.laysFinal "CountyWatch$Cases" "CountyWatch$Cases" "wants" "[I"), (Jvm.Cond.laysFinal "CountyWatch$Cases" "CountyWatch$Cases" "statement" "[I"), (Jvm.Cond.laysFinal "CountyWatch$Cases" "CountyWatch$Cases" "statedAt" "[I"), (Jvm.Cond.lays "CountyWatch$Cases" "CountyWatch$Cases" "statements" "I"), (Jvm.Cond.laysFinal "CountyWatch$Cases" "CountyWatch$Cases" "withdrawnAt" "[I"), (Jvm.Cond.laysFinal "CountyWatch$Cases" "CountyWatch$Cases" "storySo" "[I"), (Jvm.Cond.laysFinal "CountyWatch$Cases" "CountyWatch$Cases" "storyNot" "[I"), (Jvm.Cond.laysFinal "CountyWatch$Cases" "CountyWatch$Cases" "storyAt" "[I"), (Jvm.Cond.laysFinal "CountyWatch$Cases" "CountyWatch$Cases" "yesBits" "[I"), (Jvm.Cond.laysFinal "CountyWatch$Cases" "CountyWatch$Cases" "noBits" "[I"), (Jvm.Cond.laysFinal "CountyWatch$Cases" "CountyWatch$Cases" "before" "[I")] := by decide +kernel
theorem iX1 : ∀ w ∈ u_ws RX1 TX1 16, w ∈ lw_g := by
  rw [eX1]
  exact List.forall_mem_cons.mpr ⟨tw_282, List.forall_mem_cons.mpr ⟨tw_284, List.forall_mem_cons.mpr ⟨tw_286, List.forall_mem_cons.mpr ⟨tw_288, List.forall_mem_cons.mpr ⟨tw_290, List.forall_mem_cons.mpr ⟨tw_292, List.forall_mem_cons.mpr ⟨tw_294, List.forall_mem_cons.mpr ⟨tw_296, List.forall_mem_cons.mpr ⟨tw_298, List.forall_mem_cons.mpr ⟨tw_300, List.forall_mem_cons.mpr ⟨tw_302, List.forall_mem_cons.mpr ⟨tw_304, List.forall_mem_cons.mpr ⟨tw_306, List.forall_mem_cons.mpr ⟨tw_308, List.forall_mem_cons.mpr ⟨tw_310, List.forall_mem_cons.mpr ⟨tw_312, fun _ h => absurd h List.not_mem_nil⟩⟩⟩⟩⟩⟩⟩⟩⟩⟩⟩⟩⟩⟩⟩⟩
theorem tw_599 : (Jvm.Cond.laysFinal "CountyWatch$Constable" "CountyWatch$Constable" "number" "I") ∈ lw_g := lw_c3 119 (by decide +kernel) (by decide +kernel)
theorem tw_601 : (Jvm.Cond.laysFinal "CountyWatch$Constable" "CountyWatch$Constable" "rank" "I") ∈ lw_g := lw_c3 121 (by decide +kernel) (by decide +kernel)
theorem tw_603 : (Jvm.Cond.laysFinal "CountyWatch$Constable" "CountyWatch$Constable" "years" "I") ∈ lw_g := lw_c3 123 (by decide +kernel) (by decide +kernel)
theorem tw_605 : (Jvm.Cond.laysFinal "CountyWatch$Constable" "CountyWatch$Constable" "home" "I") ∈ lw_g := lw_c3 125 (by decide +kernel) (by decide +kernel)
theorem tw_607 : (Jvm.Cond.lays "CountyWatch$Constable" "CountyWatch$Constable" "about" "I") ∈ lw_g := lw_c3 127 (by decide +kernel) (by decide +kernel)
theorem tw_609 : (Jvm.Cond.lays "CountyWatch$Constable" "CountyWatch$Constable" "place" "I") ∈ lw_g := lw_c3 129 (by decide +kernel) (by decide +kernel)
theorem tw_611 : (Jvm.Cond.lays "CountyWatch$Constable" "CountyWatch$Constable" "target" "I") ∈ lw_g := lw_c3 131 (by decide +kernel) (by decide +kernel)
theorem tw_613 : (Jvm.Cond.lays "CountyWatch$Constable" "CountyWatch$Constable" "till" "I") ∈ lw_g := lw_c3 133 (by decide +kernel) (by decide +kernel)
theorem tw_615 : (Jvm.Cond.lays "CountyWatch$Constable" "CountyWatch$Constable" "beat" "I") ∈ lw_g := lw_c3 135 (by decide +kernel) (by decide +kernel)
theorem tw_617 : (Jvm.Cond.lays "CountyWatch$Constable" "CountyWatch$Constable" "step" "I") ∈ lw_g := lw_c3 137 (by decide +kernel) (by decide +kernel)
theorem tw_619 : (Jvm.Cond.lays "CountyWatch$Constable" "CountyWatch$Constable" "begun" "I") ∈ lw_g := lw_c3 139 (by decide +kernel) (by decide +kernel)
theorem tw_621 : (Jvm.Cond.lays "CountyWatch$Constable" "CountyWatch$Constable" "row" "I") ∈ lw_g := lw_c3 141 (by decide +kernel) (by decide +kernel)
theorem tw_623 : (Jvm.Cond.lays "CountyWatch$Constable" "CountyWatch$Constable" "rowsEnd" "I") ∈ lw_g := lw_c3 143 (by decide +kernel) (by decide +kernel)
theorem tw_625 : (Jvm.Cond.lays "CountyWatch$Constable" "CountyWatch$Constable" "drawnTo" "I") ∈ lw_g := lw_c3 145 (by decide +kernel) (by decide +kernel)
theorem tw_627 : (Jvm.Cond.lays "CountyWatch$Constable" "CountyWatch$Constable" "drawnTill" "I") ∈ lw_g := lw_c3 147 (by decide +kernel) (by decide +kernel)
theorem tw_629 : (Jvm.Cond.lays "CountyWatch$Constable" "CountyWatch$Constable" "met" "I") ∈ lw_g := lw_c3 149 (by decide +kernel) (by decide +kernel)
theorem tw_631 : (Jvm.Cond.lays "CountyWatch$Constable" "CountyWatch$Constable" "missed" "I") ∈ lw_g := lw_c3 151 (by decide +kernel) (by decide +kernel)
set_option maxRecDepth 100000 in
theorem eX2 : u_ws RX2 TX2 17 = [(Jvm.Cond.laysFinal "CountyWatch$Constable" "CountyWatch$Constable" "number" "I"), (Jvm.Cond.laysFinal "CountyWatch$Constable" "CountyWatch$Constable" "rank" "I"), (Jvm.Cond.laysFinal "CountyWatch$Constable" "CountyWatch$Constable" "years" "I"), (Jvm.Cond.laysFinal "CountyWatch$Constable" "CountyWatch$Constable" "home" "I"), (Jvm.Cond.lays "CountyWatch$Constable" "CountyWatch$Constable" "about" "I"), (Jvm.Cond.lays "CountyWatch$Constable" "CountyWatch$Constable" "place" "I"), (Jvm.Cond.lays "CountyWatch$Constable" "CountyWatch$Constable" "target" "I"), (Jvm.Cond.lays "CountyWatch$Constable" "CountyWatch$Constable" "till" "I"), (Jvm.Cond.lays "CountyWatch$Constable" "CountyWatch$Constable" "beat" "I"), (Jvm.Cond.lays "CountyWatch$Constable" "CountyWatch$Constable" "step" "I"), (Jvm.Cond.lays "CountyWatch$Constable" "CountyWatch$Constable" "begun" "I"), (Jvm.Cond.lays "CountyWatch$Constable" "CountyWatch$Constable" "row" "I"), (Jvm.Cond.lays "CountyWatch$Constable" "CountyWatch$Constable" "rowsEnd" "I"), (Jvm.Cond.lays "CountyWatch$Constable" "CountyWatch$Constable" "drawnTo" "I"), (Jvm.Cond.lays "CountyWatch$Constable" "CountyWatch$Constable" "drawnTill" "I"), (Jvm.Cond.lays "CountyWatch$Constable" "CountyWatch$Constable" "met" "I"), (Jvm.Cond.lays "CountyWatch$Constable" "CountyWatch$Constable" "missed" "I")] := by decide +kernel
theorem iX2 : ∀ w ∈ u_ws RX2 TX2 17, w ∈ lw_g := by
  rw [eX2]
  exact List.forall_mem_cons.mpr ⟨tw_599, List.forall_mem_cons.mpr ⟨tw_601, List.forall_mem_cons.mpr ⟨tw_603, List.forall_mem_cons.mpr ⟨tw_605, List.forall_mem_cons.mpr ⟨tw_607, List.forall_mem_cons.mpr ⟨tw_609, List.forall_mem_cons.mpr ⟨tw_611, List.forall_mem_cons.mpr ⟨tw_613, List.forall_mem_cons.mpr ⟨tw_615, List.forall_mem_cons.mpr ⟨tw_617, List.forall_mem_cons.mpr ⟨tw_619, List.forall_mem_cons.mpr ⟨tw_621, List.forall_mem_cons.mpr ⟨tw_623, List.forall_mem_cons.mpr ⟨tw_625, List.forall_mem_cons.mpr ⟨tw_627, List.forall_mem_cons.mpr ⟨tw_629, List.forall_mem_cons.mpr ⟨tw_631, fun _ h => absurd h List.not_mem_nil⟩⟩⟩⟩⟩⟩⟩⟩⟩⟩⟩⟩⟩⟩⟩⟩⟩
theorem tw_334 : (Jvm.Cond.laysFinal "CountyWatch$Goods" "CountyWatch$Goods" "lost" "[I") ∈ lw_g := lw_c2 94 (by decide +kernel) (by decide +kernel)
theorem tw_336 : (Jvm.Cond.laysFinal "CountyWatch$Goods" "CountyWatch$Goods" "found" "[I") ∈ lw_g := lw_c2 96 (by decide +kernel) (by decide +kernel)
theorem tw_338 : (Jvm.Cond.lays "CountyWatch$Goods" "CountyWatch$Goods" "lostGoods" "I") ∈ lw_g := lw_c2 98 (by decide +kernel) (by decide +kernel)
theorem tw_340 : (Jvm.Cond.lays "CountyWatch$Goods" "CountyWatch$Goods" "foundGoods" "I") ∈ lw_g := lw_c2 100 (by decide +kernel) (by decide +kernel)
theorem tw_342 : (Jvm.Cond.lays "CountyWatch$Goods" "CountyWatch$Goods" "leastMarks" "I") ∈ lw_g := lw_c2 102 (by decide +kernel) (by decide +kernel)
theorem tw_344 : (Jvm.Cond.lays "CountyWatch$Goods" "CountyWatch$Goods" "stale" "Z") ∈ lw_g := lw_c2 104 (by decide +kernel) (by decide +kernel)
theorem tw_346 : (Jvm.Cond.laysFinal "CountyWatch$Goods" "CountyWatch$Goods" "gain" "[I") ∈ lw_g := lw_c2 106 (by decide +kernel) (by decide +kernel)
theorem tw_348 : (Jvm.Cond.laysFinal "CountyWatch$Goods" "CountyWatch$Goods" "best" "[I") ∈ lw_g := lw_c2 108 (by decide +kernel) (by decide +kernel)
theorem tw_350 : (Jvm.Cond.laysFinal "CountyWatch$Goods" "CountyWatch$Goods" "reached" "[Z") ∈ lw_g := lw_c2 110 (by decide +kernel) (by decide +kernel)
theorem tw_352 : (Jvm.Cond.laysFinal "CountyWatch$Goods" "CountyWatch$Goods" "choices" "[I") ∈ lw_g := lw_c2 112 (by decide +kernel) (by decide +kernel)
theorem tw_354 : (Jvm.Cond.laysFinal "CountyWatch$Goods" "CountyWatch$Goods" "first" "[I") ∈ lw_g := lw_c2 114 (by decide +kernel) (by decide +kernel)
set_option maxRecDepth 100000 in
theorem eX3 : u_ws RX3 TX3 11 = [(Jvm.Cond.laysFinal "CountyWatch$Goods" "CountyWatch$Goods" "lost" "[I"), (Jvm.Cond.laysFinal "CountyWatch$Goods" "CountyWatch$Goods" "found" "[I"), (Jvm.Cond.lays "CountyWatch$Goods" "CountyWatch$Goods" "lostGoods" "I"), (Jvm.Cond.lays "CountyWatch$Goods" "CountyWatch$Goods" "foundGoods" "I"), (Jvm.Cond.lays "CountyWatch$Goods" "CountyWatch$Goods" "leastMarks" "I"), (Jvm.Cond.lays "CountyWatch$Goods" "CountyWatch$Goods" "stale" "Z"), (Jvm.Cond.laysFinal "CountyWatch$Goods" "CountyWatch$Goods" "gain" "[I"), (Jvm.Cond.laysFinal "CountyWatch$Goods" "CountyWatch$Goods" "best" "[I"), (Jvm.Cond.laysFinal "CountyWatch$Goods" "CountyWatch$Goods" "reached" "[Z"), (Jvm.Cond.laysFinal "CountyWatch$Goods" "CountyWatch$Goods" "choices" "[I"), (Jvm.Cond.laysFinal "CountyWatch$Goods" "CountyWatch$Goods" "first" "[I")] := by decide +kernel
theorem iX3 : ∀ w ∈ u_ws RX3 TX3 11, w ∈ lw_g := by
  rw [eX3]
  exact List.forall_mem_cons.mpr ⟨tw_334, List.forall_mem_cons.mpr ⟨tw_336, List.forall_mem_cons.mpr ⟨tw_338, List.forall_mem_cons.mpr ⟨tw_340, List.forall_mem_cons.mpr ⟨tw_342, List.forall_mem_cons.mpr ⟨tw_344, List.forall_mem_cons.mpr ⟨tw_346, List.forall_mem_cons.mpr ⟨tw_348, List.forall_mem_cons.mpr ⟨tw_350, List.forall_mem_cons.mpr ⟨tw_352, List.forall_mem_cons.mpr ⟨tw_354, fun _ h => absurd h List.not_mem_nil⟩⟩⟩⟩⟩⟩⟩⟩⟩⟩⟩
theorem tw_217 : (Jvm.Cond.laysFinal "CountyWatch$Looks" "CountyWatch$Looks" "kind" "[I") ∈ lw_g := lw_c1 217 (by decide +kernel) (by decide +kernel)
theorem tw_219 : (Jvm.Cond.laysFinal "CountyWatch$Looks" "CountyWatch$Looks" "place" "[I") ∈ lw_g := lw_c1 219 (by decide +kernel) (by decide +kernel)
theorem tw_221 : (Jvm.Cond.laysFinal "CountyWatch$Looks" "CountyWatch$Looks" "from" "[I") ∈ lw_g := lw_c1 221 (by decide +kernel) (by decide +kernel)
theorem tw_223 : (Jvm.Cond.laysFinal "CountyWatch$Looks" "CountyWatch$Looks" "to" "[I") ∈ lw_g := lw_c1 223 (by decide +kernel) (by decide +kernel)
theorem tw_225 : (Jvm.Cond.laysFinal "CountyWatch$Looks" "CountyWatch$Looks" "weight" "[I") ∈ lw_g := lw_c1 225 (by decide +kernel) (by decide +kernel)
theorem tw_227 : (Jvm.Cond.laysFinal "CountyWatch$Looks" "CountyWatch$Looks" "seen" "[I") ∈ lw_g := lw_c1 227 (by decide +kernel) (by decide +kernel)
theorem tw_229 : (Jvm.Cond.laysFinal "CountyWatch$Looks" "CountyWatch$Looks" "taken" "[Z") ∈ lw_g := lw_c1 229 (by decide +kernel) (by decide +kernel)
theorem tw_231 : (Jvm.Cond.lays "CountyWatch$Looks" "CountyWatch$Looks" "finds" "I") ∈ lw_g := lw_c1 231 (by decide +kernel) (by decide +kernel)
theorem tw_233 : (Jvm.Cond.lays "CountyWatch$Looks" "CountyWatch$Looks" "takenFinds" "I") ∈ lw_g := lw_c1 233 (by decide +kernel) (by decide +kernel)
theorem tw_235 : (Jvm.Cond.laysFinal "CountyWatch$Looks" "CountyWatch$Looks" "man" "[I") ∈ lw_g := lw_c1 235 (by decide +kernel) (by decide +kernel)
theorem tw_237 : (Jvm.Cond.laysFinal "CountyWatch$Looks" "CountyWatch$Looks" "find" "[I") ∈ lw_g := lw_c1 237 (by decide +kernel) (by decide +kernel)
theorem tw_239 : (Jvm.Cond.laysFinal "CountyWatch$Looks" "CountyWatch$Looks" "minute" "[I") ∈ lw_g := lw_c1 239 (by decide +kernel) (by decide +kernel)
theorem tw_241 : (Jvm.Cond.laysFinal "CountyWatch$Looks" "CountyWatch$Looks" "done" "[I") ∈ lw_g := lw_c2 1 (by decide +kernel) (by decide +kernel)
theorem tw_243 : (Jvm.Cond.laysFinal "CountyWatch$Looks" "CountyWatch$Looks" "opened" "[I") ∈ lw_g := lw_c2 3 (by decide +kernel) (by decide +kernel)
theorem tw_245 : (Jvm.Cond.laysFinal "CountyWatch$Looks" "CountyWatch$Looks" "known" "[I") ∈ lw_g := lw_c2 5 (by decide +kernel) (by decide +kernel)
theorem tw_247 : (Jvm.Cond.laysFinal "CountyWatch$Looks" "CountyWatch$Looks" "letters" "[I") ∈ lw_g := lw_c2 7 (by decide +kernel) (by decide +kernel)
theorem tw_249 : (Jvm.Cond.lays "CountyWatch$Looks" "CountyWatch$Looks" "sightings" "I") ∈ lw_g := lw_c2 9 (by decide +kernel) (by decide +kernel)
set_option maxRecDepth 100000 in
theorem eX4 : u_ws RX4 TX4 17 = [(Jvm.Cond.laysFinal "CountyWatch$Looks" "CountyWatch$Looks" "kind" "[I"), (Jvm.Cond.laysFinal "CountyWatch$Looks" "CountyWatch$Looks" "place" "[I"), (Jvm.Cond.laysFinal "CountyWatch$Looks" "CountyWatch$Looks" "from" "[I"), (Jvm.Cond.laysFinal "CountyWatch$Looks" "CountyWatch$Looks" "to" "[I"), (Jvm.Cond.laysFinal "CountyWatch$Looks" "CountyWatch$Looks" "weight" "[I"), (Jvm.Cond.laysFinal "CountyWatch$Looks" "CountyWatch$Looks" "seen" "[I"), (Jvm.Cond.laysFinal "CountyWatch$Looks" "CountyWatch$Looks" "taken" "[Z"), (Jvm.Cond.lays "CountyWatch$Looks" "CountyWatch$Looks" "finds" "I"), (Jvm.Cond.lays "CountyWatch$Looks" "CountyWatch$Looks" "takenFinds" "I"), (Jvm.Cond.laysFinal "CountyWatch$Looks" "CountyWatch$Looks" "man" "[I"), (Jvm.Cond.laysFinal "CountyWatch$Looks" "CountyWatch$Looks" "find" "[I"), (Jvm.Cond.laysFinal "CountyWatch$Looks" "CountyWatch$Looks" "minute" "[I"), (Jvm.Cond.laysFinal "CountyWatch$Looks" "CountyWatch$Looks" "done" "[I"), (Jvm.Cond.laysFinal "CountyWatch$Looks" "CountyWatch$Looks" "opened" "[I"), (Jvm.Cond.laysFinal "CountyWatch$Looks" "CountyWatch$Looks" "known" "[I"), (Jvm.Cond.laysFinal "CountyWatch$Looks" "CountyWatch$Looks" "letters" "[I"), (Jvm.Cond.lays "CountyWatch$Looks" "CountyWatch$Looks" "sightings" "I")] := by decide +kernel
theorem iX4 : ∀ w ∈ u_ws RX4 TX4 17, w ∈ lw_g := by
  rw [eX4]
  exact List.forall_mem_cons.mpr ⟨tw_217, List.forall_mem_cons.mpr ⟨tw_219, List.forall_mem_cons.mpr ⟨tw_221, List.forall_mem_cons.mpr ⟨tw_223, List.forall_mem_cons.mpr ⟨tw_225, List.forall_mem_cons.mpr ⟨tw_227, List.forall_mem_cons.mpr ⟨tw_229, List.forall_mem_cons.mpr ⟨tw_231, List.forall_mem_cons.mpr ⟨tw_233, List.forall_mem_cons.mpr ⟨tw_235, List.forall_mem_cons.mpr ⟨tw_237, List.forall_mem_cons.mpr ⟨tw_239, List.forall_mem_cons.mpr ⟨tw_241, List.forall_mem_cons.mpr ⟨tw_243, List.forall_mem_cons.mpr ⟨tw_245, List.forall_mem_cons.mpr ⟨tw_247, List.forall_mem_cons.mpr ⟨tw_249, fun _ h => absurd h List.not_mem_nil⟩⟩⟩⟩⟩⟩⟩⟩⟩⟩⟩⟩⟩⟩⟩⟩⟩
theorem tw_454 : (Jvm.Cond.laysFinal "CountyWatch$Payroll" "CountyWatch$Payroll" "rankMan" "[I") ∈ lw_g := lw_c2 214 (by decide +kernel) (by decide +kernel)
theorem tw_456 : (Jvm.Cond.laysFinal "CountyWatch$Payroll" "CountyWatch$Payroll" "rankTo" "[I") ∈ lw_g := lw_c2 216 (by decide +kernel) (by decide +kernel)
theorem tw_458 : (Jvm.Cond.laysFinal "CountyWatch$Payroll" "CountyWatch$Payroll" "rankDay" "[I") ∈ lw_g := lw_c2 218 (by decide +kernel) (by decide +kernel)
theorem tw_460 : (Jvm.Cond.laysFinal "CountyWatch$Payroll" "CountyWatch$Payroll" "rankTold" "[I") ∈ lw_g := lw_c2 220 (by decide +kernel) (by decide +kernel)
theorem tw_462 : (Jvm.Cond.lays "CountyWatch$Payroll" "CountyWatch$Payroll" "ranks" "I") ∈ lw_g := lw_c2 222 (by decide +kernel) (by decide +kernel)
theorem tw_464 : (Jvm.Cond.laysFinal "CountyWatch$Payroll" "CountyWatch$Payroll" "letters" "[I") ∈ lw_g := lw_c2 224 (by decide +kernel) (by decide +kernel)
theorem tw_466 : (Jvm.Cond.laysFinal "CountyWatch$Payroll" "CountyWatch$Payroll" "wages" "[I") ∈ lw_g := lw_c2 226 (by decide +kernel) (by decide +kernel)
theorem tw_468 : (Jvm.Cond.laysFinal "CountyWatch$Payroll" "CountyWatch$Payroll" "booked" "[I") ∈ lw_g := lw_c2 228 (by decide +kernel) (by decide +kernel)
theorem tw_470 : (Jvm.Cond.laysFinal "CountyWatch$Payroll" "CountyWatch$Payroll" "lineMan" "[I") ∈ lw_g := lw_c2 230 (by decide +kernel) (by decide +kernel)
theorem tw_472 : (Jvm.Cond.laysFinal "CountyWatch$Payroll" "CountyWatch$Payroll" "lineDay" "[I") ∈ lw_g := lw_c2 232 (by decide +kernel) (by decide +kernel)
theorem tw_474 : (Jvm.Cond.laysFinal "CountyWatch$Payroll" "CountyWatch$Payroll" "lineCoins" "[I") ∈ lw_g := lw_c2 234 (by decide +kernel) (by decide +kernel)
theorem tw_476 : (Jvm.Cond.laysFinal "CountyWatch$Payroll" "CountyWatch$Payroll" "lineMinute" "[I") ∈ lw_g := lw_c2 236 (by decide +kernel) (by decide +kernel)
theorem tw_478 : (Jvm.Cond.lays "CountyWatch$Payroll" "CountyWatch$Payroll" "lines" "I") ∈ lw_g := lw_c2 238 (by decide +kernel) (by decide +kernel)
theorem tw_480 : (Jvm.Cond.lays "CountyWatch$Payroll" "CountyWatch$Payroll" "coins" "I") ∈ lw_g := lw_c3 0 (by decide +kernel) (by decide +kernel)
theorem tw_482 : (Jvm.Cond.laysFinal "CountyWatch$Payroll" "CountyWatch$Payroll" "marks" "[I") ∈ lw_g := lw_c3 2 (by decide +kernel) (by decide +kernel)
theorem tw_484 : (Jvm.Cond.lays "CountyWatch$Payroll" "CountyWatch$Payroll" "enough" "I") ∈ lw_g := lw_c3 4 (by decide +kernel) (by decide +kernel)
set_option maxRecDepth 100000 in
theorem eX5 : u_ws RX5 TX5 16 = [(Jvm.Cond.laysFinal "CountyWatch$Payroll" "CountyWatch$Payroll" "rankMan" "[I"), (Jvm.Cond.laysFinal "CountyWatch$Payroll" "CountyWatch$Payroll" "rankTo" "[I"), (Jvm.Cond.laysFinal "CountyWatch$Payroll" "CountyWatch$Payroll" "rankDay" "[I"), (Jvm.Cond.laysFinal "CountyWatch$Payroll" "CountyWatch$Payroll" "rankTold" "[I"), (Jvm.Cond.lays "CountyWatch$Payroll" "CountyWatch$Payroll" "ranks" "I"), (Jvm.Cond.laysFinal "CountyWatch$Payroll" "CountyWatch$Payroll" "letters" "[I"), (Jvm.Cond.laysFinal "CountyWatch$Payroll" "CountyWatch$Payroll" "wages" "[I"), (Jvm.Cond.laysFinal "CountyWatch$Payroll" "CountyWatch$Payroll" "booked" "[I"), (Jvm.Cond.laysFinal "CountyWatch$Payroll" "CountyWatch$Payroll" "lineMan" "[I"), (Jvm.Cond.laysFinal "CountyWatch$Payroll" "CountyWatch$Payroll" "lineDay" "[I"), (Jvm.Cond.laysFinal "CountyWatch$Payroll" "CountyWatch$Payroll" "lineCoins" "[I"), (Jvm.Cond.laysFinal "CountyWatch$Payroll" "CountyWatch$Payroll" "lineMinute" "[I"), (Jvm.Cond.lays "CountyWatch$Payroll" "CountyWatch$Payroll" "lines" "I"), (Jvm.Cond.lays "CountyWatch$Payroll" "CountyWatch$Payroll" "coins" "I"), (Jvm.Cond.laysFinal "CountyWatch$Payroll" "CountyWatch$Payroll" "marks" "[I"), (Jvm.Cond.lays "CountyWatch$Payroll" "CountyWatch$Payroll" "enough" "I")] := by decide +kernel
theorem iX5 : ∀ w ∈ u_ws RX5 TX5 16, w ∈ lw_g := by
  rw [eX5]
  exact List.forall_mem_cons.mpr ⟨tw_454, List.forall_mem_cons.mpr ⟨tw_456, List.forall_mem_cons.mpr ⟨tw_458, List.forall_mem_cons.mpr ⟨tw_460, List.forall_mem_cons.mpr ⟨tw_462, List.forall_mem_cons.mpr ⟨tw_464, List.forall_mem_cons.mpr ⟨tw_466, List.forall_mem_cons.mpr ⟨tw_468, List.forall_mem_cons.mpr ⟨tw_470, List.forall_mem_cons.mpr ⟨tw_472, List.forall_mem_cons.mpr ⟨tw_474, List.forall_mem_cons.mpr ⟨tw_476, List.forall_mem_cons.mpr ⟨tw_478, List.forall_mem_cons.mpr ⟨tw_480, List.forall_mem_cons.mpr ⟨tw_482, List.forall_mem_cons.mpr ⟨tw_484, fun _ h => absurd h List.not_mem_nil⟩⟩⟩⟩⟩⟩⟩⟩⟩⟩⟩⟩⟩⟩⟩⟩
theorem tw_385 : (Jvm.Cond.laysFinal "CountyWatch$Plans" "CountyWatch$Plans" "watchPlace" "[I") ∈ lw_g := lw_c2 145 (by decide +kernel) (by decide +kernel)
theorem tw_387 : (Jvm.Cond.laysFinal "CountyWatch$Plans" "CountyWatch$Plans" "watchFrom" "[I") ∈ lw_g := lw_c2 147 (by decide +kernel) (by decide +kernel)
theorem tw_389 : (Jvm.Cond.laysFinal "CountyWatch$Plans" "CountyWatch$Plans" "watchTo" "[I") ∈ lw_g := lw_c2 149 (by decide +kernel) (by decide +kernel)
theorem tw_391 : (Jvm.Cond.lays "CountyWatch$Plans" "CountyWatch$Plans" "watches" "I") ∈ lw_g := lw_c2 151 (by decide +kernel) (by decide +kernel)
theorem tw_393 : (Jvm.Cond.laysFinal "CountyWatch$Plans" "CountyWatch$Plans" "sight" "[J") ∈ lw_g := lw_c2 153 (by decide +kernel) (by decide +kernel)
theorem tw_395 : (Jvm.Cond.laysFinal "CountyWatch$Plans" "CountyWatch$Plans" "trial" "[I") ∈ lw_g := lw_c2 155 (by decide +kernel) (by decide +kernel)
theorem tw_397 : (Jvm.Cond.laysFinal "CountyWatch$Plans" "CountyWatch$Plans" "shares" "[I") ∈ lw_g := lw_c2 157 (by decide +kernel) (by decide +kernel)
theorem tw_399 : (Jvm.Cond.lays "CountyWatch$Plans" "CountyWatch$Plans" "sharing" "I") ∈ lw_g := lw_c2 159 (by decide +kernel) (by decide +kernel)
theorem tw_401 : (Jvm.Cond.lays "CountyWatch$Plans" "CountyWatch$Plans" "bestSafe" "I") ∈ lw_g := lw_c2 161 (by decide +kernel) (by decide +kernel)
theorem tw_403 : (Jvm.Cond.lays "CountyWatch$Plans" "CountyWatch$Plans" "bestSum" "I") ∈ lw_g := lw_c2 163 (by decide +kernel) (by decide +kernel)
theorem tw_405 : (Jvm.Cond.lays "CountyWatch$Plans" "CountyWatch$Plans" "sharedBeats" "I") ∈ lw_g := lw_c2 165 (by decide +kernel) (by decide +kernel)
theorem tw_407 : (Jvm.Cond.lays "CountyWatch$Plans" "CountyWatch$Plans" "sharedPaths" "I") ∈ lw_g := lw_c2 167 (by decide +kernel) (by decide +kernel)
theorem tw_409 : (Jvm.Cond.lays "CountyWatch$Plans" "CountyWatch$Plans" "sharedWatches" "I") ∈ lw_g := lw_c2 169 (by decide +kernel) (by decide +kernel)
theorem tw_411 : (Jvm.Cond.laysFinal "CountyWatch$Plans" "CountyWatch$Plans" "fairPlace" "[I") ∈ lw_g := lw_c2 171 (by decide +kernel) (by decide +kernel)
theorem tw_413 : (Jvm.Cond.laysFinal "CountyWatch$Plans" "CountyWatch$Plans" "fairMinute" "[I") ∈ lw_g := lw_c2 173 (by decide +kernel) (by decide +kernel)
theorem tw_415 : (Jvm.Cond.laysFinal "CountyWatch$Plans" "CountyWatch$Plans" "fairWanted" "[I") ∈ lw_g := lw_c2 175 (by decide +kernel) (by decide +kernel)
theorem tw_417 : (Jvm.Cond.lays "CountyWatch$Plans" "CountyWatch$Plans" "fairs" "I") ∈ lw_g := lw_c2 177 (by decide +kernel) (by decide +kernel)
theorem tw_419 : (Jvm.Cond.laysFinal "CountyWatch$Plans" "CountyWatch$Plans" "prices" "[I") ∈ lw_g := lw_c2 179 (by decide +kernel) (by decide +kernel)
theorem tw_421 : (Jvm.Cond.laysFinal "CountyWatch$Plans" "CountyWatch$Plans" "costs" "[I") ∈ lw_g := lw_c2 181 (by decide +kernel) (by decide +kernel)
theorem tw_423 : (Jvm.Cond.laysFinal "CountyWatch$Plans" "CountyWatch$Plans" "lentTo" "[I") ∈ lw_g := lw_c2 183 (by decide +kernel) (by decide +kernel)
set_option maxRecDepth 100000 in
theorem eX6 : u_ws RX6 TX6 20 = [(Jvm.Cond.laysFinal "CountyWatch$Plans" "CountyWatch$Plans" "watchPlace" "[I"), (Jvm.Cond.laysFinal "CountyWatch$Plans" "CountyWatch$Plans" "watchFrom" "[I"), (Jvm.Cond.laysFinal "CountyWatch$Plans" "CountyWatch$Plans" "watchTo" "[I"), (Jvm.Cond.lays "CountyWatch$Plans" "CountyWatch$Plans" "watches" "I"), (Jvm.Cond.laysFinal "CountyWatch$Plans" "CountyWatch$Plans" "sight" "[J"), (Jvm.Cond.laysFinal "CountyWatch$Plans" "CountyWatch$Plans" "trial" "[I"), (Jvm.Cond.laysFinal "CountyWatch$Plans" "CountyWatch$Plans" "shares" "[I"), (Jvm.Cond.lays "CountyWatch$Plans" "CountyWatch$Plans" "sharing" "I"), (Jvm.Cond.lays "CountyWatch$Plans" "CountyWatch$Plans" "bestSafe" "I"), (Jvm.Cond.lays "CountyWatch$Plans" "CountyWatch$Plans" "bestSum" "I"), (Jvm.Cond.lays "CountyWatch$Plans" "CountyWatch$Plans" "sharedBeats" "I"), (Jvm.Cond.lays "CountyWatch$Plans" "CountyWatch$Plans" "sharedPaths" "I"), (Jvm.Cond.lays "CountyWatch$Plans" "CountyWatch$Plans" "sharedWatches" "I"), (Jvm.Cond.laysFinal "CountyWatch$Plans" "CountyWatch$Plans" "fairPlace" "[I"), (Jvm.Cond.laysFinal "CountyWatch$Plans" "CountyWatch$Plans" "fairMinute" "[I"), (Jvm.Cond.laysFinal "CountyWatch$Plans" "CountyWatch$Plans" "fairWanted" "[I"), (Jvm.Cond.lays "CountyWatch$Plans" "CountyWatch$Plans" "fairs" "I"), (Jvm.Cond.laysFinal "CountyWatch$Plans" "CountyWatch$Plans" "prices" "[I"), (Jvm.Cond.laysFinal "CountyWatch$Plans" "CountyWatch$Plans" "costs" "[I"), (Jvm.Cond.laysFinal "CountyWatch$Plans" "CountyWatch$Plans" "lentTo" "[I")] := by decide +kernel
theorem iX6 : ∀ w ∈ u_ws RX6 TX6 20, w ∈ lw_g := by
  rw [eX6]
  exact List.forall_mem_cons.mpr ⟨tw_385, List.forall_mem_cons.mpr ⟨tw_387, List.forall_mem_cons.mpr ⟨tw_389, List.forall_mem_cons.mpr ⟨tw_391, List.forall_mem_cons.mpr ⟨tw_393, List.forall_mem_cons.mpr ⟨tw_395, List.forall_mem_cons.mpr ⟨tw_397, List.forall_mem_cons.mpr ⟨tw_399, List.forall_mem_cons.mpr ⟨tw_401, List.forall_mem_cons.mpr ⟨tw_403, List.forall_mem_cons.mpr ⟨tw_405, List.forall_mem_cons.mpr ⟨tw_407, List.forall_mem_cons.mpr ⟨tw_409, List.forall_mem_cons.mpr ⟨tw_411, List.forall_mem_cons.mpr ⟨tw_413, List.forall_mem_cons.mpr ⟨tw_415, List.forall_mem_cons.mpr ⟨tw_417, List.forall_mem_cons.mpr ⟨tw_419, List.forall_mem_cons.mpr ⟨tw_421, List.forall_mem_cons.mpr ⟨tw_423, fun _ h => absurd h List.not_mem_nil⟩⟩⟩⟩⟩⟩⟩⟩⟩⟩⟩⟩⟩⟩⟩⟩⟩⟩⟩⟩
theorem tw_165 : (Jvm.Cond.laysFinal "CountyWatch$Points" "CountyWatch$Points" "man" "[I") ∈ lw_g := lw_c1 165 (by decide +kernel) (by decide +kernel)
theorem tw_167 : (Jvm.Cond.laysFinal "CountyWatch$Points" "CountyWatch$Points" "place" "[I") ∈ lw_g := lw_c1 167 (by decide +kernel) (by decide +kernel)
theorem tw_169 : (Jvm.Cond.laysFinal "CountyWatch$Points" "CountyWatch$Points" "due" "[I") ∈ lw_g := lw_c1 169 (by decide +kernel) (by decide +kernel)
theorem tw_171 : (Jvm.Cond.laysFinal "CountyWatch$Points" "CountyWatch$Points" "begun" "[I") ∈ lw_g := lw_c1 171 (by decide +kernel) (by decide +kernel)
theorem tw_173 : (Jvm.Cond.laysFinal "CountyWatch$Points" "CountyWatch$Points" "outcome" "[I") ∈ lw_g := lw_c1 173 (by decide +kernel) (by decide +kernel)
theorem tw_175 : (Jvm.Cond.laysFinal "CountyWatch$Points" "CountyWatch$Points" "settled" "[I") ∈ lw_g := lw_c1 175 (by decide +kernel) (by decide +kernel)
theorem tw_177 : (Jvm.Cond.laysFinal "CountyWatch$Points" "CountyWatch$Points" "firstCause" "[I") ∈ lw_g := lw_c1 177 (by decide +kernel) (by decide +kernel)
theorem tw_179 : (Jvm.Cond.lays "CountyWatch$Points" "CountyWatch$Points" "rows" "I") ∈ lw_g := lw_c1 179 (by decide +kernel) (by decide +kernel)
theorem tw_181 : (Jvm.Cond.laysFinal "CountyWatch$Points" "CountyWatch$Points" "toldRow" "[I") ∈ lw_g := lw_c1 181 (by decide +kernel) (by decide +kernel)
theorem tw_183 : (Jvm.Cond.laysFinal "CountyWatch$Points" "CountyWatch$Points" "toldCause" "[I") ∈ lw_g := lw_c1 183 (by decide +kernel) (by decide +kernel)
theorem tw_185 : (Jvm.Cond.laysFinal "CountyWatch$Points" "CountyWatch$Points" "toldAt" "[I") ∈ lw_g := lw_c1 185 (by decide +kernel) (by decide +kernel)
theorem tw_187 : (Jvm.Cond.lays "CountyWatch$Points" "CountyWatch$Points" "tellings" "I") ∈ lw_g := lw_c1 187 (by decide +kernel) (by decide +kernel)
set_option maxRecDepth 100000 in
theorem eX7 : u_ws RX7 TX7 12 = [(Jvm.Cond.laysFinal "CountyWatch$Points" "CountyWatch$Points" "man" "[I"), (Jvm.Cond.laysFinal "CountyWatch$Points" "CountyWatch$Points" "place" "[I"), (Jvm.Cond.laysFinal "CountyWatch$Points" "CountyWatch$Points" "due" "[I"), (Jvm.Cond.laysFinal "CountyWatch$Points" "CountyWatch$Points" "begun" "[I"), (Jvm.Cond.laysFinal "CountyWatch$Points" "CountyWatch$Points" "outcome" "[I"), (Jvm.Cond.laysFinal "CountyWatch$Points" "CountyWatch$Points" "settled" "[I"), (Jvm.Cond.laysFinal "CountyWatch$Points" "CountyWatch$Points" "firstCause" "[I"), (Jvm.Cond.lays "CountyWatch$Points" "CountyWatch$Points" "rows" "I"), (Jvm.Cond.laysFinal "CountyWatch$Points" "CountyWatch$Points" "toldRow" "[I"), (Jvm.Cond.laysFinal "CountyWatch$Points" "CountyWatch$Points" "toldCause" "[I"), (Jvm.Cond.laysFinal "CountyWatch$Points" "CountyWatch$Points" "toldAt" "[I"), (Jvm.Cond.lays "CountyWatch$Points" "CountyWatch$Points" "tellings" "I")] := by decide +kernel
theorem iX7 : ∀ w ∈ u_ws RX7 TX7 12, w ∈ lw_g := by
  rw [eX7]
  exact List.forall_mem_cons.mpr ⟨tw_165, List.forall_mem_cons.mpr ⟨tw_167, List.forall_mem_cons.mpr ⟨tw_169, List.forall_mem_cons.mpr ⟨tw_171, List.forall_mem_cons.mpr ⟨tw_173, List.forall_mem_cons.mpr ⟨tw_175, List.forall_mem_cons.mpr ⟨tw_177, List.forall_mem_cons.mpr ⟨tw_179, List.forall_mem_cons.mpr ⟨tw_181, List.forall_mem_cons.mpr ⟨tw_183, List.forall_mem_cons.mpr ⟨tw_185, List.forall_mem_cons.mpr ⟨tw_187, fun _ h => absurd h List.not_mem_nil⟩⟩⟩⟩⟩⟩⟩⟩⟩⟩⟩⟩
theorem tw_75 : (Jvm.Cond.laysFinal "CountyWatch$Reader" "CountyWatch$Reader" "bytes" "[I") ∈ lw_g := lw_c1 75 (by decide +kernel) (by decide +kernel)
theorem tw_77 : (Jvm.Cond.lays "CountyWatch$Reader" "CountyWatch$Reader" "length" "I") ∈ lw_g := lw_c1 77 (by decide +kernel) (by decide +kernel)
theorem tw_79 : (Jvm.Cond.lays "CountyWatch$Reader" "CountyWatch$Reader" "at" "I") ∈ lw_g := lw_c1 79 (by decide +kernel) (by decide +kernel)
theorem tw_81 : (Jvm.Cond.lays "CountyWatch$Reader" "CountyWatch$Reader" "fault" "I") ∈ lw_g := lw_c1 81 (by decide +kernel) (by decide +kernel)
theorem tw_83 : (Jvm.Cond.lays "CountyWatch$Reader" "CountyWatch$Reader" "letters" "Ljava/lang/String;") ∈ lw_g := lw_c1 83 (by decide +kernel) (by decide +kernel)
theorem tw_85 : (Jvm.Cond.laysFinal "CountyWatch$Reader" "CountyWatch$Reader" "steps" "[I") ∈ lw_g := lw_c1 85 (by decide +kernel) (by decide +kernel)
theorem tw_87 : (Jvm.Cond.lays "CountyWatch$Reader" "CountyWatch$Reader" "stepCount" "I") ∈ lw_g := lw_c1 87 (by decide +kernel) (by decide +kernel)
theorem tw_89 : (Jvm.Cond.lays "CountyWatch$Reader" "CountyWatch$Reader" "tooLong" "Z") ∈ lw_g := lw_c1 89 (by decide +kernel) (by decide +kernel)
theorem tw_91 : (Jvm.Cond.laysFinal "CountyWatch$Reader" "CountyWatch$Reader" "code" "[I") ∈ lw_g := lw_c1 91 (by decide +kernel) (by decide +kernel)
theorem tw_93 : (Jvm.Cond.lays "CountyWatch$Reader" "CountyWatch$Reader" "codeLength" "I") ∈ lw_g := lw_c1 93 (by decide +kernel) (by decide +kernel)
set_option maxRecDepth 100000 in
theorem eX8 : u_ws RX8 TX8 10 = [(Jvm.Cond.laysFinal "CountyWatch$Reader" "CountyWatch$Reader" "bytes" "[I"), (Jvm.Cond.lays "CountyWatch$Reader" "CountyWatch$Reader" "length" "I"), (Jvm.Cond.lays "CountyWatch$Reader" "CountyWatch$Reader" "at" "I"), (Jvm.Cond.lays "CountyWatch$Reader" "CountyWatch$Reader" "fault" "I"), (Jvm.Cond.lays "CountyWatch$Reader" "CountyWatch$Reader" "letters" "Ljava/lang/String;"), (Jvm.Cond.laysFinal "CountyWatch$Reader" "CountyWatch$Reader" "steps" "[I"), (Jvm.Cond.lays "CountyWatch$Reader" "CountyWatch$Reader" "stepCount" "I"), (Jvm.Cond.lays "CountyWatch$Reader" "CountyWatch$Reader" "tooLong" "Z"), (Jvm.Cond.laysFinal "CountyWatch$Reader" "CountyWatch$Reader" "code" "[I"), (Jvm.Cond.lays "CountyWatch$Reader" "CountyWatch$Reader" "codeLength" "I")] := by decide +kernel
theorem iX8 : ∀ w ∈ u_ws RX8 TX8 10, w ∈ lw_g := by
  rw [eX8]
  exact List.forall_mem_cons.mpr ⟨tw_75, List.forall_mem_cons.mpr ⟨tw_77, List.forall_mem_cons.mpr ⟨tw_79, List.forall_mem_cons.mpr ⟨tw_81, List.forall_mem_cons.mpr ⟨tw_83, List.forall_mem_cons.mpr ⟨tw_85, List.forall_mem_cons.mpr ⟨tw_87, List.forall_mem_cons.mpr ⟨tw_89, List.forall_mem_cons.mpr ⟨tw_91, List.forall_mem_cons.mpr ⟨tw_93, fun _ h => absurd h List.not_mem_nil⟩⟩⟩⟩⟩⟩⟩⟩⟩⟩
theorem tw_46 : (Jvm.Cond.laysFinal "CountyWatch$Roads" "CountyWatch$Roads" "walks" "[I") ∈ lw_g := lw_c1 46 (by decide +kernel) (by decide +kernel)
theorem tw_48 : (Jvm.Cond.lays "CountyWatch$Roads" "CountyWatch$Roads" "paths" "I") ∈ lw_g := lw_c1 48 (by decide +kernel) (by decide +kernel)
set_option maxRecDepth 100000 in
theorem eX9 : u_ws RX9 TX9 2 = [(Jvm.Cond.laysFinal "CountyWatch$Roads" "CountyWatch$Roads" "walks" "[I"), (Jvm.Cond.lays "CountyWatch$Roads" "CountyWatch$Roads" "paths" "I")] := by decide +kernel
theorem iX9 : ∀ w ∈ u_ws RX9 TX9 2, w ∈ lw_g := by
  rw [eX9]
  exact List.forall_mem_cons.mpr ⟨tw_46, List.forall_mem_cons.mpr ⟨tw_48, fun _ h => absurd h List.not_mem_nil⟩⟩
theorem tw_131 : (Jvm.Cond.laysFinal "CountyWatch$Rules" "CountyWatch$Rules" "days" "[I") ∈ lw_g := lw_c1 131 (by decide +kernel) (by decide +kernel)
theorem tw_133 : (Jvm.Cond.laysFinal "CountyWatch$Rules" "CountyWatch$Rules" "told" "[I") ∈ lw_g := lw_c1 133 (by decide +kernel) (by decide +kernel)
theorem tw_135 : (Jvm.Cond.laysFinal "CountyWatch$Rules" "CountyWatch$Rules" "lengths" "[I") ∈ lw_g := lw_c1 135 (by decide +kernel) (by decide +kernel)
theorem tw_137 : (Jvm.Cond.laysFinal "CountyWatch$Rules" "CountyWatch$Rules" "codes" "[I") ∈ lw_g := lw_c1 137 (by decide +kernel) (by decide +kernel)
theorem tw_139 : (Jvm.Cond.laysFinal "CountyWatch$Rules" "CountyWatch$Rules" "stack" "[I") ∈ lw_g := lw_c1 139 (by decide +kernel) (by decide +kernel)
theorem tw_141 : (Jvm.Cond.lays "CountyWatch$Rules" "CountyWatch$Rules" "rules" "I") ∈ lw_g := lw_c1 141 (by decide +kernel) (by decide +kernel)
set_option maxRecDepth 100000 in
theorem eX10 : u_ws RX10 TX10 6 = [(Jvm.Cond.laysFinal "CountyWatch$Rules" "CountyWatch$Rules" "days" "[I"), (Jvm.Cond.laysFinal "CountyWatch$Rules" "CountyWatch$Rules" "told" "[I"), (Jvm.Cond.laysFinal "CountyWatch$Rules" "CountyWatch$Rules" "lengths" "[I"), (Jvm.Cond.laysFinal "CountyWatch$Rules" "CountyWatch$Rules" "codes" "[I"), (Jvm.Cond.laysFinal "CountyWatch$Rules" "CountyWatch$Rules" "stack" "[I"), (Jvm.Cond.lays "CountyWatch$Rules" "CountyWatch$Rules" "rules" "I")] := by decide +kernel
theorem iX10 : ∀ w ∈ u_ws RX10 TX10 6, w ∈ lw_g := by
  rw [eX10]
  exact List.forall_mem_cons.mpr ⟨tw_131, List.forall_mem_cons.mpr ⟨tw_133, List.forall_mem_cons.mpr ⟨tw_135, List.forall_mem_cons.mpr ⟨tw_137, List.forall_mem_cons.mpr ⟨tw_139, List.forall_mem_cons.mpr ⟨tw_141, fun _ h => absurd h List.not_mem_nil⟩⟩⟩⟩⟩⟩
theorem tw_503 : (Jvm.Cond.lays "CountyWatch" "CountyWatch" "now" "I") ∈ lw_g := lw_c3 23 (by decide +kernel) (by decide +kernel)
theorem tw_505 : (Jvm.Cond.laysFinal "CountyWatch" "CountyWatch" "roads" "LCountyWatch$Roads;") ∈ lw_g := lw_c3 25 (by decide +kernel) (by decide +kernel)
theorem tw_507 : (Jvm.Cond.laysFinal "CountyWatch" "CountyWatch" "reader" "LCountyWatch$Reader;") ∈ lw_g := lw_c3 27 (by decide +kernel) (by decide +kernel)
theorem tw_509 : (Jvm.Cond.laysFinal "CountyWatch" "CountyWatch" "beats" "LCountyWatch$Beats;") ∈ lw_g := lw_c3 29 (by decide +kernel) (by decide +kernel)
theorem tw_511 : (Jvm.Cond.laysFinal "CountyWatch" "CountyWatch" "acts" "LCountyWatch$Rules;") ∈ lw_g := lw_c3 31 (by decide +kernel) (by decide +kernel)
theorem tw_513 : (Jvm.Cond.laysFinal "CountyWatch" "CountyWatch" "pays" "LCountyWatch$Rules;") ∈ lw_g := lw_c3 33 (by decide +kernel) (by decide +kernel)
theorem tw_515 : (Jvm.Cond.laysFinal "CountyWatch" "CountyWatch" "men" "[LCountyWatch$Constable;") ∈ lw_g := lw_c3 35 (by decide +kernel) (by decide +kernel)
theorem tw_517 : (Jvm.Cond.lays "CountyWatch" "CountyWatch" "manCount" "I") ∈ lw_g := lw_c3 37 (by decide +kernel) (by decide +kernel)
theorem tw_519 : (Jvm.Cond.laysFinal "CountyWatch" "CountyWatch" "points" "LCountyWatch$Points;") ∈ lw_g := lw_c3 39 (by decide +kernel) (by decide +kernel)
theorem tw_521 : (Jvm.Cond.laysFinal "CountyWatch" "CountyWatch" "looks" "LCountyWatch$Looks;") ∈ lw_g := lw_c3 41 (by decide +kernel) (by decide +kernel)
theorem tw_523 : (Jvm.Cond.laysFinal "CountyWatch" "CountyWatch" "cases" "LCountyWatch$Cases;") ∈ lw_g := lw_c3 43 (by decide +kernel) (by decide +kernel)
theorem tw_525 : (Jvm.Cond.laysFinal "CountyWatch" "CountyWatch" "goods" "LCountyWatch$Goods;") ∈ lw_g := lw_c3 45 (by decide +kernel) (by decide +kernel)
theorem tw_527 : (Jvm.Cond.laysFinal "CountyWatch" "CountyWatch" "plans" "LCountyWatch$Plans;") ∈ lw_g := lw_c3 47 (by decide +kernel) (by decide +kernel)
theorem tw_529 : (Jvm.Cond.laysFinal "CountyWatch" "CountyWatch" "payroll" "LCountyWatch$Payroll;") ∈ lw_g := lw_c3 49 (by decide +kernel) (by decide +kernel)
theorem tw_531 : (Jvm.Cond.lays "CountyWatch" "CountyWatch" "here" "J") ∈ lw_g := lw_c3 51 (by decide +kernel) (by decide +kernel)
theorem tw_533 : (Jvm.Cond.lays "CountyWatch" "CountyWatch" "history" "[J") ∈ lw_g := lw_c3 53 (by decide +kernel) (by decide +kernel)
set_option maxRecDepth 100000 in
theorem eX11 : u_ws RX11 TX11 16 = [(Jvm.Cond.lays "CountyWatch" "CountyWatch" "now" "I"), (Jvm.Cond.laysFinal "CountyWatch" "CountyWatch" "roads" "LCountyWatch$Roads;"), (Jvm.Cond.laysFinal "CountyWatch" "CountyWatch" "reader" "LCountyWatch$Reader;"), (Jvm.Cond.laysFinal "CountyWatch" "CountyWatch" "beats" "LCountyWatch$Beats;"), (Jvm.Cond.laysFinal "CountyWatch" "CountyWatch" "acts" "LCountyWatch$Rules;"), (Jvm.Cond.laysFinal "CountyWatch" "CountyWatch" "pays" "LCountyWatch$Rules;"), (Jvm.Cond.laysFinal "CountyWatch" "CountyWatch" "men" "[LCountyWatch$Constable;"), (Jvm.Cond.lays "CountyWatch" "CountyWatch" "manCount" "I"), (Jvm.Cond.laysFinal "CountyWatch" "CountyWatch" "points" "LCountyWatch$Points;"), (Jvm.Cond.laysFinal "CountyWatch" "CountyWatch" "looks" "LCountyWatch$Looks;"), (Jvm.Cond.laysFinal "CountyWatch" "CountyWatch" "cases" "LCountyWatch$Cases;"), (Jvm.Cond.laysFinal "CountyWatch" "CountyWatch" "goods" "LCountyWatch$Goods;"), (Jvm.Cond.laysFinal "CountyWatch" "CountyWatch" "plans" "LCountyWatch$Plans;"), (Jvm.Cond.laysFinal "CountyWatch" "CountyWatch" "payroll" "LCountyWatch$Payroll;"), (Jvm.Cond.lays "CountyWatch" "CountyWatch" "here" "J"), (Jvm.Cond.lays "CountyWatch" "CountyWatch" "history" "[J")] := by decide +kernel
theorem iX11 : ∀ w ∈ u_ws RX11 TX11 16, w ∈ lw_g := by
  rw [eX11]
  exact List.forall_mem_cons.mpr ⟨tw_503, List.forall_mem_cons.mpr ⟨tw_505, List.forall_mem_cons.mpr ⟨tw_507, List.forall_mem_cons.mpr ⟨tw_509, List.forall_mem_cons.mpr ⟨tw_511, List.forall_mem_cons.mpr ⟨tw_513, List.forall_mem_cons.mpr ⟨tw_515, List.forall_mem_cons.mpr ⟨tw_517, List.forall_mem_cons.mpr ⟨tw_519, List.forall_mem_cons.mpr ⟨tw_521, List.forall_mem_cons.mpr ⟨tw_523, List.forall_mem_cons.mpr ⟨tw_525, List.forall_mem_cons.mpr ⟨tw_527, List.forall_mem_cons.mpr ⟨tw_529, List.forall_mem_cons.mpr ⟨tw_531, List.forall_mem_cons.mpr ⟨tw_533, fun _ h => absurd h List.not_mem_nil⟩⟩⟩⟩⟩⟩⟩⟩⟩⟩⟩⟩⟩⟩⟩⟩
theorem tw_1873 : (Jvm.Cond.lays "CountyWatchModel" "CountyWatchModel" "now" "I") ∈ lw_g := lw_c8 193 (by decide +kernel) (by decide +kernel)
theorem tw_1875 : (Jvm.Cond.lays "CountyWatchModel" "CountyWatchModel" "thrown" "I") ∈ lw_g := lw_c8 195 (by decide +kernel) (by decide +kernel)
theorem tw_1877 : (Jvm.Cond.laysFinal "CountyWatchModel" "CountyWatchModel" "pathOne" "[I") ∈ lw_g := lw_c8 197 (by decide +kernel) (by decide +kernel)
theorem tw_1879 : (Jvm.Cond.laysFinal "CountyWatchModel" "CountyWatchModel" "pathOther" "[I") ∈ lw_g := lw_c8 199 (by decide +kernel) (by decide +kernel)
theorem tw_1881 : (Jvm.Cond.laysFinal "CountyWatchModel" "CountyWatchModel" "pathLong" "[I") ∈ lw_g := lw_c8 201 (by decide +kernel) (by decide +kernel)
theorem tw_1883 : (Jvm.Cond.laysFinal "CountyWatchModel" "CountyWatchModel" "far" "[I") ∈ lw_g := lw_c8 203 (by decide +kernel) (by decide +kernel)
theorem tw_1885 : (Jvm.Cond.lays "CountyWatchModel" "CountyWatchModel" "paths" "I") ∈ lw_g := lw_c8 205 (by decide +kernel) (by decide +kernel)
theorem tw_1887 : (Jvm.Cond.lays "CountyWatchModel" "CountyWatchModel" "men" "I") ∈ lw_g := lw_c8 207 (by decide +kernel) (by decide +kernel)
theorem tw_1889 : (Jvm.Cond.laysFinal "CountyWatchModel" "CountyWatchModel" "rankFirst" "[I") ∈ lw_g := lw_c8 209 (by decide +kernel) (by decide +kernel)
theorem tw_1891 : (Jvm.Cond.laysFinal "CountyWatchModel" "CountyWatchModel" "years" "[I") ∈ lw_g := lw_c8 211 (by decide +kernel) (by decide +kernel)
theorem tw_1893 : (Jvm.Cond.laysFinal "CountyWatchModel" "CountyWatchModel" "home" "[I") ∈ lw_g := lw_c8 213 (by decide +kernel) (by decide +kernel)
theorem tw_1895 : (Jvm.Cond.laysFinal "CountyWatchModel" "CountyWatchModel" "toldAt" "[I") ∈ lw_g := lw_c8 215 (by decide +kernel) (by decide +kernel)
theorem tw_1897 : (Jvm.Cond.laysFinal "CountyWatchModel" "CountyWatchModel" "doing" "[I") ∈ lw_g := lw_c8 217 (by decide +kernel) (by decide +kernel)
theorem tw_1899 : (Jvm.Cond.laysFinal "CountyWatchModel" "CountyWatchModel" "place" "[I") ∈ lw_g := lw_c8 219 (by decide +kernel) (by decide +kernel)
theorem tw_1901 : (Jvm.Cond.laysFinal "CountyWatchModel" "CountyWatchModel" "goal" "[I") ∈ lw_g := lw_c8 221 (by decide +kernel) (by decide +kernel)
theorem tw_1903 : (Jvm.Cond.laysFinal "CountyWatchModel" "CountyWatchModel" "till" "[I") ∈ lw_g := lw_c8 223 (by decide +kernel) (by decide +kernel)
theorem tw_1905 : (Jvm.Cond.laysFinal "CountyWatchModel" "CountyWatchModel" "beatOf" "[I") ∈ lw_g := lw_c8 225 (by decide +kernel) (by decide +kernel)
theorem tw_1907 : (Jvm.Cond.laysFinal "CountyWatchModel" "CountyWatchModel" "stepOf" "[I") ∈ lw_g := lw_c8 227 (by decide +kernel) (by decide +kernel)
theorem tw_1909 : (Jvm.Cond.laysFinal "CountyWatchModel" "CountyWatchModel" "began" "[I") ∈ lw_g := lw_c8 229 (by decide +kernel) (by decide +kernel)
theorem tw_1911 : (Jvm.Cond.laysFinal "CountyWatchModel" "CountyWatchModel" "rowOf" "[I") ∈ lw_g := lw_c8 231 (by decide +kernel) (by decide +kernel)
theorem tw_1913 : (Jvm.Cond.laysFinal "CountyWatchModel" "CountyWatchModel" "rowNext" "[I") ∈ lw_g := lw_c8 233 (by decide +kernel) (by decide +kernel)
theorem tw_1915 : (Jvm.Cond.laysFinal "CountyWatchModel" "CountyWatchModel" "rowEnd" "[I") ∈ lw_g := lw_c8 235 (by decide +kernel) (by decide +kernel)
theorem tw_1917 : (Jvm.Cond.laysFinal "CountyWatchModel" "CountyWatchModel" "drawnTo" "[I") ∈ lw_g := lw_c8 237 (by decide +kernel) (by decide +kernel)
theorem tw_1919 : (Jvm.Cond.laysFinal "CountyWatchModel" "CountyWatchModel" "drawnTill" "[I") ∈ lw_g := lw_c8 239 (by decide +kernel) (by decide +kernel)
theorem tw_1921 : (Jvm.Cond.laysFinal "CountyWatchModel" "CountyWatchModel" "history" "[B") ∈ lw_g := lw_c9 1 (by decide +kernel) (by decide +kernel)
theorem tw_1923 : (Jvm.Cond.laysFinal "CountyWatchModel" "CountyWatchModel" "classOf" "[I") ∈ lw_g := lw_c9 3 (by decide +kernel) (by decide +kernel)
theorem tw_1925 : (Jvm.Cond.laysFinal "CountyWatchModel" "CountyWatchModel" "classTo" "[I") ∈ lw_g := lw_c9 5 (by decide +kernel) (by decide +kernel)
theorem tw_1927 : (Jvm.Cond.laysFinal "CountyWatchModel" "CountyWatchModel" "classDay" "[I") ∈ lw_g := lw_c9 7 (by decide +kernel) (by decide +kernel)
theorem tw_1929 : (Jvm.Cond.laysFinal "CountyWatchModel" "CountyWatchModel" "classTold" "[I") ∈ lw_g := lw_c9 9 (by decide +kernel) (by decide +kernel)
theorem tw_1931 : (Jvm.Cond.lays "CountyWatchModel" "CountyWatchModel" "classes" "I") ∈ lw_g := lw_c9 11 (by decide +kernel) (by decide +kernel)
theorem tw_1933 : (Jvm.Cond.laysFinal "CountyWatchModel" "CountyWatchModel" "tape" "[I") ∈ lw_g := lw_c9 13 (by decide +kernel) (by decide +kernel)
theorem tw_1935 : (Jvm.Cond.laysFinal "CountyWatchModel" "CountyWatchModel" "saying" "[I") ∈ lw_g := lw_c9 15 (by decide +kernel) (by decide +kernel)
theorem tw_1937 : (Jvm.Cond.lays "CountyWatchModel" "CountyWatchModel" "size" "I") ∈ lw_g := lw_c9 17 (by decide +kernel) (by decide +kernel)
theorem tw_1939 : (Jvm.Cond.lays "CountyWatchModel" "CountyWatchModel" "at" "I") ∈ lw_g := lw_c9 19 (by decide +kernel) (by decide +kernel)
theorem tw_1941 : (Jvm.Cond.lays "CountyWatchModel" "CountyWatchModel" "wrong" "I") ∈ lw_g := lw_c9 21 (by decide +kernel) (by decide +kernel)
theorem tw_1943 : (Jvm.Cond.lays "CountyWatchModel" "CountyWatchModel" "deep" "I") ∈ lw_g := lw_c9 23 (by decide +kernel) (by decide +kernel)
theorem tw_1945 : (Jvm.Cond.lays "CountyWatchModel" "CountyWatchModel" "said" "I") ∈ lw_g := lw_c9 25 (by decide +kernel) (by decide +kernel)
theorem tw_1947 : (Jvm.Cond.lays "CountyWatchModel" "CountyWatchModel" "sort" "I") ∈ lw_g := lw_c9 27 (by decide +kernel) (by decide +kernel)
theorem tw_1949 : (Jvm.Cond.laysFinal "CountyWatchModel" "CountyWatchModel" "beatSize" "[I") ∈ lw_g := lw_c9 29 (by decide +kernel) (by decide +kernel)
theorem tw_1951 : (Jvm.Cond.laysFinal "CountyWatchModel" "CountyWatchModel" "stepWhat" "[I") ∈ lw_g := lw_c9 31 (by decide +kernel) (by decide +kernel)
theorem tw_1953 : (Jvm.Cond.laysFinal "CountyWatchModel" "CountyWatchModel" "stepA" "[I") ∈ lw_g := lw_c9 33 (by decide +kernel) (by decide +kernel)
theorem tw_1955 : (Jvm.Cond.laysFinal "CountyWatchModel" "CountyWatchModel" "stepB" "[I") ∈ lw_g := lw_c9 35 (by decide +kernel) (by decide +kernel)
theorem tw_1957 : (Jvm.Cond.lays "CountyWatchModel" "CountyWatchModel" "beats" "I") ∈ lw_g := lw_c9 37 (by decide +kernel) (by decide +kernel)
theorem tw_1959 : (Jvm.Cond.lays "CountyWatchModel" "CountyWatchModel" "unfolded" "I") ∈ lw_g := lw_c9 39 (by decide +kernel) (by decide +kernel)
theorem tw_1961 : (Jvm.Cond.lays "CountyWatchModel" "CountyWatchModel" "next" "I") ∈ lw_g := lw_c9 41 (by decide +kernel) (by decide +kernel)
theorem tw_1963 : (Jvm.Cond.laysFinal "CountyWatchModel" "CountyWatchModel" "codes" "[I") ∈ lw_g := lw_c9 43 (by decide +kernel) (by decide +kernel)
theorem tw_1965 : (Jvm.Cond.laysFinal "CountyWatchModel" "CountyWatchModel" "textSize" "[I") ∈ lw_g := lw_c9 45 (by decide +kernel) (by decide +kernel)
theorem tw_1967 : (Jvm.Cond.laysFinal "CountyWatchModel" "CountyWatchModel" "textDay" "[I") ∈ lw_g := lw_c9 47 (by decide +kernel) (by decide +kernel)
theorem tw_1969 : (Jvm.Cond.laysFinal "CountyWatchModel" "CountyWatchModel" "textTold" "[I") ∈ lw_g := lw_c9 49 (by decide +kernel) (by decide +kernel)
theorem tw_1971 : (Jvm.Cond.laysFinal "CountyWatchModel" "CountyWatchModel" "texts" "[I") ∈ lw_g := lw_c9 51 (by decide +kernel) (by decide +kernel)
theorem tw_1973 : (Jvm.Cond.laysFinal "CountyWatchModel" "CountyWatchModel" "letters" "[I") ∈ lw_g := lw_c9 53 (by decide +kernel) (by decide +kernel)
theorem tw_1975 : (Jvm.Cond.laysFinal "CountyWatchModel" "CountyWatchModel" "pile" "[I") ∈ lw_g := lw_c9 55 (by decide +kernel) (by decide +kernel)
theorem tw_1977 : (Jvm.Cond.lays "CountyWatchModel" "CountyWatchModel" "reading" "I") ∈ lw_g := lw_c9 57 (by decide +kernel) (by decide +kernel)
theorem tw_1979 : (Jvm.Cond.laysFinal "CountyWatchModel" "CountyWatchModel" "rowMan" "[I") ∈ lw_g := lw_c9 59 (by decide +kernel) (by decide +kernel)
theorem tw_1981 : (Jvm.Cond.laysFinal "CountyWatchModel" "CountyWatchModel" "rowPlace" "[I") ∈ lw_g := lw_c9 61 (by decide +kernel) (by decide +kernel)
theorem tw_1983 : (Jvm.Cond.laysFinal "CountyWatchModel" "CountyWatchModel" "rowDue" "[I") ∈ lw_g := lw_c9 63 (by decide +kernel) (by decide +kernel)
theorem tw_1985 : (Jvm.Cond.laysFinal "CountyWatchModel" "CountyWatchModel" "rowMet" "[I") ∈ lw_g := lw_c9 65 (by decide +kernel) (by decide +kernel)
theorem tw_1987 : (Jvm.Cond.laysFinal "CountyWatchModel" "CountyWatchModel" "rowMissed" "[I") ∈ lw_g := lw_c9 67 (by decide +kernel) (by decide +kernel)
theorem tw_1989 : (Jvm.Cond.laysFinal "CountyWatchModel" "CountyWatchModel" "rowCause" "[I") ∈ lw_g := lw_c9 69 (by decide +kernel) (by decide +kernel)
theorem tw_1991 : (Jvm.Cond.laysFinal "CountyWatchModel" "CountyWatchModel" "rowBegan" "[I") ∈ lw_g := lw_c9 71 (by decide +kernel) (by decide +kernel)
theorem tw_1993 : (Jvm.Cond.laysFinal "CountyWatchModel" "CountyWatchModel" "causeRow" "[I") ∈ lw_g := lw_c9 73 (by decide +kernel) (by decide +kernel)
theorem tw_1995 : (Jvm.Cond.laysFinal "CountyWatchModel" "CountyWatchModel" "causeTo" "[I") ∈ lw_g := lw_c9 75 (by decide +kernel) (by decide +kernel)
theorem tw_1997 : (Jvm.Cond.laysFinal "CountyWatchModel" "CountyWatchModel" "causeTold" "[I") ∈ lw_g := lw_c9 77 (by decide +kernel) (by decide +kernel)
theorem tw_1999 : (Jvm.Cond.lays "CountyWatchModel" "CountyWatchModel" "rows" "I") ∈ lw_g := lw_c9 79 (by decide +kernel) (by decide +kernel)
theorem tw_2001 : (Jvm.Cond.lays "CountyWatchModel" "CountyWatchModel" "causings" "I") ∈ lw_g := lw_c9 81 (by decide +kernel) (by decide +kernel)
theorem tw_2003 : (Jvm.Cond.laysFinal "CountyWatchModel" "CountyWatchModel" "arrives" "[Z") ∈ lw_g := lw_c9 83 (by decide +kernel) (by decide +kernel)
theorem tw_2005 : (Jvm.Cond.laysFinal "CountyWatchModel" "CountyWatchModel" "findKind" "[I") ∈ lw_g := lw_c9 85 (by decide +kernel) (by decide +kernel)
theorem tw_2007 : (Jvm.Cond.laysFinal "CountyWatchModel" "CountyWatchModel" "findPlace" "[I") ∈ lw_g := lw_c9 87 (by decide +kernel) (by decide +kernel)
theorem tw_2009 : (Jvm.Cond.laysFinal "CountyWatchModel" "CountyWatchModel" "findFrom" "[I") ∈ lw_g := lw_c9 89 (by decide +kernel) (by decide +kernel)
theorem tw_2011 : (Jvm.Cond.laysFinal "CountyWatchModel" "CountyWatchModel" "findTo" "[I") ∈ lw_g := lw_c9 91 (by decide +kernel) (by decide +kernel)
theorem tw_2013 : (Jvm.Cond.laysFinal "CountyWatchModel" "CountyWatchModel" "findWeight" "[I") ∈ lw_g := lw_c9 93 (by decide +kernel) (by decide +kernel)
theorem tw_2015 : (Jvm.Cond.laysFinal "CountyWatchModel" "CountyWatchModel" "taken" "[Z") ∈ lw_g := lw_c9 95 (by decide +kernel) (by decide +kernel)
theorem tw_2017 : (Jvm.Cond.laysFinal "CountyWatchModel" "CountyWatchModel" "seenBy" "[I") ∈ lw_g := lw_c9 97 (by decide +kernel) (by decide +kernel)
theorem tw_2019 : (Jvm.Cond.laysFinal "CountyWatchModel" "CountyWatchModel" "seenWhat" "[I") ∈ lw_g := lw_c9 99 (by decide +kernel) (by decide +kernel)
theorem tw_2021 : (Jvm.Cond.laysFinal "CountyWatchModel" "CountyWatchModel" "seenAt" "[I") ∈ lw_g := lw_c9 101 (by decide +kernel) (by decide +kernel)
theorem tw_2023 : (Jvm.Cond.laysFinal "CountyWatchModel" "CountyWatchModel" "done" "[I") ∈ lw_g := lw_c9 103 (by decide +kernel) (by decide +kernel)
theorem tw_2025 : (Jvm.Cond.laysFinal "CountyWatchModel" "CountyWatchModel" "caseFor" "[I") ∈ lw_g := lw_c9 105 (by decide +kernel) (by decide +kernel)
theorem tw_2027 : (Jvm.Cond.laysFinal "CountyWatchModel" "CountyWatchModel" "known" "[I") ∈ lw_g := lw_c9 107 (by decide +kernel) (by decide +kernel)
theorem tw_2029 : (Jvm.Cond.laysFinal "CountyWatchModel" "CountyWatchModel" "seenLetters" "[I") ∈ lw_g := lw_c9 109 (by decide +kernel) (by decide +kernel)
theorem tw_2031 : (Jvm.Cond.lays "CountyWatchModel" "CountyWatchModel" "finds" "I") ∈ lw_g := lw_c9 111 (by decide +kernel) (by decide +kernel)
theorem tw_2033 : (Jvm.Cond.lays "CountyWatchModel" "CountyWatchModel" "sightings" "I") ∈ lw_g := lw_c9 113 (by decide +kernel) (by decide +kernel)
theorem tw_2035 : (Jvm.Cond.laysFinal "CountyWatchModel" "CountyWatchModel" "caseKind" "[I") ∈ lw_g := lw_c9 115 (by decide +kernel) (by decide +kernel)
theorem tw_2037 : (Jvm.Cond.laysFinal "CountyWatchModel" "CountyWatchModel" "caseAt" "[I") ∈ lw_g := lw_c9 117 (by decide +kernel) (by decide +kernel)
theorem tw_2039 : (Jvm.Cond.laysFinal "CountyWatchModel" "CountyWatchModel" "needs" "[I") ∈ lw_g := lw_c9 119 (by decide +kernel) (by decide +kernel)
theorem tw_2041 : (Jvm.Cond.laysFinal "CountyWatchModel" "CountyWatchModel" "wants" "[I") ∈ lw_g := lw_c9 121 (by decide +kernel) (by decide +kernel)
theorem tw_2043 : (Jvm.Cond.laysFinal "CountyWatchModel" "CountyWatchModel" "sayCase" "[I") ∈ lw_g := lw_c9 123 (by decide +kernel) (by decide +kernel)
theorem tw_2045 : (Jvm.Cond.laysFinal "CountyWatchModel" "CountyWatchModel" "sayFact" "[I") ∈ lw_g := lw_c9 125 (by decide +kernel) (by decide +kernel)
theorem tw_2047 : (Jvm.Cond.laysFinal "CountyWatchModel" "CountyWatchModel" "sayBy" "[I") ∈ lw_g := lw_c9 127 (by decide +kernel) (by decide +kernel)
theorem tw_2049 : (Jvm.Cond.laysFinal "CountyWatchModel" "CountyWatchModel" "sayTold" "[I") ∈ lw_g := lw_c9 129 (by decide +kernel) (by decide +kernel)
theorem tw_2051 : (Jvm.Cond.laysFinal "CountyWatchModel" "CountyWatchModel" "sayYes" "[Z") ∈ lw_g := lw_c9 131 (by decide +kernel) (by decide +kernel)
theorem tw_2053 : (Jvm.Cond.laysFinal "CountyWatchModel" "CountyWatchModel" "gone" "[I") ∈ lw_g := lw_c9 133 (by decide +kernel) (by decide +kernel)
theorem tw_2055 : (Jvm.Cond.laysFinal "CountyWatchModel" "CountyWatchModel" "isGone" "[Z") ∈ lw_g := lw_c9 135 (by decide +kernel) (by decide +kernel)
theorem tw_2057 : (Jvm.Cond.laysFinal "CountyWatchModel" "CountyWatchModel" "storySo" "[I") ∈ lw_g := lw_c9 137 (by decide +kernel) (by decide +kernel)
theorem tw_2059 : (Jvm.Cond.laysFinal "CountyWatchModel" "CountyWatchModel" "storyNot" "[I") ∈ lw_g := lw_c9 139 (by decide +kernel) (by decide +kernel)
theorem tw_2061 : (Jvm.Cond.laysFinal "CountyWatchModel" "CountyWatchModel" "storyTold" "[I") ∈ lw_g := lw_c9 141 (by decide +kernel) (by decide +kernel)
theorem tw_2063 : (Jvm.Cond.laysFinal "CountyWatchModel" "CountyWatchModel" "stories" "[I") ∈ lw_g := lw_c9 143 (by decide +kernel) (by decide +kernel)
theorem tw_2065 : (Jvm.Cond.lays "CountyWatchModel" "CountyWatchModel" "cases" "I") ∈ lw_g := lw_c9 145 (by decide +kernel) (by decide +kernel)
theorem tw_2067 : (Jvm.Cond.lays "CountyWatchModel" "CountyWatchModel" "statements" "I") ∈ lw_g := lw_c9 147 (by decide +kernel) (by decide +kernel)
theorem tw_2069 : (Jvm.Cond.laysFinal "CountyWatchModel" "CountyWatchModel" "had" "[I") ∈ lw_g := lw_c9 149 (by decide +kernel) (by decide +kernel)
theorem tw_2071 : (Jvm.Cond.laysFinal "CountyWatchModel" "CountyWatchModel" "lostMarks" "[I") ∈ lw_g := lw_c9 151 (by decide +kernel) (by decide +kernel)
theorem tw_2073 : (Jvm.Cond.laysFinal "CountyWatchModel" "CountyWatchModel" "foundMarks" "[I") ∈ lw_g := lw_c9 153 (by decide +kernel) (by decide +kernel)
theorem tw_2075 : (Jvm.Cond.lays "CountyWatchModel" "CountyWatchModel" "lostMany" "I") ∈ lw_g := lw_c9 155 (by decide +kernel) (by decide +kernel)
theorem tw_2077 : (Jvm.Cond.lays "CountyWatchModel" "CountyWatchModel" "foundMany" "I") ∈ lw_g := lw_c9 157 (by decide +kernel) (by decide +kernel)
theorem tw_2079 : (Jvm.Cond.lays "CountyWatchModel" "CountyWatchModel" "leastLike" "I") ∈ lw_g := lw_c9 159 (by decide +kernel) (by decide +kernel)
theorem tw_2081 : (Jvm.Cond.laysFinal "CountyWatchModel" "CountyWatchModel" "most" "[I") ∈ lw_g := lw_c9 161 (by decide +kernel) (by decide +kernel)
theorem tw_2083 : (Jvm.Cond.laysFinal "CountyWatchModel" "CountyWatchModel" "watchPlace" "[I") ∈ lw_g := lw_c9 163 (by decide +kernel) (by decide +kernel)
theorem tw_2085 : (Jvm.Cond.laysFinal "CountyWatchModel" "CountyWatchModel" "watchFrom" "[I") ∈ lw_g := lw_c9 165 (by decide +kernel) (by decide +kernel)
theorem tw_2087 : (Jvm.Cond.laysFinal "CountyWatchModel" "CountyWatchModel" "watchTo" "[I") ∈ lw_g := lw_c9 167 (by decide +kernel) (by decide +kernel)
theorem tw_2089 : (Jvm.Cond.lays "CountyWatchModel" "CountyWatchModel" "watches" "I") ∈ lw_g := lw_c9 169 (by decide +kernel) (by decide +kernel)
theorem tw_2091 : (Jvm.Cond.laysFinal "CountyWatchModel" "CountyWatchModel" "chosen" "[I") ∈ lw_g := lw_c9 171 (by decide +kernel) (by decide +kernel)
theorem tw_2093 : (Jvm.Cond.laysFinal "CountyWatchModel" "CountyWatchModel" "parts" "[I") ∈ lw_g := lw_c9 173 (by decide +kernel) (by decide +kernel)
theorem tw_2095 : (Jvm.Cond.laysFinal "CountyWatchModel" "CountyWatchModel" "bestParts" "[I") ∈ lw_g := lw_c9 175 (by decide +kernel) (by decide +kernel)
theorem tw_2097 : (Jvm.Cond.laysFinal "CountyWatchModel" "CountyWatchModel" "seenBits" "[I") ∈ lw_g := lw_c9 177 (by decide +kernel) (by decide +kernel)
theorem tw_2099 : (Jvm.Cond.lays "CountyWatchModel" "CountyWatchModel" "chosenMany" "I") ∈ lw_g := lw_c9 179 (by decide +kernel) (by decide +kernel)
theorem tw_2101 : (Jvm.Cond.lays "CountyWatchModel" "CountyWatchModel" "bestSafe" "I") ∈ lw_g := lw_c9 181 (by decide +kernel) (by decide +kernel)
theorem tw_2103 : (Jvm.Cond.lays "CountyWatchModel" "CountyWatchModel" "bestSum" "I") ∈ lw_g := lw_c9 183 (by decide +kernel) (by decide +kernel)
theorem tw_2105 : (Jvm.Cond.laysFinal "CountyWatchModel" "CountyWatchModel" "fairPlace" "[I") ∈ lw_g := lw_c9 185 (by decide +kernel) (by decide +kernel)
theorem tw_2107 : (Jvm.Cond.laysFinal "CountyWatchModel" "CountyWatchModel" "fairAt" "[I") ∈ lw_g := lw_c9 187 (by decide +kernel) (by decide +kernel)
theorem tw_2109 : (Jvm.Cond.laysFinal "CountyWatchModel" "CountyWatchModel" "fairWants" "[I") ∈ lw_g := lw_c9 189 (by decide +kernel) (by decide +kernel)
theorem tw_2111 : (Jvm.Cond.lays "CountyWatchModel" "CountyWatchModel" "fairMany" "I") ∈ lw_g := lw_c9 191 (by decide +kernel) (by decide +kernel)
theorem tw_2113 : (Jvm.Cond.laysFinal "CountyWatchModel" "CountyWatchModel" "least1" "[I") ∈ lw_g := lw_c9 193 (by decide +kernel) (by decide +kernel)
theorem tw_2115 : (Jvm.Cond.laysFinal "CountyWatchModel" "CountyWatchModel" "costs" "[I") ∈ lw_g := lw_c9 195 (by decide +kernel) (by decide +kernel)
theorem tw_2117 : (Jvm.Cond.laysFinal "CountyWatchModel" "CountyWatchModel" "booked" "[I") ∈ lw_g := lw_c9 197 (by decide +kernel) (by decide +kernel)
theorem tw_2119 : (Jvm.Cond.laysFinal "CountyWatchModel" "CountyWatchModel" "lineMan" "[I") ∈ lw_g := lw_c9 199 (by decide +kernel) (by decide +kernel)
theorem tw_2121 : (Jvm.Cond.laysFinal "CountyWatchModel" "CountyWatchModel" "lineDay" "[I") ∈ lw_g := lw_c9 201 (by decide +kernel) (by decide +kernel)
theorem tw_2123 : (Jvm.Cond.laysFinal "CountyWatchModel" "CountyWatchModel" "lineCoins" "[I") ∈ lw_g := lw_c9 203 (by decide +kernel) (by decide +kernel)
theorem tw_2125 : (Jvm.Cond.laysFinal "CountyWatchModel" "CountyWatchModel" "lineAt" "[I") ∈ lw_g := lw_c9 205 (by decide +kernel) (by decide +kernel)
theorem tw_2127 : (Jvm.Cond.lays "CountyWatchModel" "CountyWatchModel" "lines" "I") ∈ lw_g := lw_c9 207 (by decide +kernel) (by decide +kernel)
theorem tw_2129 : (Jvm.Cond.laysFinal "CountyWatchModel" "CountyWatchModel" "marks" "[I") ∈ lw_g := lw_c9 209 (by decide +kernel) (by decide +kernel)
theorem tw_2131 : (Jvm.Cond.laysFinal "CountyWatchModel" "CountyWatchModel" "marked" "[Z") ∈ lw_g := lw_c9 211 (by decide +kernel) (by decide +kernel)
theorem tw_2133 : (Jvm.Cond.lays "CountyWatchModel" "CountyWatchModel" "least3" "I") ∈ lw_g := lw_c9 213 (by decide +kernel) (by decide +kernel)
set_option maxRecDepth 100000 in
theorem eX12 : u_ws RX12 TX12 131 = [(Jvm.Cond.lays "CountyWatchModel" "CountyWatchModel" "now" "I"), (Jvm.Cond.lays "CountyWatchModel" "CountyWatchModel" "thrown" "I"), (Jvm.Cond.laysFinal "CountyWatchModel" "CountyWatchModel" "pathOne" "[I"), (Jvm.Cond.laysFinal "CountyWatchModel" "CountyWatchModel" "pathOther" "[I"), (Jvm.Cond.laysFinal "CountyWatchModel" "CountyWatchModel" "pathLong" "[I"), (Jvm.Cond.laysFinal "CountyWatchModel" "CountyWatchModel" "far" "[I"), (Jvm.Cond.lays "CountyWatchModel" "CountyWatchModel" "paths" "I"), (Jvm.Cond.lays "CountyWatchModel" "CountyWatchModel" "men" "I"), (Jvm.Cond.laysFinal "CountyWatchModel" "CountyWatchModel" "rankFirst" "[I"), (Jvm.Cond.laysFinal "CountyWatchModel" "CountyWatchModel" "years" "[I"), (Jvm.Cond.laysFinal "CountyWatchModel" "CountyWatchModel" "home" "[I"), (Jvm.Cond.laysFinal "CountyWatchModel" "CountyWatchModel" "toldAt" "[I"), (Jvm.Cond.laysFinal "CountyWatchModel" "CountyWatchModel" "doing" "[I"), (Jvm.Cond.laysFinal "CountyWatchModel" "CountyWatchModel" "place" "[I"), (Jvm.Cond.laysFinal "CountyWatchModel" "CountyWatchModel" "goal" "[I"), (Jvm.Cond.laysFinal "CountyWatchModel" "CountyWatchModel" "till" "[I"), (Jvm.Cond.laysFinal "CountyWatchModel" "CountyWatchModel" "beatOf" "[I"), (Jvm.Cond.laysFinal "CountyWatchModel" "CountyWatchModel" "stepOf" "[I"), (Jvm.Cond.laysFinal "CountyWatchModel" "CountyWatchModel" "began" "[I"), (Jvm.Cond.laysFinal "CountyWatchModel" "CountyWatchModel" "rowOf" "[I"), (Jvm.Cond.laysFinal "CountyWatchModel" "CountyWatchModel" "rowNext" "[I"), (Jvm.Cond.laysFinal "CountyWatchModel" "CountyWatchModel" "rowEnd" "[I"), (Jvm.Cond.laysFinal "CountyWatchModel" "CountyWatchModel" "drawnTo" "[I"), (Jvm.Cond.laysFinal "CountyWatchModel" "CountyWatchModel" "drawnTill" "[I"), (Jvm.Cond.laysFinal "CountyWatchModel" "CountyWatchModel" "history" "[B"), (Jvm.Cond.laysFinal "CountyWatchModel" "CountyWatchModel" "classOf" "[I"), (Jvm.Cond.laysFinal "CountyWatchModel" "CountyWatchModel" "classTo" "[I"), (Jvm.Cond.laysFinal "CountyWatchModel" "CountyWatchModel" "classDay" "[I"), (Jvm.Cond.laysFinal "CountyWatchModel" "CountyWatchModel" "classTold" "[I"), (Jvm.Cond.lays "CountyWatchModel" "CountyWatchModel" "classes" "I"), (Jvm.Cond.laysFinal "CountyWatchModel" "CountyWatchModel" "tape" "[I"), (Jvm.Cond.laysFinal "CountyWatchModel" "CountyWatchModel" "saying" "[I"), (Jvm.Cond.lays "CountyWatchModel" "CountyWatchModel" "size" "I"), (Jvm.Cond.lays "CountyWatchModel" "CountyWatchModel" "at" "I"), (Jvm.Cond.lays "CountyWatchModel" "CountyWatchModel" "wrong" "I"), (Jvm.Cond.lays "CountyWatchModel" "CountyWatchModel" "deep" "I"), (Jvm.Cond.lays "CountyWatchModel" "CountyWatchModel" "said" "I"), (Jvm.Cond.lays "CountyWatchModel" "CountyWatchModel" "sort" "I"), (Jvm.Cond.laysFinal "CountyWatchModel" "CountyWatchModel" "beatSize" "[I"), (Jvm.Cond.laysFinal "CountyWatchModel" "CountyWatchModel" "stepWhat" "[I"), (Jvm.Cond.laysFinal "CountyWatchModel" "CountyWatchModel" "stepA" "[I"), (Jvm.Cond.laysFinal "CountyWatchModel" "CountyWatchModel" "stepB" "[I"), (Jvm.Cond.lays "CountyWatchModel" "CountyWatchModel" "beats" "I"), (Jvm.Cond.lays "CountyWatchModel" "CountyWatchModel" "unfolded" "I"), (Jvm.Cond.lays "CountyWatchModel" "CountyWatchModel" "next" "I"), (Jvm.Cond.laysFinal "CountyWatchModel" "CountyWatchModel" "codes" "[I"), (Jvm.Cond.laysFinal "CountyWatchModel" "CountyWatchModel" "textSize" "[I"), (Jvm.Cond.laysFinal "CountyWatchModel" "CountyWatchModel" "textDay" "[I"), (Jvm.Cond.laysFinal "CountyWatchModel" "CountyWatchModel" "textTold" "[I"), (Jvm.Cond.laysFinal "CountyWatchModel" "CountyWatchModel" "texts" "[I"), (Jvm.Cond.laysFinal "CountyWatchModel" "CountyWatchModel" "letters" "[I"), (Jvm.Cond.laysFinal "CountyWatchModel" "CountyWatchModel" "pile" "[I"), (Jvm.Cond.lays "CountyWatchModel" "CountyWatchModel" "reading" "I"), (Jvm.Cond.laysFinal "CountyWatchModel" "CountyWatchModel" "rowMan" "[I"), (Jvm.Cond.laysFinal "CountyWatchModel" "CountyWatchModel" "rowPlace" "[I"), (Jvm.Cond.laysFinal "CountyWatchModel" "CountyWatchModel" "rowDue" "[I"), (Jvm.Cond.laysFinal "CountyWatchModel" "CountyWatchModel" "rowMet" "[I"), (Jvm.Cond.laysFinal "CountyWatchModel" "CountyWatchModel" "rowMissed" "[I"), (Jvm.Cond.laysFinal "CountyWatchModel" "CountyWatchModel" "rowCause" "[I"), (Jvm.Cond.laysFinal "CountyWatchModel" "CountyWatchModel" "rowBegan" "[I"), (Jvm.Cond.laysFinal "CountyWatchModel" "CountyWatchModel" "causeRow" "[I"), (Jvm.Cond.laysFinal "CountyWatchModel" "CountyWatchModel" "causeTo" "[I"), (Jvm.Cond.laysFinal "CountyWatchModel" "CountyWatchModel" "causeTold" "[I"), (Jvm.Cond.lays "CountyWatchModel" "CountyWatchModel" "rows" "I"), (Jvm.Cond.lays "CountyWatchModel" "CountyWatchModel" "causings" "I"), (Jvm.Cond.laysFinal "CountyWatchModel" "CountyWatchModel" "arrives" "[Z"), (Jvm.Cond.laysFinal "CountyWatchModel" "CountyWatchModel" "findKind" "[I"), (Jvm.Cond.laysFinal "CountyWatchModel" "CountyWatchModel" "findPlace" "[I"), (Jvm.Cond.laysFinal "CountyWatchModel" "CountyWatchModel" "findFrom" "[I"), (Jvm.Cond.laysFinal "CountyWatchModel" "CountyWatchModel" "findTo" "[I"), (Jvm.Cond.laysFinal "CountyWatchModel" "CountyWatchModel" "findWeight" "[I"), (Jvm.Cond.laysFinal "CountyWatchModel" "CountyWatchModel" "taken" "[Z"), (Jvm.Cond.laysFinal "CountyWatchModel" "CountyWatchModel" "seenBy" "[I"), (Jvm.Cond.laysFinal "CountyWatchModel" "CountyWatchModel" "seenWhat" "[I"), (Jvm.Cond.laysFinal "CountyWatchModel" "CountyWatchModel" "seenAt" "[I"), (Jvm.Cond.laysFinal "CountyWatchModel" "CountyWatchModel" "done" "[I"), (Jvm.Cond.laysFinal "CountyWatchModel" "CountyWatchModel" "caseFor" "[I"), (Jvm.Cond.laysFinal "CountyWatchModel" "CountyWatchModel" "known" "[I"), (Jvm.Cond.laysFinal "CountyWatchModel" "CountyWatchModel" "seenLetters" "[I"), (Jvm.Cond.lays "CountyWatchModel" "CountyWatchModel" "finds" "I"), (Jvm.Cond.lays "CountyWatchModel" "CountyWatchModel" "sightings" "I"), (Jvm.Cond.laysFinal "CountyWatchModel" "CountyWatchModel" "caseKind" "[I"), (Jvm.Cond.laysFinal "CountyWatchModel" "CountyWatchModel" "caseAt" "[I"), (Jvm.Cond.laysFinal "CountyWatchModel" "CountyWatchModel" "needs" "[I"), (Jvm.Cond.laysFinal "CountyWatchModel" "CountyWatchModel" "wants" "[I"), (Jvm.Cond.laysFinal "CountyWatchModel" "CountyWatchModel" "sayCase" "[I"), (Jvm.Cond.laysFinal "CountyWatchModel" "CountyWatchModel" "sayFact" "[I"), (Jvm.Cond.laysFinal "CountyWatchModel" "CountyWatchModel" "sayBy" "[I"), (Jvm.Cond.laysFinal "CountyWatchModel" "CountyWatchModel" "sayTold" "[I"), (Jvm.Cond.laysFinal "CountyWatchModel" "CountyWatchModel" "sayYes" "[Z"), (Jvm.Cond.laysFinal "CountyWatchModel" "CountyWatchModel" "gone" "[I"), (Jvm.Cond.laysFinal "CountyWatchModel" "CountyWatchModel" "isGone" "[Z"), (Jvm.Cond.laysFinal "CountyWatchModel" "CountyWatchModel" "storySo" "[I"), (Jvm.Cond.laysFinal "CountyWatchModel" "CountyWatchModel" "storyNot" "[I"), (Jvm.Cond.laysFinal "CountyWatchModel" "CountyWatchModel" "storyTold" "[I"), (Jvm.Cond.laysFinal "CountyWatchModel" "CountyWatchModel" "stories" "[I"), (Jvm.Cond.lays "CountyWatchModel" "CountyWatchModel" "cases" "I"), (Jvm.Cond.lays "CountyWatchModel" "CountyWatchModel" "statements" "I"), (Jvm.Cond.laysFinal "CountyWatchModel" "CountyWatchModel" "had" "[I"), (Jvm.Cond.laysFinal "CountyWatchModel" "CountyWatchModel" "lostMarks" "[I"), (Jvm.Cond.laysFinal "CountyWatchModel" "CountyWatchModel" "foundMarks" "[I"), (Jvm.Cond.lays "CountyWatchModel" "CountyWatchModel" "lostMany" "I"), (Jvm.Cond.lays "CountyWatchModel" "CountyWatchModel" "foundMany" "I"), (Jvm.Cond.lays "CountyWatchModel" "CountyWatchModel" "leastLike" "I"), (Jvm.Cond.laysFinal "CountyWatchModel" "CountyWatchModel" "most" "[I"), (Jvm.Cond.laysFinal "CountyWatchModel" "CountyWatchModel" "watchPlace" "[I"), (Jvm.Cond.laysFinal "CountyWatchModel" "CountyWatchModel" "watchFrom" "[I"), (Jvm.Cond.laysFinal "CountyWatchModel" "CountyWatchModel" "watchTo" "[I"), (Jvm.Cond.lays "CountyWatchModel" "CountyWatchModel" "watches" "I"), (Jvm.Cond.laysFinal "CountyWatchModel" "CountyWatchModel" "chosen" "[I"), (Jvm.Cond.laysFinal "CountyWatchModel" "CountyWatchModel" "parts" "[I"), (Jvm.Cond.laysFinal "CountyWatchModel" "CountyWatchModel" "bestParts" "[I"), (Jvm.Cond.laysFinal "CountyWatchModel" "CountyWatchModel" "seenBits" "[I"), (Jvm.Cond.lays "CountyWatchModel" "CountyWatchModel" "chosenMany" "I"), (Jvm.Cond.lays "CountyWatchModel" "CountyWatchModel" "bestSafe" "I"), (Jvm.Cond.lays "CountyWatchModel" "CountyWatchModel" "bestSum" "I"), (Jvm.Cond.laysFinal "CountyWatchModel" "CountyWatchModel" "fairPlace" "[I"), (Jvm.Cond.laysFinal "CountyWatchModel" "CountyWatchModel" "fairAt" "[I"), (Jvm.Cond.laysFinal "CountyWatchModel" "CountyWatchModel" "fairWants" "[I"), (Jvm.Cond.lays "CountyWatchModel" "CountyWatchModel" "fairMany" "I"), (Jvm.Cond.laysFinal "CountyWatchModel" "CountyWatchModel" "least1" "[I"), (Jvm.Cond.laysFinal "CountyWatchModel" "CountyWatchModel" "costs" "[I"), (Jvm.Cond.laysFinal "CountyWatchModel" "CountyWatchModel" "booked" "[I"), (Jvm.Cond.laysFinal "CountyWatchModel" "CountyWatchModel" "lineMan" "[I"), (Jvm.Cond.laysFinal "CountyWatchModel" "CountyWatchModel" "lineDay" "[I"), (Jvm.Cond.laysFinal "CountyWatchModel" "CountyWatchModel" "lineCoins" "[I"), (Jvm.Cond.laysFinal "CountyWatchModel" "CountyWatchModel" "lineAt" "[I"), (Jvm.Cond.lays "CountyWatchModel" "CountyWatchModel" "lines" "I"), (Jvm.Cond.laysFinal "CountyWatchModel" "CountyWatchModel" "marks" "[I"), (Jvm.Cond.laysFinal "CountyWatchModel" "CountyWatchModel" "marked" "[Z"), (Jvm.Cond.lays "CountyWatchModel" "CountyWatchModel" "least3" "I")] := by decide +kernel
theorem iX12 : ∀ w ∈ u_ws RX12 TX12 131, w ∈ lw_g := by
  rw [eX12]
  exact List.forall_mem_cons.mpr ⟨tw_1873, List.forall_mem_cons.mpr ⟨tw_1875, List.forall_mem_cons.mpr ⟨tw_1877, List.forall_mem_cons.mpr ⟨tw_1879, List.forall_mem_cons.mpr ⟨tw_1881, List.forall_mem_cons.mpr ⟨tw_1883, List.forall_mem_cons.mpr ⟨tw_1885, List.forall_mem_cons.mpr ⟨tw_1887, List.forall_mem_cons.mpr ⟨tw_1889, List.forall_mem_cons.mpr ⟨tw_1891, List.forall_mem_cons.mpr ⟨tw_1893, List.forall_mem_cons.mpr ⟨tw_1895, List.forall_mem_cons.mpr ⟨tw_1897, List.forall_mem_cons.mpr ⟨tw_1899, List.forall_mem_cons.mpr ⟨tw_1901, List.forall_mem_cons.mpr ⟨tw_1903, List.forall_mem_cons.mpr ⟨tw_1905, List.forall_mem_cons.mpr ⟨tw_1907, List.forall_mem_cons.mpr ⟨tw_1909, List.forall_mem_cons.mpr ⟨tw_1911, List.forall_mem_cons.mpr ⟨tw_1913, List.forall_mem_cons.mpr ⟨tw_1915, List.forall_mem_cons.mpr ⟨tw_1917, List.forall_mem_cons.mpr ⟨tw_1919, List.forall_mem_cons.mpr ⟨tw_1921, List.forall_mem_cons.mpr ⟨tw_1923, List.forall_mem_cons.mpr ⟨tw_1925, List.forall_mem_cons.mpr ⟨tw_1927, List.forall_mem_cons.mpr ⟨tw_1929, List.forall_mem_cons.mpr ⟨tw_1931, List.forall_mem_cons.mpr ⟨tw_1933, List.forall_mem_cons.mpr ⟨tw_1935, List.forall_mem_cons.mpr ⟨tw_1937, List.forall_mem_cons.mpr ⟨tw_1939, List.forall_mem_cons.mpr ⟨tw_1941, List.forall_mem_cons.mpr ⟨tw_1943, List.forall_mem_cons.mpr ⟨tw_1945, List.forall_mem_cons.mpr ⟨tw_1947, List.forall_mem_cons.mpr ⟨tw_1949, List.forall_mem_cons.mpr ⟨tw_1951, List.forall_mem_cons.mpr ⟨tw_1953, List.forall_mem_cons.mpr ⟨tw_1955, List.forall_mem_cons.mpr ⟨tw_1957, List.forall_mem_cons.mpr ⟨tw_1959, List.forall_mem_cons.mpr ⟨tw_1961, List.forall_mem_cons.mpr ⟨tw_1963, List.forall_mem_cons.mpr ⟨tw_1965, List.forall_mem_cons.mpr ⟨tw_1967, List.forall_mem_cons.mpr ⟨tw_1969, List.forall_mem_cons.mpr ⟨tw_1971, List.forall_mem_cons.mpr ⟨tw_1973, List.forall_mem_cons.mpr ⟨tw_1975, List.forall_mem_cons.mpr ⟨tw_1977, List.forall_mem_cons.mpr ⟨tw_1979, List.forall_mem_cons.mpr ⟨tw_1981, List.forall_mem_cons.mpr ⟨tw_1983, List.forall_mem_cons.mpr ⟨tw_1985, List.forall_mem_cons.mpr ⟨tw_1987, List.forall_mem_cons.mpr ⟨tw_1989, List.forall_mem_cons.mpr ⟨tw_1991, List.forall_mem_cons.mpr ⟨tw_1993, List.forall_mem_cons.mpr ⟨tw_1995, List.forall_mem_cons.mpr ⟨tw_1997, List.forall_mem_cons.mpr ⟨tw_1999, List.forall_mem_cons.mpr ⟨tw_2001, List.forall_mem_cons.mpr ⟨tw_2003, List.forall_mem_cons.mpr ⟨tw_2005, List.forall_mem_cons.mpr ⟨tw_2007, List.forall_mem_cons.mpr ⟨tw_2009, List.forall_mem_cons.mpr ⟨tw_2011, List.forall_mem_cons.mpr ⟨tw_2013, List.forall_mem_cons.mpr ⟨tw_2015, List.forall_mem_cons.mpr ⟨tw_2017, List.forall_mem_cons.mpr ⟨tw_2019, List.forall_mem_cons.mpr ⟨tw_2021, List.forall_mem_cons.mpr ⟨tw_2023, List.forall_mem_cons.mpr ⟨tw_2025, List.forall_mem_cons.mpr ⟨tw_2027, List.forall_mem_cons.mpr ⟨tw_2029, List.forall_mem_cons.mpr ⟨tw_2031, List.forall_mem_cons.mpr ⟨tw_2033, List.forall_mem_cons.mpr ⟨tw_2035, List.forall_mem_cons.mpr ⟨tw_2037, List.forall_mem_cons.mpr ⟨tw_2039, List.forall_mem_cons.mpr ⟨tw_2041, List.forall_mem_cons.mpr ⟨tw_2043, List.forall_mem_cons.mpr ⟨tw_2045, List.forall_mem_cons.mpr ⟨tw_2047, List.forall_mem_cons.mpr ⟨tw_2049, List.forall_mem_cons.mpr ⟨tw_2051, List.forall_mem_cons.mpr ⟨tw_2053, List.forall_mem_cons.mpr ⟨tw_2055, List.forall_mem_cons.mpr ⟨tw_2057, List.forall_mem_cons.mpr ⟨tw_2059, List.forall_mem_cons.mpr ⟨tw_2061, List.forall_mem_cons.mpr ⟨tw_2063, List.forall_mem_cons.mpr ⟨tw_2065, List.forall_mem_cons.mpr ⟨tw_2067, List.forall_mem_cons.mpr ⟨tw_2069, List.forall_mem_cons.mpr ⟨tw_2071, List.forall_mem_cons.mpr ⟨tw_2073, List.forall_mem_cons.mpr ⟨tw_2075, List.forall_mem_cons.mpr ⟨tw_2077, List.forall_mem_cons.mpr ⟨tw_2079, List.forall_mem_cons.mpr ⟨tw_2081, List.forall_mem_cons.mpr ⟨tw_2083, List.forall_mem_cons.mpr ⟨tw_2085, List.forall_mem_cons.mpr ⟨tw_2087, List.forall_mem_cons.mpr ⟨tw_2089, List.forall_mem_cons.mpr ⟨tw_2091, List.forall_mem_cons.mpr ⟨tw_2093, List.forall_mem_cons.mpr ⟨tw_2095, List.forall_mem_cons.mpr ⟨tw_2097, List.forall_mem_cons.mpr ⟨tw_2099, List.forall_mem_cons.mpr ⟨tw_2101, List.forall_mem_cons.mpr ⟨tw_2103, List.forall_mem_cons.mpr ⟨tw_2105, List.forall_mem_cons.mpr ⟨tw_2107, List.forall_mem_cons.mpr ⟨tw_2109, List.forall_mem_cons.mpr ⟨tw_2111, List.forall_mem_cons.mpr ⟨tw_2113, List.forall_mem_cons.mpr ⟨tw_2115, List.forall_mem_cons.mpr ⟨tw_2117, List.forall_mem_cons.mpr ⟨tw_2119, List.forall_mem_cons.mpr ⟨tw_2121, List.forall_mem_cons.mpr ⟨tw_2123, List.forall_mem_cons.mpr ⟨tw_2125, List.forall_mem_cons.mpr ⟨tw_2127, List.forall_mem_cons.mpr ⟨tw_2129, List.forall_mem_cons.mpr ⟨tw_2131, List.forall_mem_cons.mpr ⟨tw_2133, fun _ h => absurd h List.not_mem_nil⟩⟩⟩⟩⟩⟩⟩⟩⟩⟩⟩⟩⟩⟩⟩⟩⟩⟩⟩⟩⟩⟩⟩⟩⟩⟩⟩⟩⟩⟩⟩⟩⟩⟩⟩⟩⟩⟩⟩⟩⟩⟩⟩⟩⟩⟩⟩⟩⟩⟩⟩⟩⟩⟩⟩⟩⟩⟩⟩⟩⟩⟩⟩⟩⟩⟩⟩⟩⟩⟩⟩⟩⟩⟩⟩⟩⟩⟩⟩⟩⟩⟩⟩⟩⟩⟩⟩⟩⟩⟩⟩⟩⟩⟩⟩⟩⟩⟩⟩⟩⟩⟩⟩⟩⟩⟩⟩⟩⟩⟩⟩⟩⟩⟩⟩⟩⟩⟩⟩⟩⟩⟩⟩⟩⟩⟩⟩⟩⟩⟩⟩
abbrev kl_ : List vw_C := [(RX0, TX0, 4), (RX1, TX1, 16), (RX2, TX2, 17), (RX3, TX3, 11), (RX4, TX4, 17), (RX5, TX5, 16), (RX6, TX6, 20), (RX7, TX7, 12), (RX8, TX8, 10), (RX9, TX9, 2), (RX10, TX10, 6), (RX11, TX11, 16), (RX12, TX12, 131)]
end
section
/-! THE HEAP AS THE PROOFS SEE IT: cells by number; shapes, ints, longs, references. Tags: 0 int[], 1 boolean[], 2 byte[], 3 long[], 4 Constable[]; 10 + ci: an object of class ci of kl_ -/
abbrev Hp_ : Type := (Nat → Option (Nat × Nat)) × (Nat → Nat → Int32) × (Nat → Nat → Int64) × (Nat → Nat → Option Nat)
def h_sh (h : Hp_) (a : Nat) : Option (Nat × Nat) := h.1 a
def h_i (h : Hp_) (a k : Nat) : Int32 := h.2.1 a k
def h_l (h : Hp_) (a k : Nat) : Int64 := h.2.2.1 a k
def h_r (h : Hp_) (a k : Nat) : Option Nat := h.2.2.2 a k
def h_im (h : Hp_) (a k : Nat) (x : Int32) : Hp_ := (h.1, va_up h.2.1 a (upd (h.2.1 a) k x), h.2.2.1, h.2.2.2)
def h_lm (h : Hp_) (a k : Nat) (x : Int64) : Hp_ := (h.1, h.2.1, va_up h.2.2.1 a (vp_updL (h.2.2.1 a) k x), h.2.2.2)
def h_rm (h : Hp_) (a k : Nat) (x : Option Nat) : Hp_ := (h.1, h.2.1, h.2.2.1, va_up h.2.2.2 a (va_up (h.2.2.2 a) k x))
/-- a whole int row at once -/
def h_iw (h : Hp_) (a : Nat) (f : Nat → Int32) : Hp_ := (h.1, va_up h.2.1 a f, h.2.2.1, h.2.2.2)
def h_lw (h : Hp_) (a : Nat) (f : Nat → Int64) : Hp_ := (h.1, h.2.1, va_up h.2.2.1 a f, h.2.2.2)
def h_nw (h : Hp_) (a t n : Nat) : Hp_ := (va_up h.1 a (some (t, n)), va_up h.2.1 a (fun _ => 0), va_up h.2.2.1 a (fun _ => 0), va_up h.2.2.2 a (fun _ => none))
def h_cv (ad : Nat → Nat) : Value → Value
  | .ref a => .ref (ad a)
  | v => v
def h_ok (dom : List Nat) (v : Value) : Prop := ∀ c, v = .ref c → c ∈ dom ∨ 1000 ≤ c
def h_tyc : Nat → Nat → FieldType
  | 0 => tyX0 | 1 => tyX1 | 2 => tyX2 | 3 => tyX3 | 4 => tyX4 | 5 => tyX5 | 6 => tyX6 | 7 => tyX7 | 8 => tyX8 | 9 => tyX9 | 10 => tyX10 | 11 => tyX11 | _ => tyX12
def h_kd : FieldType → Nat
  | .long => 1
  | .array _ => 2
  | .object _ => 2
  | _ => 0
def h_fv (ad : Nat → Nat) (h : Hp_) (a ci k : Nat) : Value := match h_kd (h_tyc ci k) with
  | 0 => .int (h_i h a k)
  | 1 => .long (h_l h a k)
  | _ => va_rf ((h_r h a k).map ad)
def h_ar (ad : Nat → Nat) (h : Hp_) (a t : Nat) : (Nat → Int32) ⊕ (Nat → Int64) ⊕ (Nat → UInt32) ⊕ (Nat → UInt64) ⊕ (Nat → Option Nat) :=
  match t with
  | 3 => .inr (.inl (h_l h a))
  | 4 => .inr (.inr (.inr (.inr (fun k => (h_r h a k).map ad))))
  | _ => .inl (h_i h a)
def h_ce (cy : Nat → ClassId) (ad : Nat → Nat) (h : Hp_) (a : Nat) : va_E := match h_sh h a with
  | some (t, n) => if t < 10 then .inl (cy t, n, h_ar ad h a t) else .inr (t - 10, (List.range n).map (h_fv ad h a (t - 10)))
  | none => .inr (0, [])
def h_W (cy : Nat → ClassId) (ad : Nat → Nat) (h : Hp_) (dom : List Nat) : va_W := dom.map (fun a => (ad a, h_ce cy ad h a))
theorem h_W_get {cy : Nat → ClassId} {ad : Nat → Nat} {h : Hp_} {dom : List Nat} {a : Nat} (ha : a ∈ dom) : ∃ q : Nat, dom[q]? = some a ∧ (h_W cy ad h dom)[q]? = some (ad a, h_ce cy ad h a) := by
  obtain ⟨q, hq⟩ := List.getElem?_of_mem ha
  exact ⟨q, hq, by simp [h_W, hq]⟩
theorem h_W_at {cy : Nat → ClassId} {ad : Nat → Nat} {h : Hp_} {dom : List Nat} {q a : Nat} (hq : dom[q]? = some a) : (h_W cy ad h dom)[q]? = some (ad a, h_ce cy ad h a) := by simp [h_W, hq]
theorem h_nd {dom : List Nat} (hn : dom.Nodup) {i j a : Nat} (hi : dom[i]? = some a) (hj : dom[j]? = some a) : i = j := by
  obtain ⟨l1, e1⟩ := List.getElem?_eq_some_iff.mp hi
  obtain ⟨l2, e2⟩ := List.getElem?_eq_some_iff.mp hj
  have hp := List.pairwise_iff_getElem.mp hn
  rcases Nat.lt_trichotomy i j with z | z | z
  · exact absurd (e1.trans e2.symm) (hp i j l1 l2 z)
  · exact z
  · exact absurd (e2.trans e1.symm) (hp j i l2 l1 z)
theorem h_W_set {cy : Nat → ClassId} {ad : Nat → Nat} {h h' : Hp_} {dom : List Nat} {q a : Nat} {e : va_E} (hn : dom.Nodup) (hq : dom[q]? = some a) (he : h_ce cy ad h' a = e) (ho : ∀ b, b ≠ a → h_ce cy ad h' b = h_ce cy ad h b) : (h_W cy ad h dom).set q (ad a, e) = h_W cy ad h' dom := by
  apply List.ext_getElem?
  intro k
  by_cases hk : k = q
  · subst hk
    have hl : k < (h_W cy ad h dom).length := by rw [h_W, List.length_map]; exact (List.getElem?_eq_some_iff.mp hq).1
    rw [List.getElem?_set_self hl, h_W_at hq, he]
  · rw [List.getElem?_set_ne (Ne.symm hk)]
    simp only [h_W, List.getElem?_map]
    cases hb : dom[k]? with
    | none => rfl
    | some b =>
      have hba : b ≠ a := fun z => hk (h_nd hn (by rw [hb, z]) hq)
      simp only [Option.map_some, ho b hba]
theorem h_W_new {cy : Nat → ClassId} {ad ad' : Nat → Nat} {h h' : Hp_} {dom : List Nat} {a q : Nat} {e : va_E} (ha : ad' a = q) (he : h_ce cy ad' h' a = e) (ho : ∀ b ∈ dom, ad' b = ad b ∧ h_ce cy ad' h' b = h_ce cy ad h b) : h_W cy ad h dom ++ [(q, e)] = h_W cy ad' h' (dom ++ [a]) := by
  simp only [h_W, List.map_append, List.map_cons, List.map_nil, ha, he]
  congr 1
  apply List.map_congr_left
  intro b hb
  rw [(ho b hb).1, (ho b hb).2]
/-- what a field holds: by its slot -/
theorem h_fs_at {ad : Nat → Nat} {h : Hp_} {a ci n k : Nat} (hk : k < n) : ((List.range n).map (h_fv ad h a ci))[k]? = some (h_fv ad h a ci k) := by simp [hk]
theorem h_fs_set {ad : Nat → Nat} {h h' : Hp_} {a ci n k : Nat} {v : Value} (hv : h_fv ad h' a ci k = v) (ho : ∀ j, j ≠ k → h_fv ad h' a ci j = h_fv ad h a ci j) : ((List.range n).map (h_fv ad h a ci)).set k v = (List.range n).map (h_fv ad h' a ci) := by
  apply List.ext_getElem?
  intro j
  by_cases hj : j = k
  · subst hj
    by_cases hl : j < n
    · rw [List.getElem?_set_self (by simpa using hl), h_fs_at hl, hv]
    · rw [List.getElem?_eq_none (by simpa using hl), List.getElem?_eq_none (by simpa using hl)]
  · rw [List.getElem?_set_ne (Ne.symm hj)]
    by_cases hl : j < n
    · rw [h_fs_at hl, h_fs_at hl, ho j hj]
    · rw [List.getElem?_eq_none (by simpa using hl), List.getElem?_eq_none (by simpa using hl)]
theorem h_sh_im {h : Hp_} {a k : Nat} {x : Int32} : h_sh (h_im h a k x) = h_sh h := rfl
theorem h_sh_lm {h : Hp_} {a k : Nat} {x : Int64} : h_sh (h_lm h a k x) = h_sh h := rfl
theorem h_sh_rm {h : Hp_} {a k : Nat} {x : Option Nat} : h_sh (h_rm h a k x) = h_sh h := rfl
theorem h_sh_iw {h : Hp_} {a : Nat} {f : Nat → Int32} : h_sh (h_iw h a f) = h_sh h := rfl
theorem h_sh_lw {h : Hp_} {a : Nat} {f : Nat → Int64} : h_sh (h_lw h a f) = h_sh h := rfl
theorem h_i_im {h : Hp_} {a k b j : Nat} {x : Int32} : h_i (h_im h a k x) b j = if b = a ∧ j = k then x else h_i h b j := by
  show (if b = a then upd (h.2.1 a) k x else h.2.1 b) j = _
  by_cases h1 : b = a
  · subst h1
    rw [if_pos rfl]
    show (if j = k then x else h.2.1 b j) = _
    by_cases h2 : j = k
    · rw [if_pos h2, if_pos ⟨rfl, h2⟩]
    · rw [if_neg h2, if_neg (fun z => h2 z.2)]; rfl
  · rw [if_neg h1, if_neg (fun z => h1 z.1)]; rfl
theorem h_l_lm {h : Hp_} {a k b j : Nat} {x : Int64} : h_l (h_lm h a k x) b j = if b = a ∧ j = k then x else h_l h b j := by
  show (if b = a then vp_updL (h.2.2.1 a) k x else h.2.2.1 b) j = _
  by_cases h1 : b = a
  · subst h1
    rw [if_pos rfl]
    show (if j = k then x else h.2.2.1 b j) = _
    by_cases h2 : j = k
    · rw [if_pos h2, if_pos ⟨rfl, h2⟩]
    · rw [if_neg h2, if_neg (fun z => h2 z.2)]; rfl
  · rw [if_neg h1, if_neg (fun z => h1 z.1)]; rfl
theorem h_r_rm {h : Hp_} {a k b j : Nat} {x : Option Nat} : h_r (h_rm h a k x) b j = if b = a ∧ j = k then x else h_r h b j := by
  show (if b = a then va_up (h.2.2.2 a) k x else h.2.2.2 b) j = _
  by_cases h1 : b = a
  · subst h1
    rw [if_pos rfl]
    show (if j = k then x else h.2.2.2 b j) = _
    by_cases h2 : j = k
    · rw [if_pos h2, if_pos ⟨rfl, h2⟩]
    · rw [if_neg h2, if_neg (fun z => h2 z.2)]; rfl
  · rw [if_neg h1, if_neg (fun z => h1 z.1)]; rfl
theorem h_i_lm {h : Hp_} {a k : Nat} {x : Int64} : h_i (h_lm h a k x) = h_i h := rfl
theorem h_i_rm {h : Hp_} {a k : Nat} {x : Option Nat} : h_i (h_rm h a k x) = h_i h := rfl
theorem h_l_im {h : Hp_} {a k : Nat} {x : Int32} : h_l (h_im h a k x) = h_l h := rfl
theorem h_l_rm {h : Hp_} {a k : Nat} {x : Option Nat} : h_l (h_rm h a k x) = h_l h := rfl
theorem h_r_im {h : Hp_} {a k : Nat} {x : Int32} : h_r (h_im h a k x) = h_r h := rfl
theorem h_r_lm {h : Hp_} {a k : Nat} {x : Int64} : h_r (h_lm h a k x) = h_r h := rfl
theorem h_i_iw {h : Hp_} {a b : Nat} {f : Nat → Int32} : h_i (h_iw h a f) b = if b = a then f else h_i h b := rfl
/-- cells that a store leaves alone -/
theorem h_ce_i {cy : Nat → ClassId} {ad : Nat → Nat} {h : Hp_} {a b : Nat} {f : Nat → Int32} (hb : b ≠ a) : h_ce cy ad (h_iw h a f) b = h_ce cy ad h b := by
  have e : ∀ k, h_i (h_iw h a f) b k = h_i h b k := fun k => by rw [h_i_iw, if_neg hb]
  have e2 : h_i (h_iw h a f) b = h_i h b := funext e
  unfold h_ce
  rw [h_sh_iw]
  split
  · rename_i t n _
    have f1 : h_ar ad (h_iw h a f) b t = h_ar ad h b t := by unfold h_ar; rw [e2]; rfl
    have f2 : h_fv ad (h_iw h a f) b (t - 10) = h_fv ad h b (t - 10) := by funext k; unfold h_fv; rw [e k]; rfl
    rw [f1, f2]
  · rfl
theorem h_im_iw (h : Hp_) (a k : Nat) (x : Int32) : h_im h a k x = h_iw h a (upd (h_i h a) k x) := rfl
theorem h_lm_lw (h : Hp_) (a k : Nat) (x : Int64) : h_lm h a k x = h_lw h a (vp_updL (h_l h a) k x) := rfl
theorem h_l_lw {h : Hp_} {a b : Nat} {f : Nat → Int64} : h_l (h_lw h a f) b = if b = a then f else h_l h b := rfl
theorem h_ce_l {cy : Nat → ClassId} {ad : Nat → Nat} {h : Hp_} {a b : Nat} {f : Nat → Int64} (hb : b ≠ a) : h_ce cy ad (h_lw h a f) b = h_ce cy ad h b := by
  have e : ∀ k, h_l (h_lw h a f) b k = h_l h b k := fun k => by rw [h_l_lw, if_neg hb]
  have e2 : h_l (h_lw h a f) b = h_l h b := funext e
  unfold h_ce
  rw [h_sh_lw]
  split
  · rename_i t n _
    have f1 : h_ar ad (h_lw h a f) b t = h_ar ad h b t := by unfold h_ar; rw [e2]; rfl
    have f2 : h_fv ad (h_lw h a f) b (t - 10) = h_fv ad h b (t - 10) := by funext k; unfold h_fv; rw [e k]; rfl
    rw [f1, f2]
  · rfl
theorem h_ce_r {cy : Nat → ClassId} {ad : Nat → Nat} {h : Hp_} {a b k : Nat} {x : Option Nat} (hb : b ≠ a) : h_ce cy ad (h_rm h a k x) b = h_ce cy ad h b := by
  have e : ∀ j, h_r (h_rm h a k x) b j = h_r h b j := fun j => by rw [h_r_rm, if_neg (fun z => hb z.1)]
  have e2 : h_r (h_rm h a k x) b = h_r h b := funext e
  unfold h_ce
  rw [h_sh_rm]
  split
  · rename_i t n _
    have f1 : h_ar ad (h_rm h a k x) b t = h_ar ad h b t := by unfold h_ar; rw [e2]; rfl
    have f2 : h_fv ad (h_rm h a k x) b (t - 10) = h_fv ad h b (t - 10) := by funext j; unfold h_fv; rw [e j]; rfl
    rw [f1, f2]
  · rfl
theorem h_ce_arr {cy : Nat → ClassId} {ad : Nat → Nat} {h : Hp_} {a t n : Nat} (hs : h_sh h a = some (t, n)) (ht : t < 10) : h_ce cy ad h a = .inl (cy t, n, h_ar ad h a t) := by unfold h_ce; rw [hs]; simp [ht]
theorem h_ce_obj {cy : Nat → ClassId} {ad : Nat → Nat} {h : Hp_} {a ci n : Nat} (hs : h_sh h a = some (ci + 10, n)) : h_ce cy ad h a = .inr (ci, (List.range n).map (h_fv ad h a ci)) := by
  unfold h_ce
  rw [hs]
  have h1 : ¬ (ci + 10 < 10) := by omega
  simp [h1]
end
