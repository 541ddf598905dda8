section
noncomputable def RX0 : String := "CountyWatch$Beats"
noncomputable def TX0 : u_T := fun k => match k with
  | 0 => ("CountyWatch$Beats", "steps", "[I", true)
  | 1 => ("CountyWatch$Beats", "lengths", "[I", true)
  | 2 => ("CountyWatch$Beats", "meetings", "[I", true)
  | _ => ("CountyWatch$Beats", "beats", "I", false)
noncomputable def tyX0 : Nat → FieldType := fun k => match k with
  | 0 => .array .int
  | 1 => .array .int
  | 2 => .array .int
  | _ => .int
theorem nmX0 : ∀ a, a < 4 → ∀ b, b < 4 → a ≠ b → (TX0 a).2.1 ≠ (TX0 b).2.1 := by decide +kernel
theorem tyX0_ok : ∀ k, k < 4 → parseFieldDescriptor (TX0 k).2.2.1 = some (tyX0 k) := by decide +kernel
noncomputable def RX1 : String := "CountyWatch$Cases"
noncomputable def TX1 : u_T := fun k => match k with
  | 0 => ("CountyWatch$Cases", "kind", "[I", true)
  | 1 => ("CountyWatch$Cases", "openedAt", "[I", true)
  | 2 => ("CountyWatch$Cases", "stories", "[I", true)
  | 3 => ("CountyWatch$Cases", "opened", "I", false)
  | 4 => ("CountyWatch$Cases", "needs", "[I", true)
  | 5 => ("CountyWatch$Cases", "wants", "[I", true)
  | 6 => ("CountyWatch$Cases", "statement", "[I", true)
  | 7 => ("CountyWatch$Cases", "statedAt", "[I", true)
  | 8 => ("CountyWatch$Cases", "statements", "I", false)
  | 9 => ("CountyWatch$Cases", "withdrawnAt", "[I", true)
  | 10 => ("CountyWatch$Cases", "storySo", "[I", true)
  | 11 => ("CountyWatch$Cases", "storyNot", "[I", true)
  | 12 => ("CountyWatch$Cases", "storyAt", "[I", true)
  | 13 => ("CountyWatch$Cases", "yesBits", "[I", true)
  | 14 => ("CountyWatch$Cases", "noBits", "[I", true)
  | _ => ("CountyWatch$Cases", "before", "[I", true)
noncomputable def tyX1 : Nat → FieldType := fun k => match k with
  | 0 => .array .int
  | 1 => .array .int
  | 2 => .array .int
  | 3 => .int
  | 4 => .array .int
  | 5 => .array .int
  | 6 => .array .int
  | 7 => .array .int
  | 8 => .int
  | 9 => .array .int
  | 10 => .array .int
  | 11 => .array .int
  | 12 => .array .int
  | 13 => .array .int
  | 14 => .array .int
  | _ => .array .int
theorem nmX1 : ∀ a, a < 16 → ∀ b, b < 16 → a ≠ b → (TX1 a).2.1 ≠ (TX1 b).2.1 := by decide +kernel
theorem tyX1_ok : ∀ k, k < 16 → parseFieldDescriptor (TX1 k).2.2.1 = some (tyX1 k) := by decide +kernel
noncomputable def RX2 : String := "CountyWatch$Constable"
noncomputable def TX2 : u_T := fun k => match k with
  | 0 => ("CountyWatch$Constable", "number", "I", true)
  | 1 => ("CountyWatch$Constable", "rank", "I", true)
  | 2 => ("CountyWatch$Constable", "years", "I", true)
  | 3 => ("CountyWatch$Constable", "home", "I", true)
  | 4 => ("CountyWatch$Constable", "about", "I", false)
  | 5 => ("CountyWatch$Constable", "place", "I", false)
  | 6 => ("CountyWatch$Constable", "target", "I", false)
  | 7 => ("CountyWatch$Constable", "till", "I", false)
  | 8 => ("CountyWatch$Constable", "beat", "I", false)
  | 9 => ("CountyWatch$Constable", "step", "I", false)
  | 10 => ("CountyWatch$Constable", "begun", "I", false)
  | 11 => ("CountyWatch$Constable", "row", "I", false)
  | 12 => ("CountyWatch$Constable", "rowsEnd", "I", false)
  | 13 => ("CountyWatch$Constable", "drawnTo", "I", false)
  | 14 => ("CountyWatch$Constable", "drawnTill", "I", false)
  | 15 => ("CountyWatch$Constable", "met", "I", false)
  | _ => ("CountyWatch$Constable", "missed", "I", false)
noncomputable def tyX2 : Nat → FieldType := fun k => match k with
  | 0 => .int
  | 1 => .int
  | 2 => .int
  | 3 => .int
  | 4 => .int
  | 5 => .int
  | 6 => .int
  | 7 => .int
  | 8 => .int
  | 9 => .int
  | 10 => .int
  | 11 => .int
  | 12 => .int
  | 13 => .int
  | 14 => .int
  | 15 => .int
  | _ => .int
theorem nmX2 : ∀ a, a < 17 → ∀ b, b < 17 → a ≠ b → (TX2 a).2.1 ≠ (TX2 b).2.1 := by decide +kernel
theorem tyX2_ok : ∀ k, k < 17 → parseFieldDescriptor (TX2 k).2.2.1 = some (tyX2 k) := by decide +kernel
noncomputable def RX3 : String := "CountyWatch$Goods"
noncomputable def TX3 : u_T := fun k => match k with
  | 0 => ("CountyWatch$Goods", "lost", "[I", true)
  | 1 => ("CountyWatch$Goods", "found", "[I", true)
  | 2 => ("CountyWatch$Goods", "lostGoods", "I", false)
  | 3 => ("CountyWatch$Goods", "foundGoods", "I", false)
  | 4 => ("CountyWatch$Goods", "leastMarks", "I", false)
  | 5 => ("CountyWatch$Goods", "stale", "Z", false)
  | 6 => ("CountyWatch$Goods", "gain", "[I", true)
  | 7 => ("CountyWatch$Goods", "best", "[I", true)
  | 8 => ("CountyWatch$Goods", "reached", "[Z", true)
  | 9 => ("CountyWatch$Goods", "choices", "[I", true)
  | _ => ("CountyWatch$Goods", "first", "[I", true)
noncomputable def tyX3 : Nat → FieldType := fun k => match k with
  | 0 => .array .int
  | 1 => .array .int
  | 2 => .int
  | 3 => .int
  | 4 => .int
  | 5 => .boolean
  | 6 => .array .int
  | 7 => .array .int
  | 8 => .array .boolean
  | 9 => .array .int
  | _ => .array .int
theorem nmX3 : ∀ a, a < 11 → ∀ b, b < 11 → a ≠ b → (TX3 a).2.1 ≠ (TX3 b).2.1 := by decide +kernel
theorem tyX3_ok : ∀ k, k < 11 → parseFieldDescriptor (TX3 k).2.2.1 = some (tyX3 k) := by decide +kernel
noncomputable def RX4 : String := "CountyWatch$Looks"
noncomputable def TX4 : u_T := fun k => match k with
  | 0 => ("CountyWatch$Looks", "kind", "[I", true)
  | 1 => ("CountyWatch$Looks", "place", "[I", true)
  | 2 => ("CountyWatch$Looks", "from", "[I", true)
  | 3 => ("CountyWatch$Looks", "to", "[I", true)
  | 4 => ("CountyWatch$Looks", "weight", "[I", true)
  | 5 => ("CountyWatch$Looks", "seen", "[I", true)
  | 6 => ("CountyWatch$Looks", "taken", "[Z", true)
  | 7 => ("CountyWatch$Looks", "finds", "I", false)
  | 8 => ("CountyWatch$Looks", "takenFinds", "I", false)
  | 9 => ("CountyWatch$Looks", "man", "[I", true)
  | 10 => ("CountyWatch$Looks", "find", "[I", true)
  | 11 => ("CountyWatch$Looks", "minute", "[I", true)
  | 12 => ("CountyWatch$Looks", "done", "[I", true)
  | 13 => ("CountyWatch$Looks", "opened", "[I", true)
  | 14 => ("CountyWatch$Looks", "known", "[I", true)
  | 15 => ("CountyWatch$Looks", "letters", "[I", true)
  | _ => ("CountyWatch$Looks", "sightings", "I", false)
noncomputable def tyX4 : Nat → FieldType := fun k => match k with
  | 0 => .array .int
  | 1 => .array .int
  | 2 => .array .int
  | 3 => .array .int
  | 4 => .array .int
  | 5 => .array .int
  | 6 => .array .boolean
  | 7 => .int
  | 8 => .int
  | 9 => .array .int
  | 10 => .array .int
  | 11 => .array .int
  | 12 => .array .int
  | 13 => .array .int
  | 14 => .array .int
  | 15 => .array .int
  | _ => .int
theorem nmX4 : ∀ a, a < 17 → ∀ b, b < 17 → a ≠ b → (TX4 a).2.1 ≠ (TX4 b).2.1 := by decide +kernel
theorem tyX4_ok : ∀ k, k < 17 → parseFieldDescriptor (TX4 k).2.2.1 = some (tyX4 k) := by decide +kernel
noncomputable def RX5 : String := "CountyWatch$Payroll"
noncomputable def TX5 : u_T := fun k => match k with
  | 0 => ("CountyWatch$Payroll", "rankMan", "[I", true)
  | 1 => ("CountyWatch$Payroll", "rankTo", "[I", true)
  | 2 => ("CountyWatch$Payroll", "rankDay", "[I", true)
  | 3 => ("CountyWatch$Payroll", "rankTold", "[I", true)
  | 4 => ("CountyWatch$Payroll", "ranks", "I", false)
  | 5 => ("CountyWatch$Payroll", "letters", "[I", true)
  | 6 => ("CountyWatch$Payroll", "wages", "[I", true)
  | 7 => ("CountyWatch$Payroll", "booked", "[I", true)
  | 8 => ("CountyWatch$Payroll", "lineMan", "[I", true)
  | 9 => ("CountyWatch$Payroll", "lineDay", "[I", true)
  | 10 => ("CountyWatch$Payroll", "lineCoins", "[I", true)
  | 11 => ("CountyWatch$Payroll", "lineMinute", "[I", true)
  | 12 => ("CountyWatch$Payroll", "lines", "I", false)
  | 13 => ("CountyWatch$Payroll", "coins", "I", false)
  | 14 => ("CountyWatch$Payroll", "marks", "[I", true)
  | _ => ("CountyWatch$Payroll", "enough", "I", false)
noncomputable def tyX5 : Nat → FieldType := fun k => match k with
  | 0 => .array .int
  | 1 => .array .int
  | 2 => .array .int
  | 3 => .array .int
  | 4 => .int
  | 5 => .array .int
  | 6 => .array .int
  | 7 => .array .int
  | 8 => .array .int
  | 9 => .array .int
  | 10 => .array .int
  | 11 => .array .int
  | 12 => .int
  | 13 => .int
  | 14 => .array .int
  | _ => .int
theorem nmX5 : ∀ a, a < 16 → ∀ b, b < 16 → a ≠ b → (TX5 a).2.1 ≠ (TX5 b).2.1 := by decide +kernel
theorem tyX5_ok : ∀ k, k < 16 → parseFieldDescriptor (TX5 k).2.2.1 = some (tyX5 k) := by decide +kernel
noncomputable def RX6 : String := "CountyWatch$Plans"
noncomputable def TX6 : u_T := fun k => match k with
  | 0 => ("CountyWatch$Plans", "watchPlace", "[I", true)
  | 1 => ("CountyWatch$Plans", "watchFrom", "[I", true)
  | 2 => ("CountyWatch$Plans", "watchTo", "[I", true)
  | 3 => ("CountyWatch$Plans", "watches", "I", false)
  | 4 => ("CountyWatch$Plans", "sight", "[J", true)
  | 5 => ("CountyWatch$Plans", "trial", "[I", true)
  | 6 => ("CountyWatch$Plans", "shares", "[I", true)
  | 7 => ("CountyWatch$Plans", "sharing", "I", false)
  | 8 => ("CountyWatch$Plans", "bestSafe", "I", false)
  | 9 => ("CountyWatch$Plans", "bestSum", "I", false)
  | 10 => ("CountyWatch$Plans", "sharedBeats", "I", false)
  | 11 => ("CountyWatch$Plans", "sharedPaths", "I", false)
  | 12 => ("CountyWatch$Plans", "sharedWatches", "I", false)
  | 13 => ("CountyWatch$Plans", "fairPlace", "[I", true)
  | 14 => ("CountyWatch$Plans", "fairMinute", "[I", true)
  | 15 => ("CountyWatch$Plans", "fairWanted", "[I", true)
  | 16 => ("CountyWatch$Plans", "fairs", "I", false)
  | 17 => ("CountyWatch$Plans", "prices", "[I", true)
  | 18 => ("CountyWatch$Plans", "costs", "[I", true)
  | _ => ("CountyWatch$Plans", "lentTo", "[I", true)
noncomputable def tyX6 : Nat → FieldType := fun k => match k with
  | 0 => .array .int
  | 1 => .array .int
  | 2 => .array .int
  | 3 => .int
  | 4 => .array .long
  | 5 => .array .int
  | 6 => .array .int
  | 7 => .int
  | 8 => .int
  | 9 => .int
  | 10 => .int
  | 11 => .int
  | 12 => .int
  | 13 => .array .int
  | 14 => .array .int
  | 15 => .array .int
  | 16 => .int
  | 17 => .array .int
  | 18 => .array .int
  | _ => .array .int
theorem nmX6 : ∀ a, a < 20 → ∀ b, b < 20 → a ≠ b → (TX6 a).2.1 ≠ (TX6 b).2.1 := by decide +kernel
theorem tyX6_ok : ∀ k, k < 20 → parseFieldDescriptor (TX6 k).2.2.1 = some (tyX6 k) := by decide +kernel
noncomputable def RX7 : String := "CountyWatch$Points"
noncomputable def TX7 : u_T := fun k => match k with
  | 0 => ("CountyWatch$Points", "man", "[I", true)
  | 1 => ("CountyWatch$Points", "place", "[I", true)
  | 2 => ("CountyWatch$Points", "due", "[I", true)
  | 3 => ("CountyWatch$Points", "begun", "[I", true)
  | 4 => ("CountyWatch$Points", "outcome", "[I", true)
  | 5 => ("CountyWatch$Points", "settled", "[I", true)
  | 6 => ("CountyWatch$Points", "firstCause", "[I", true)
  | 7 => ("CountyWatch$Points", "rows", "I", false)
  | 8 => ("CountyWatch$Points", "toldRow", "[I", true)
  | 9 => ("CountyWatch$Points", "toldCause", "[I", true)
  | 10 => ("CountyWatch$Points", "toldAt", "[I", true)
  | _ => ("CountyWatch$Points", "tellings", "I", false)
noncomputable def tyX7 : Nat → FieldType := fun k => match k with
  | 0 => .array .int
  | 1 => .array .int
  | 2 => .array .int
  | 3 => .array .int
  | 4 => .array .int
  | 5 => .array .int
  | 6 => .array .int
  | 7 => .int
  | 8 => .array .int
  | 9 => .array .int
  | 10 => .array .int
  | _ => .int
theorem nmX7 : ∀ a, a < 12 → ∀ b, b < 12 → a ≠ b → (TX7 a).2.1 ≠ (TX7 b).2.1 := by decide +kernel
theorem tyX7_ok : ∀ k, k < 12 → parseFieldDescriptor (TX7 k).2.2.1 = some (tyX7 k) := by decide +kernel
noncomputable def RX8 : String := "CountyWatch$Reader"
noncomputable def TX8 : u_T := fun k => match k with
  | 0 => ("CountyWatch$Reader", "bytes", "[I", true)
  | 1 => ("CountyWatch$Reader", "length", "I", false)
  | 2 => ("CountyWatch$Reader", "at", "I", false)
  | 3 => ("CountyWatch$Reader", "fault", "I", false)
  | 4 => ("CountyWatch$Reader", "letters", "Ljava/lang/String;", false)
  | 5 => ("CountyWatch$Reader", "steps", "[I", true)
  | 6 => ("CountyWatch$Reader", "stepCount", "I", false)
  | 7 => ("CountyWatch$Reader", "tooLong", "Z", false)
  | 8 => ("CountyWatch$Reader", "code", "[I", true)
  | _ => ("CountyWatch$Reader", "codeLength", "I", false)
noncomputable def tyX8 : Nat → FieldType := fun k => match k with
  | 0 => .array .int
  | 1 => .int
  | 2 => .int
  | 3 => .int
  | 4 => .object "java/lang/String"
  | 5 => .array .int
  | 6 => .int
  | 7 => .boolean
  | 8 => .array .int
  | _ => .int
theorem nmX8 : ∀ a, a < 10 → ∀ b, b < 10 → a ≠ b → (TX8 a).2.1 ≠ (TX8 b).2.1 := by decide +kernel
theorem tyX8_ok : ∀ k, k < 10 → parseFieldDescriptor (TX8 k).2.2.1 = some (tyX8 k) := by decide +kernel
noncomputable def RX9 : String := "CountyWatch$Roads"
noncomputable def TX9 : u_T := fun k => match k with
  | 0 => ("CountyWatch$Roads", "walks", "[I", true)
  | _ => ("CountyWatch$Roads", "paths", "I", false)
noncomputable def tyX9 : Nat → FieldType := fun k => match k with
  | 0 => .array .int
  | _ => .int
theorem nmX9 : ∀ a, a < 2 → ∀ b, b < 2 → a ≠ b → (TX9 a).2.1 ≠ (TX9 b).2.1 := by decide +kernel
theorem tyX9_ok : ∀ k, k < 2 → parseFieldDescriptor (TX9 k).2.2.1 = some (tyX9 k) := by decide +kernel
noncomputable def RX10 : String := "CountyWatch$Rules"
noncomputable def TX10 : u_T := fun k => match k with
  | 0 => ("CountyWatch$Rules", "days", "[I", true)
  | 1 => ("CountyWatch$Rules", "told", "[I", true)
  | 2 => ("CountyWatch$Rules", "lengths", "[I", true)
  | 3 => ("CountyWatch$Rules", "codes", "[I", true)
  | 4 => ("CountyWatch$Rules", "stack", "[I", true)
  | _ => ("CountyWatch$Rules", "rules", "I", false)
noncomputable def tyX10 : Nat → FieldType := fun k => match k with
  | 0 => .array .int
  | 1 => .array .int
  | 2 => .array .int
  | 3 => .array .int
  | 4 => .array .int
  | _ => .int
theorem nmX10 : ∀ a, a < 6 → ∀ b, b < 6 → a ≠ b → (TX10 a).2.1 ≠ (TX10 b).2.1 := by decide +kernel
theorem tyX10_ok : ∀ k, k < 6 → parseFieldDescriptor (TX10 k).2.2.1 = some (tyX10 k) := by decide +kernel
noncomputable def RX11 : String := "CountyWatch"
noncomputable def TX11 : u_T := fun k => match k with
  | 0 => ("CountyWatch", "now", "I", false)
  | 1 => ("CountyWatch", "roads", "LCountyWatch$Roads;", true)
  | 2 => ("CountyWatch", "reader", "LCountyWatch$Reader;", true)
  | 3 => ("CountyWatch", "beats", "LCountyWatch$Beats;", true)
  | 4 => ("CountyWatch", "acts", "LCountyWatch$Rules;", true)
  | 5 => ("CountyWatch", "pays", "LCountyWatch$Rules;", true)
  | 6 => ("CountyWatch", "men", "[LCountyWatch$Constable;", true)
  | 7 => ("CountyWatch", "manCount", "I", false)
  | 8 => ("CountyWatch", "points", "LCountyWatch$Points;", true)
  | 9 => ("CountyWatch", "looks", "LCountyWatch$Looks;", true)
  | 10 => ("CountyWatch", "cases", "LCountyWatch$Cases;", true)
  | 11 => ("CountyWatch", "goods", "LCountyWatch$Goods;", true)
  | 12 => ("CountyWatch", "plans", "LCountyWatch$Plans;", true)
  | 13 => ("CountyWatch", "payroll", "LCountyWatch$Payroll;", true)
  | 14 => ("CountyWatch", "here", "J", false)
  | _ => ("CountyWatch", "history", "[J", false)
noncomputable def tyX11 : Nat → FieldType := fun k => match k with
  | 0 => .int
  | 1 => .object "CountyWatch$Roads"
  | 2 => .object "CountyWatch$Reader"
  | 3 => .object "CountyWatch$Beats"
  | 4 => .object "CountyWatch$Rules"
  | 5 => .object "CountyWatch$Rules"
  | 6 => .array (.object "CountyWatch$Constable")
  | 7 => .int
  | 8 => .object "CountyWatch$Points"
  | 9 => .object "CountyWatch$Looks"
  | 10 => .object "CountyWatch$Cases"
  | 11 => .object "CountyWatch$Goods"
  | 12 => .object "CountyWatch$Plans"
  | 13 => .object "CountyWatch$Payroll"
  | 14 => .long
  | _ => .array .long
theorem nmX11 : ∀ a, a < 16 → ∀ b, b < 16 → a ≠ b → (TX11 a).2.1 ≠ (TX11 b).2.1 := by decide +kernel
theorem tyX11_ok : ∀ k, k < 16 → parseFieldDescriptor (TX11 k).2.2.1 = some (tyX11 k) := by decide +kernel
noncomputable def RX12 : String := "CountyWatchModel"
noncomputable def TX12 : u_T := fun k => match k with
  | 0 => ("CountyWatchModel", "now", "I", false)
  | 1 => ("CountyWatchModel", "thrown", "I", false)
  | 2 => ("CountyWatchModel", "pathOne", "[I", true)
  | 3 => ("CountyWatchModel", "pathOther", "[I", true)
  | 4 => ("CountyWatchModel", "pathLong", "[I", true)
  | 5 => ("CountyWatchModel", "far", "[I", true)
  | 6 => ("CountyWatchModel", "paths", "I", false)
  | 7 => ("CountyWatchModel", "men", "I", false)
  | 8 => ("CountyWatchModel", "rankFirst", "[I", true)
  | 9 => ("CountyWatchModel", "years", "[I", true)
  | 10 => ("CountyWatchModel", "home", "[I", true)
  | 11 => ("CountyWatchModel", "toldAt", "[I", true)
  | 12 => ("CountyWatchModel", "doing", "[I", true)
  | 13 => ("CountyWatchModel", "place", "[I", true)
  | 14 => ("CountyWatchModel", "goal", "[I", true)
  | 15 => ("CountyWatchModel", "till", "[I", true)
  | 16 => ("CountyWatchModel", "beatOf", "[I", true)
  | 17 => ("CountyWatchModel", "stepOf", "[I", true)
  | 18 => ("CountyWatchModel", "began", "[I", true)
  | 19 => ("CountyWatchModel", "rowOf", "[I", true)
  | 20 => ("CountyWatchModel", "rowNext", "[I", true)
  | 21 => ("CountyWatchModel", "rowEnd", "[I", true)
  | 22 => ("CountyWatchModel", "drawnTo", "[I", true)
  | 23 => ("CountyWatchModel", "drawnTill", "[I", true)
  | 24 => ("CountyWatchModel", "history", "[B", true)
  | 25 => ("CountyWatchModel", "classOf", "[I", true)
  | 26 => ("CountyWatchModel", "classTo", "[I", true)
  | 27 => ("CountyWatchModel", "classDay", "[I", true)
  | 28 => ("CountyWatchModel", "classTold", "[I", true)
  | 29 => ("CountyWatchModel", "classes", "I", false)
  | 30 => ("CountyWatchModel", "tape", "[I", true)
  | 31 => ("CountyWatchModel", "saying", "[I", true)
  | 32 => ("CountyWatchModel", "size", "I", false)
  | 33 => ("CountyWatchModel", "at", "I", false)
  | 34 => ("CountyWatchModel", "wrong", "I", false)
  | 35 => ("CountyWatchModel", "deep", "I", false)
  | 36 => ("CountyWatchModel", "said", "I", false)
  | 37 => ("CountyWatchModel", "sort", "I", false)
  | 38 => ("CountyWatchModel", "beatSize", "[I", true)
  | 39 => ("CountyWatchModel", "stepWhat", "[I", true)
  | 40 => ("CountyWatchModel", "stepA", "[I", true)
  | 41 => ("CountyWatchModel", "stepB", "[I", true)
  | 42 => ("CountyWatchModel", "beats", "I", false)
  | 43 => ("CountyWatchModel", "unfolded", "I", false)
  | 44 => ("CountyWatchModel", "next", "I", false)
  | 45 => ("CountyWatchModel", "codes", "[I", true)
  | 46 => ("CountyWatchModel", "textSize", "[I", true)
  | 47 => ("CountyWatchModel", "textDay", "[I", true)
  | 48 => ("CountyWatchModel", "textTold", "[I", true)
  | 49 => ("CountyWatchModel", "texts", "[I", true)
  | 50 => ("CountyWatchModel", "letters", "[I", true)
  | 51 => ("CountyWatchModel", "pile", "[I", true)
  | 52 => ("CountyWatchModel", "reading", "I", false)
  | 53 => ("CountyWatchModel", "rowMan", "[I", true)
  | 54 => ("CountyWatchModel", "rowPlace", "[I", true)
  | 55 => ("CountyWatchModel", "rowDue", "[I", true)
  | 56 => ("CountyWatchModel", "rowMet", "[I", true)
  | 57 => ("CountyWatchModel", "rowMissed", "[I", true)
  | 58 => ("CountyWatchModel", "rowCause", "[I", true)
  | 59 => ("CountyWatchModel", "rowBegan", "[I", true)
  | 60 => ("CountyWatchModel", "causeRow", "[I", true)
  | 61 => ("CountyWatchModel", "causeTo", "[I", true)
  | 62 => ("CountyWatchModel", "causeTold", "[I", true)
  | 63 => ("CountyWatchModel", "rows", "I", false)
  | 64 => ("CountyWatchModel", "causings", "I", false)
  | 65 => ("CountyWatchModel", "arrives", "[Z", true)
  | 66 => ("CountyWatchModel", "findKind", "[I", true)
  | 67 => ("CountyWatchModel", "findPlace", "[I", true)
  | 68 => ("CountyWatchModel", "findFrom", "[I", true)
  | 69 => ("CountyWatchModel", "findTo", "[I", true)
  | 70 => ("CountyWatchModel", "findWeight", "[I", true)
  | 71 => ("CountyWatchModel", "taken", "[Z", true)
  | 72 => ("CountyWatchModel", "seenBy", "[I", true)
  | 73 => ("CountyWatchModel", "seenWhat", "[I", true)
  | 74 => ("CountyWatchModel", "seenAt", "[I", true)
  | 75 => ("CountyWatchModel", "done", "[I", true)
  | 76 => ("CountyWatchModel", "caseFor", "[I", true)
  | 77 => ("CountyWatchModel", "known", "[I", true)
  | 78 => ("CountyWatchModel", "seenLetters", "[I", true)
  | 79 => ("CountyWatchModel", "finds", "I", false)
  | 80 => ("CountyWatchModel", "sightings", "I", false)
  | 81 => ("CountyWatchModel", "caseKind", "[I", true)
  | 82 => ("CountyWatchModel", "caseAt", "[I", true)
  | 83 => ("CountyWatchModel", "needs", "[I", true)
  | 84 => ("CountyWatchModel", "wants", "[I", true)
  | 85 => ("CountyWatchModel", "sayCase", "[I", true)
  | 86 => ("CountyWatchModel", "sayFact", "[I", true)
  | 87 => ("CountyWatchModel", "sayBy", "[I", true)
  | 88 => ("CountyWatchModel", "sayTold", "[I", true)
  | 89 => ("CountyWatchModel", "sayYes", "[Z", true)
  | 90 => ("CountyWatchModel", "gone", "[I", true)
  | 91 => ("CountyWatchModel", "isGone", "[Z", true)
  | 92 => ("CountyWatchModel", "storySo", "[I", true)
  | 93 => ("CountyWatchModel", "storyNot", "[I", true)
  | 94 => ("CountyWatchModel", "storyTold", "[I", true)
  | 95 => ("CountyWatchModel", "stories", "[I", true)
  | 96 => ("CountyWatchModel", "cases", "I", false)
  | 97 => ("CountyWatchModel", "statements", "I", false)
  | 98 => ("CountyWatchModel", "had", "[I", true)
  | 99 => ("CountyWatchModel", "lostMarks", "[I", true)
  | 100 => ("CountyWatchModel", "foundMarks", "[I", true)
  | 101 => ("CountyWatchModel", "lostMany", "I", false)
  | 102 => ("CountyWatchModel", "foundMany", "I", false)
  | 103 => ("CountyWatchModel", "leastLike", "I", false)
  | 104 => ("CountyWatchModel", "most", "[I", true)
  | 105 => ("CountyWatchModel", "watchPlace", "[I", true)
  | 106 => ("CountyWatchModel", "watchFrom", "[I", true)
  | 107 => ("CountyWatchModel", "watchTo", "[I", true)
  | 108 => ("CountyWatchModel", "watches", "I", false)
  | 109 => ("CountyWatchModel", "chosen", "[I", true)
  | 110 => ("CountyWatchModel", "parts", "[I", true)
  | 111 => ("CountyWatchModel", "bestParts", "[I", true)
  | 112 => ("CountyWatchModel", "seenBits", "[I", true)
  | 113 => ("CountyWatchModel", "chosenMany", "I", false)
  | 114 => ("CountyWatchModel", "bestSafe", "I", false)
  | 115 => ("CountyWatchModel", "bestSum", "I", false)
  | 116 => ("CountyWatchModel", "fairPlace", "[I", true)
  | 117 => ("CountyWatchModel", "fairAt", "[I", true)
  | 118 => ("CountyWatchModel", "fairWants", "[I", true)
  | 119 => ("CountyWatchModel", "fairMany", "I", false)
  | 120 => ("CountyWatchModel", "least1", "[I", true)
  | 121 => ("CountyWatchModel", "costs", "[I", true)
  | 122 => ("CountyWatchModel", "booked", "[I", true)
  | 123 => ("CountyWatchModel", "lineMan", "[I", true)
  | 124 => ("CountyWatchModel", "lineDay", "[I", true)
  | 125 => ("CountyWatchModel", "lineCoins", "[I", true)
  | 126 => ("CountyWatchModel", "lineAt", "[I", true)
  | 127 => ("CountyWatchModel", "lines", "I", false)
  | 128 => ("CountyWatchModel", "marks", "[I", true)
  | 129 => ("CountyWatchModel", "marked", "[Z", true)
  | _ => ("CountyWatchModel", "least3", "I", false)
noncomputable def tyX12 : Nat → FieldType := fun k => match k with
  | 0 => .int
  | 1 => .int
  | 2 => .array .int
  | 3 => .array .int
  | 4 => .array .int
  | 5 => .array .int
  | 6 => .int
  | 7 => .int
  | 8 => .array .int
  | 9 => .array .int
  | 10 => .array .int
  | 11 => .array .int
  | 12 => .array .int
  | 13 => .array .int
  | 14 => .array .int
  | 15 => .array .int
  | 16 => .array .int
  | 17 => .array .int
  | 18 => .array .int
  | 19 => .array .int
  | 20 => .array .int
  | 21 => .array .int
  | 22 => .array .int
  | 23 => .array .int
  | 24 => .array .byte
  | 25 => .array .int
  | 26 => .array .int
  | 27 => .array .int
  | 28 => .array .int
  | 29 => .int
  | 30 => .array .int
  | 31 => .array .int
  | 32 => .int
  | 33 => .int
  | 34 => .int
  | 35 => .int
  | 36 => .int
  | 37 => .int
  | 38 => .array .int
  | 39 => .array .int
  | 40 => .array .int
  | 41 => .array .int
  | 42 => .int
  | 43 => .int
  | 44 => .int
  | 45 => .array .int
  | 46 => .array .int
  | 47 => .array .int
  | 48 => .array .int
  | 49 => .array .int
  | 50 => .array .int
  | 51 => .array .int
  | 52 => .int
  | 53 => .array .int
  | 54 => .array .int
  | 55 => .array .int
  | 56 => .array .int
  | 57 => .array .int
  | 58 => .array .int
  | 59 => .array .int
  | 60 => .array .int
  | 61 => .array .int
  | 62 => .array .int
  | 63 => .int
  | 64 => .int
  | 65 => .array .boolean
  | 66 => .array .int
  | 67 => .array .int
  | 68 => .array .int
  | 69 => .array .int
  | 70 => .array .int
  | 71 => .array .boolean
  | 72 => .array .int
  | 73 => .array .int
  | 74 => .array .int
  | 75 => .array .int
  | 76 => .array .int
  | 77 => .array .int
  | 78 => .array .int
  | 79 => .int
  | 80 => .int
  | 81 => .array .int
  | 82 => .array .int
  | 83 => .array .int
  | 84 => .array .int
  | 85 => .array .int
  | 86 => .array .int
  | 87 => .array .int
  | 88 => .array .int
  | 89 => .array .boolean
  | 90 => .array .int
  | 91 => .array .boolean
  | 92 => .array .int
  | 93 => .array .int
  | 94 => .array .int
  | 95 => .array .int
  | 96 => .int
  | 97 => .int
  | 98 => .array .int
  | 99 => .array .int
  | 100 => .array .int
  | 101 => .int
  | 102 => .int
  | 103 => .int
  | 104 => .array .int
  | 105 => .array .int
  | 106 => .array .int
  | 107 => .array .int
  | 108 => .int
  | 109 => .array .int
  | 110 => .array .int
  | 111 => .array .int
  | 112 => .array .int
  | 113 => .int
  | 114 => .int
  | 115 => .int
  | 116 => .array .int
  | 117 => .array .int
  | 118 => .array .int
  | 119 => .int
  | 120 => .array .int
  | 121 => .array .int
  | 122 => .array .int
  | 123 => .array .int
  | 124 => .array .int
  | 125 => .array .int
  | 126 => .array .int
  | 127 => .int
  | 128 => .array .int
  | 129 => .array .boolean
  | _ => .int
noncomputable def ixZ12 (s : String) : Nat := ["now", "thrown", "pathOne", "pathOther", "pathLong", "far", "paths", "men", "rankFirst", "years", "home", "toldAt", "doing", "place", "goal", "till", "beatOf", "stepOf", "began", "rowOf", "rowNext", "rowEnd", "drawnTo", "drawnTill", "history", "classOf", "classTo", "classDay", "classTold", "classes", "tape", "saying", "size", "at", "wrong", "deep", "said", "sort", "beatSize", "stepWhat", "stepA", "stepB", "beats", "unfolded", "next", "codes", "textSize", "textDay", "textTold", "texts", "letters", "pile", "reading", "rowMan", "rowPlace", "rowDue", "rowMet", "rowMissed", "rowCause", "rowBegan", "causeRow", "causeTo", "causeTold", "rows", "causings", "arrives", "findKind", "findPlace", "findFrom", "findTo", "findWeight", "taken", "seenBy", "seenWhat", "seenAt", "done", "caseFor", "known", "seenLetters", "finds", "sightings", "caseKind", "caseAt", "needs", "wants", "sayCase", "sayFact", "sayBy", "sayTold", "sayYes", "gone", "isGone", "storySo", "storyNot", "storyTold", "stories", "cases", "statements", "had", "lostMarks", "foundMarks", "lostMany", "foundMany", "leastLike", "most", "watchPlace", "watchFrom", "watchTo", "watches", "chosen", "parts", "bestParts", "seenBits", "chosenMany", "bestSafe", "bestSum", "fairPlace", "fairAt", "fairWants", "fairMany", "least1", "costs", "booked", "lineMan", "lineDay", "lineCoins", "lineAt", "lines", "marks", "marked", "least3"].findIdx (fun t => t == s)
theorem ixZ12_ok : ∀ a, a < 131 → ixZ12 (TX12 a).2.1 = a := by decide +kernel
theorem nmX12 : ∀ a, a < 131 → ∀ b, b < 131 → a ≠ b → (TX12 a).2.1 ≠ (TX12 b).2.1 := fun a ha b hb ne e => ne (by rw [← ixZ12_ok a ha, e, ixZ12_ok b hb])
theorem tyX12_ok : ∀ k, k < 131 → parseFieldDescriptor (TX12 k).2.2.1 = some (tyX12 k) := by decide +kernel
theorem tw_109 : (Jvm.Cond.laysFinal "CountyWatch$Beats" "CountyWatch$Beats" "steps" "[I") ∈ lw_g := lw_gm (tqs_1_6 (List.mem_of_getElem? (i := 13) rfl)) rfl
theorem tw_111 : (Jvm.Cond.laysFinal "CountyWatch$Beats" "CountyWatch$Beats" "lengths" "[I") ∈ lw_g := lw_gm (tqs_1_6 (List.mem_of_getElem? (i := 15) rfl)) rfl
theorem tw_113 : (Jvm.Cond.laysFinal "CountyWatch$Beats" "CountyWatch$Beats" "meetings" "[I") ∈ lw_g := lw_gm (tqs_1_7 (List.mem_of_getElem? (i := 1) rfl)) rfl
theorem tw_115 : (Jvm.Cond.lays "CountyWatch$Beats" "CountyWatch$Beats" "beats" "I") ∈ lw_g := lw_gm (tqs_1_7 (List.mem_of_getElem? (i := 3) rfl)) rfl
set_option maxRecDepth 100000 in
theorem eX0 : u_ws RX0 TX0 4 = [(Jvm.Cond.laysFinal "CountyWatch$Beats" "CountyWatch$Beats" "steps" "[I"), (Jvm.Cond.laysFinal "CountyWatch$Beats" "CountyWatch$Beats" "lengths" "[I"), (Jvm.Cond.laysFinal "CountyWatch$Beats" "CountyWatch$Beats" "meetings" "[I"), (Jvm.Cond.lays "CountyWatch$Beats" "CountyWatch$Beats" "beats" "I")] := by decide +kernel
theorem iX0 : ∀ w ∈ u_ws RX0 TX0 4, w ∈ lw_g := by
  rw [eX0]
  exact List.forall_mem_cons.mpr ⟨tw_109, List.forall_mem_cons.mpr ⟨tw_111, List.forall_mem_cons.mpr ⟨tw_113, List.forall_mem_cons.mpr ⟨tw_115, fun _ h => absurd h List.not_mem_nil⟩⟩⟩⟩
theorem tw_282 : (Jvm.Cond.laysFinal "CountyWatch$Cases" "CountyWatch$Cases" "kind" "[I") ∈ lw_g := lw_gm (tqs_2_2 (List.mem_of_getElem? (i := 10) rfl)) rfl
theorem tw_284 : (Jvm.Cond.laysFinal "CountyWatch$Cases" "CountyWatch$Cases" "openedAt" "[I") ∈ lw_g := lw_gm (tqs_2_2 (List.mem_of_getElem? (i := 12) rfl)) rfl
theorem tw_286 : (Jvm.Cond.laysFinal "CountyWatch$Cases" "CountyWatch$Cases" "stories" "[I") ∈ lw_g := lw_gm (tqs_2_2 (List.mem_of_getElem? (i := 14) rfl)) rfl
theorem tw_288 : (Jvm.Cond.lays "CountyWatch$Cases" "CountyWatch$Cases" "opened" "I") ∈ lw_g := lw_gm (tqs_2_3 (List.mem_of_getElem? (i := 0) rfl)) rfl
theorem tw_290 : (Jvm.Cond.laysFinal "CountyWatch$Cases" "CountyWatch$Cases" "needs" "[I") ∈ lw_g := lw_gm (tqs_2_3 (List.mem_of_getElem? (i := 2) rfl)) rfl
theorem tw_292 : (Jvm.Cond.laysFinal "CountyWatch$Cases" "CountyWatch$Cases" "wants" "[I") ∈ lw_g := lw_gm (tqs_2_3 (List.mem_of_getElem? (i := 4) rfl)) rfl
theorem tw_294 : (Jvm.Cond.laysFinal "CountyWatch$Cases" "CountyWatch$Cases" "statement" "[I") ∈ lw_g := lw_gm (tqs_2_3 (List.mem_of_getElem? (i := 6) rfl)) rfl
theorem tw_296 : (Jvm.Cond.laysFinal "CountyWatch$Cases" "CountyWatch$Cases" "statedAt" "[I") ∈ lw_g := lw_gm (tqs_2_3 (List.mem_of_getElem? (i := 8) rfl)) rfl
theorem tw_298 : (Jvm.Cond.lays "CountyWatch$Cases" "CountyWatch$Cases" "statements" "I") ∈ lw_g := lw_gm (tqs_2_3 (List.mem_of_getElem? (i := 10) rfl)) rfl
theorem tw_300 : (Jvm.Cond.laysFinal "CountyWatch$Cases" "CountyWatch$Cases" "withdrawnAt" "[I") ∈ lw_g := lw_gm (tqs_2_3 (List.mem_of_getElem? (i := 12) rfl)) rfl
theorem tw_302 : (Jvm.Cond.laysFinal "CountyWatch$Cases" "CountyWatch$Cases" "storySo" "[I") ∈ lw_g := lw_gm (tqs_2_3 (List.mem_of_getElem? (i := 14) rfl)) rfl
theorem tw_304 : (Jvm.Cond.laysFinal "CountyWatch$Cases" "CountyWatch$Cases" "storyNot" "[I") ∈ lw_g := lw_gm (tqs_2_4 (List.mem_of_getElem? (i := 0) rfl)) rfl
theorem tw_306 : (Jvm.Cond.laysFinal "CountyWatch$Cases" "CountyWatch$Cases" "storyAt" "[I") ∈ lw_g := lw_gm (tqs_2_4 (List.mem_of_getElem? (i := 2) rfl)) rfl
theorem tw_308 : (Jvm.Cond.laysFinal "CountyWatch$Cases" "CountyWatch$Cases" "yesBits" "[I") ∈ lw_g := lw_gm (tqs_2_4 (List.mem_of_getElem? (i := 4) rfl)) rfl
theorem tw_310 : (Jvm.Cond.laysFinal "CountyWatch$Cases" "CountyWatch$Cases" "noBits" "[I") ∈ lw_g := lw_gm (tqs_2_4 (List.mem_of_getElem? (i := 6) rfl)) rfl
theorem tw_312 : (Jvm.Cond.laysFinal "CountyWatch$Cases" "CountyWatch$Cases" "before" "[I") ∈ lw_g := lw_gm (tqs_2_4 (List.mem_of_getElem? (i := 8) rfl)) rfl
set_option maxRecDepth 100000 in
theorem eX1 : u_ws RX1 TX1 16 = [(Jvm.Cond.laysFinal "CountyWatch$Cases" "CountyWatch$Cases" "kind" "[I"), (Jvm.Cond.laysFinal "CountyWatch$Cases" "CountyWatch$Cases" "openedAt" "[I"), (Jvm.Cond.laysFinal "CountyWatch$Cases" "CountyWatch$Cases" "stories" "[I"), (Jvm.Cond.lays "CountyWatch$Cases" "CountyWatch$Cases" "opened" "I"), (Jvm.Cond.laysFinal "CountyWatch$Cases" "CountyWatch$Cases" "needs" "[I"), (Jvm.Cond.laysFinal "CountyWatch$Cases" "CountyWatch$Cases" "wants" "[I"), (Jvm.Cond.laysFinal "CountyWatch$Cases" "CountyWatch$Cases" "statement" "[I"), (Jvm.Cond.laysFinal "CountyWatch$Cases" "CountyWatch$Cases" "statedAt" "[I"), (Jvm.Cond.lays "CountyWatch$Cases" "CountyWatch$Cases" "statements" "I"), (Jvm.Cond.laysFinal "CountyWatch$Cases" "CountyWatch$Cases" "withdrawnAt" "[I"), (Jvm.Cond.laysFinal "CountyWatch$Cases" "CountyWatch$Cases" "storySo" "[I"), (Jvm.Cond.laysFinal "CountyWatch$Cases" "CountyWatch$Cases" "storyNot" "[I"), (Jvm.Cond.laysFinal "CountyWatch$Cases" "CountyWatch$Cases" "storyAt" "[I"), (Jvm.Cond.laysFinal "CountyWatch$Cases" "CountyWatch$Cases" "yesBits" "[I"), (Jvm.Cond.laysFinal "CountyWatch$Cases" "CountyWatch$Cases" "noBits" "[I"), (Jvm.Cond.laysFinal "CountyWatch$Cases" "CountyWatch$Cases" "before" "[I")] := by decide +kernel
theorem iX1 : ∀ w ∈ u_ws RX1 TX1 16, w ∈ lw_g := by
  rw [eX1]
  exact List.forall_mem_cons.mpr ⟨tw_282, List.forall_mem_cons.mpr ⟨tw_284, List.forall_mem_cons.mpr ⟨tw_286, List.forall_mem_cons.mpr ⟨tw_288, List.forall_mem_cons.mpr ⟨tw_290, List.forall_mem_cons.mpr ⟨tw_292, List.forall_mem_cons.mpr ⟨tw_294, List.forall_mem_cons.mpr ⟨tw_296, List.forall_mem_cons.mpr ⟨tw_298, List.forall_mem_cons.mpr ⟨tw_300, List.forall_mem_cons.mpr ⟨tw_302, List.forall_mem_cons.mpr ⟨tw_304, List.forall_mem_cons.mpr ⟨tw_306, List.forall_mem_cons.mpr ⟨tw_308, List.forall_mem_cons.mpr ⟨tw_310, List.forall_mem_cons.mpr ⟨tw_312, fun _ h => absurd h List.not_mem_nil⟩⟩⟩⟩⟩⟩⟩⟩⟩⟩⟩⟩⟩⟩⟩⟩
theorem tw_599 : (Jvm.Cond.laysFinal "CountyWatch$Constable" "CountyWatch$Constable" "number" "I") ∈ lw_g := lw_gm (tqs_3_7 (List.mem_of_getElem? (i := 7) rfl)) rfl
theorem tw_601 : (Jvm.Cond.laysFinal "CountyWatch$Constable" "CountyWatch$Constable" "rank" "I") ∈ lw_g := lw_gm (tqs_3_7 (List.mem_of_getElem? (i := 9) rfl)) rfl
theorem tw_603 : (Jvm.Cond.laysFinal "CountyWatch$Constable" "CountyWatch$Constable" "years" "I") ∈ lw_g := lw_gm (tqs_3_7 (List.mem_of_getElem? (i := 11) rfl)) rfl
theorem tw_605 : (Jvm.Cond.laysFinal "CountyWatch$Constable" "CountyWatch$Constable" "home" "I") ∈ lw_g := lw_gm (tqs_3_7 (List.mem_of_getElem? (i := 13) rfl)) rfl
theorem tw_607 : (Jvm.Cond.lays "CountyWatch$Constable" "CountyWatch$Constable" "about" "I") ∈ lw_g := lw_gm (tqs_3_7 (List.mem_of_getElem? (i := 15) rfl)) rfl
theorem tw_609 : (Jvm.Cond.lays "CountyWatch$Constable" "CountyWatch$Constable" "place" "I") ∈ lw_g := lw_gm (tqs_3_8 (List.mem_of_getElem? (i := 1) rfl)) rfl
theorem tw_611 : (Jvm.Cond.lays "CountyWatch$Constable" "CountyWatch$Constable" "target" "I") ∈ lw_g := lw_gm (tqs_3_8 (List.mem_of_getElem? (i := 3) rfl)) rfl
theorem tw_613 : (Jvm.Cond.lays "CountyWatch$Constable" "CountyWatch$Constable" "till" "I") ∈ lw_g := lw_gm (tqs_3_8 (List.mem_of_getElem? (i := 5) rfl)) rfl
theorem tw_615 : (Jvm.Cond.lays "CountyWatch$Constable" "CountyWatch$Constable" "beat" "I") ∈ lw_g := lw_gm (tqs_3_8 (List.mem_of_getElem? (i := 7) rfl)) rfl
theorem tw_617 : (Jvm.Cond.lays "CountyWatch$Constable" "CountyWatch$Constable" "step" "I") ∈ lw_g := lw_gm (tqs_3_8 (List.mem_of_getElem? (i := 9) rfl)) rfl
theorem tw_619 : (Jvm.Cond.lays "CountyWatch$Constable" "CountyWatch$Constable" "begun" "I") ∈ lw_g := lw_gm (tqs_3_8 (List.mem_of_getElem? (i := 11) rfl)) rfl
theorem tw_621 : (Jvm.Cond.lays "CountyWatch$Constable" "CountyWatch$Constable" "row" "I") ∈ lw_g := lw_gm (tqs_3_8 (List.mem_of_getElem? (i := 13) rfl)) rfl
theorem tw_623 : (Jvm.Cond.lays "CountyWatch$Constable" "CountyWatch$Constable" "rowsEnd" "I") ∈ lw_g := lw_gm (tqs_3_8 (List.mem_of_getElem? (i := 15) rfl)) rfl
theorem tw_625 : (Jvm.Cond.lays "CountyWatch$Constable" "CountyWatch$Constable" "drawnTo" "I") ∈ lw_g := lw_gm (tqs_3_9 (List.mem_of_getElem? (i := 1) rfl)) rfl
theorem tw_627 : (Jvm.Cond.lays "CountyWatch$Constable" "CountyWatch$Constable" "drawnTill" "I") ∈ lw_g := lw_gm (tqs_3_9 (List.mem_of_getElem? (i := 3) rfl)) rfl
theorem tw_629 : (Jvm.Cond.lays "CountyWatch$Constable" "CountyWatch$Constable" "met" "I") ∈ lw_g := lw_gm (tqs_3_9 (List.mem_of_getElem? (i := 5) rfl)) rfl
theorem tw_631 : (Jvm.Cond.lays "CountyWatch$Constable" "CountyWatch$Constable" "missed" "I") ∈ lw_g := lw_gm (tqs_3_9 (List.mem_of_getElem? (i := 7) rfl)) rfl
set_option maxRecDepth 100000 in
theorem eX2 : u_ws RX2 TX2 17 = [(Jvm.Cond.laysFinal "CountyWatch$Constable" "CountyWatch$Constable" "number" "I"), (Jvm.Cond.laysFinal "CountyWatch$Constable" "CountyWatch$Constable" "rank" "I"), (Jvm.Cond.laysFinal "CountyWatch$Constable" "CountyWatch$Constable" "years" "I"), (Jvm.Cond.laysFinal "CountyWatch$Constable" "CountyWatch$Constable" "home" "I"), (Jvm.Cond.lays "CountyWatch$Constable" "CountyWatch$Constable" "about" "I"), (Jvm.Cond.lays "CountyWatch$Constable" "CountyWatch$Constable" "place" "I"), (Jvm.Cond.lays "CountyWatch$Constable" "CountyWatch$Constable" "target" "I"), (Jvm.Cond.lays "CountyWatch$Constable" "CountyWatch$Constable" "till" "I"), (Jvm.Cond.lays "CountyWatch$Constable" "CountyWatch$Constable" "beat" "I"), (Jvm.Cond.lays "CountyWatch$Constable" "CountyWatch$Constable" "step" "I"), (Jvm.Cond.lays "CountyWatch$Constable" "CountyWatch$Constable" "begun" "I"), (Jvm.Cond.lays "CountyWatch$Constable" "CountyWatch$Constable" "row" "I"), (Jvm.Cond.lays "CountyWatch$Constable" "CountyWatch$Constable" "rowsEnd" "I"), (Jvm.Cond.lays "CountyWatch$Constable" "CountyWatch$Constable" "drawnTo" "I"), (Jvm.Cond.lays "CountyWatch$Constable" "CountyWatch$Constable" "drawnTill" "I"), (Jvm.Cond.lays "CountyWatch$Constable" "CountyWatch$Constable" "met" "I"), (Jvm.Cond.lays "CountyWatch$Constable" "CountyWatch$Constable" "missed" "I")] := by decide +kernel
theorem iX2 : ∀ w ∈ u_ws RX2 TX2 17, w ∈ lw_g := by
  rw [eX2]
  exact List.forall_mem_cons.mpr ⟨tw_599, List.forall_mem_cons.mpr ⟨tw_601, List.forall_mem_cons.mpr ⟨tw_603, List.forall_mem_cons.mpr ⟨tw_605, List.forall_mem_cons.mpr ⟨tw_607, List.forall_mem_cons.mpr ⟨tw_609, List.forall_mem_cons.mpr ⟨tw_611, List.forall_mem_cons.mpr ⟨tw_613, List.forall_mem_cons.mpr ⟨tw_615, List.forall_mem_cons.mpr ⟨tw_617, List.forall_mem_cons.mpr ⟨tw_619, List.forall_mem_cons.mpr ⟨tw_621, List.forall_mem_cons.mpr ⟨tw_623, List.forall_mem_cons.mpr ⟨tw_625, List.forall_mem_cons.mpr ⟨tw_627, List.forall_mem_cons.mpr ⟨tw_629, List.forall_mem_cons.mpr ⟨tw_631, fun _ h => absurd h List.not_mem_nil⟩⟩⟩⟩⟩⟩⟩⟩⟩⟩⟩⟩⟩⟩⟩⟩⟩
theorem tw_334 : (Jvm.Cond.laysFinal "CountyWatch$Goods" "CountyWatch$Goods" "lost" "[I") ∈ lw_g := lw_gm (tqs_2_5 (List.mem_of_getElem? (i := 14) rfl)) rfl
theorem tw_336 : (Jvm.Cond.laysFinal "CountyWatch$Goods" "CountyWatch$Goods" "found" "[I") ∈ lw_g := lw_gm (tqs_2_6 (List.mem_of_getElem? (i := 0) rfl)) rfl
theorem tw_338 : (Jvm.Cond.lays "CountyWatch$Goods" "CountyWatch$Goods" "lostGoods" "I") ∈ lw_g := lw_gm (tqs_2_6 (List.mem_of_getElem? (i := 2) rfl)) rfl
theorem tw_340 : (Jvm.Cond.lays "CountyWatch$Goods" "CountyWatch$Goods" "foundGoods" "I") ∈ lw_g := lw_gm (tqs_2_6 (List.mem_of_getElem? (i := 4) rfl)) rfl
theorem tw_342 : (Jvm.Cond.lays "CountyWatch$Goods" "CountyWatch$Goods" "leastMarks" "I") ∈ lw_g := lw_gm (tqs_2_6 (List.mem_of_getElem? (i := 6) rfl)) rfl
theorem tw_344 : (Jvm.Cond.lays "CountyWatch$Goods" "CountyWatch$Goods" "stale" "Z") ∈ lw_g := lw_gm (tqs_2_6 (List.mem_of_getElem? (i := 8) rfl)) rfl
theorem tw_346 : (Jvm.Cond.laysFinal "CountyWatch$Goods" "CountyWatch$Goods" "gain" "[I") ∈ lw_g := lw_gm (tqs_2_6 (List.mem_of_getElem? (i := 10) rfl)) rfl
theorem tw_348 : (Jvm.Cond.laysFinal "CountyWatch$Goods" "CountyWatch$Goods" "best" "[I") ∈ lw_g := lw_gm (tqs_2_6 (List.mem_of_getElem? (i := 12) rfl)) rfl
theorem tw_350 : (Jvm.Cond.laysFinal "CountyWatch$Goods" "CountyWatch$Goods" "reached" "[Z") ∈ lw_g := lw_gm (tqs_2_6 (List.mem_of_getElem? (i := 14) rfl)) rfl
theorem tw_352 : (Jvm.Cond.laysFinal "CountyWatch$Goods" "CountyWatch$Goods" "choices" "[I") ∈ lw_g := lw_gm (tqs_2_7 (List.mem_of_getElem? (i := 0) rfl)) rfl
theorem tw_354 : (Jvm.Cond.laysFinal "CountyWatch$Goods" "CountyWatch$Goods" "first" "[I") ∈ lw_g := lw_gm (tqs_2_7 (List.mem_of_getElem? (i := 2) rfl)) rfl
set_option maxRecDepth 100000 in
theorem eX3 : u_ws RX3 TX3 11 = [(Jvm.Cond.laysFinal "CountyWatch$Goods" "CountyWatch$Goods" "lost" "[I"), (Jvm.Cond.laysFinal "CountyWatch$Goods" "CountyWatch$Goods" "found" "[I"), (Jvm.Cond.lays "CountyWatch$Goods" "CountyWatch$Goods" "lostGoods" "I"), (Jvm.Cond.lays "CountyWatch$Goods" "CountyWatch$Goods" "foundGoods" "I"), (Jvm.Cond.lays "CountyWatch$Goods" "CountyWatch$Goods" "leastMarks" "I"), (Jvm.Cond.lays "CountyWatch$Goods" "CountyWatch$Goods" "stale" "Z"), (Jvm.Cond.laysFinal "CountyWatch$Goods" "CountyWatch$Goods" "gain" "[I"), (Jvm.Cond.laysFinal "CountyWatch$Goods" "CountyWatch$Goods" "best" "[I"), (Jvm.Cond.laysFinal "CountyWatch$Goods" "CountyWatch$Goods" "reached" "[Z"), (Jvm.Cond.laysFinal "CountyWatch$Goods" "CountyWatch$Goods" "choices" "[I"), (Jvm.Cond.laysFinal "CountyWatch$Goods" "CountyWatch$Goods" "first" "[I")] := by decide +kernel
theorem iX3 : ∀ w ∈ u_ws RX3 TX3 11, w ∈ lw_g := by
  rw [eX3]
  exact List.forall_mem_cons.mpr ⟨tw_334, List.forall_mem_cons.mpr ⟨tw_336, List.forall_mem_cons.mpr ⟨tw_338, List.forall_mem_cons.mpr ⟨tw_340, List.forall_mem_cons.mpr ⟨tw_342, List.forall_mem_cons.mpr ⟨tw_344, List.forall_mem_cons.mpr ⟨tw_346, List.forall_mem_cons.mpr ⟨tw_348, List.forall_mem_cons.mpr ⟨tw_350, List.forall_mem_cons.mpr ⟨tw_352, List.forall_mem_cons.mpr ⟨tw_354, fun _ h => absurd h List.not_mem_nil⟩⟩⟩⟩⟩⟩⟩⟩⟩⟩⟩
theorem tw_217 : (Jvm.Cond.laysFinal "CountyWatch$Looks" "CountyWatch$Looks" "kind" "[I") ∈ lw_g := lw_gm (tqs_1_13 (List.mem_of_getElem? (i := 9) rfl)) rfl
theorem tw_219 : (Jvm.Cond.laysFinal "CountyWatch$Looks" "CountyWatch$Looks" "place" "[I") ∈ lw_g := lw_gm (tqs_1_13 (List.mem_of_getElem? (i := 11) rfl)) rfl
theorem tw_221 : (Jvm.Cond.laysFinal "CountyWatch$Looks" "CountyWatch$Looks" "from" "[I") ∈ lw_g := lw_gm (tqs_1_13 (List.mem_of_getElem? (i := 13) rfl)) rfl
theorem tw_223 : (Jvm.Cond.laysFinal "CountyWatch$Looks" "CountyWatch$Looks" "to" "[I") ∈ lw_g := lw_gm (tqs_1_13 (List.mem_of_getElem? (i := 15) rfl)) rfl
theorem tw_225 : (Jvm.Cond.laysFinal "CountyWatch$Looks" "CountyWatch$Looks" "weight" "[I") ∈ lw_g := lw_gm (tqs_1_14 (List.mem_of_getElem? (i := 1) rfl)) rfl
theorem tw_227 : (Jvm.Cond.laysFinal "CountyWatch$Looks" "CountyWatch$Looks" "seen" "[I") ∈ lw_g := lw_gm (tqs_1_14 (List.mem_of_getElem? (i := 3) rfl)) rfl
theorem tw_229 : (Jvm.Cond.laysFinal "CountyWatch$Looks" "CountyWatch$Looks" "taken" "[Z") ∈ lw_g := lw_gm (tqs_1_14 (List.mem_of_getElem? (i := 5) rfl)) rfl
theorem tw_231 : (Jvm.Cond.lays "CountyWatch$Looks" "CountyWatch$Looks" "finds" "I") ∈ lw_g := lw_gm (tqs_1_14 (List.mem_of_getElem? (i := 7) rfl)) rfl
theorem tw_233 : (Jvm.Cond.lays "CountyWatch$Looks" "CountyWatch$Looks" "takenFinds" "I") ∈ lw_g := lw_gm (tqs_1_14 (List.mem_of_getElem? (i := 9) rfl)) rfl
theorem tw_235 : (Jvm.Cond.laysFinal "CountyWatch$Looks" "CountyWatch$Looks" "man" "[I") ∈ lw_g := lw_gm (tqs_1_14 (List.mem_of_getElem? (i := 11) rfl)) rfl
theorem tw_237 : (Jvm.Cond.laysFinal "CountyWatch$Looks" "CountyWatch$Looks" "find" "[I") ∈ lw_g := lw_gm (tqs_1_14 (List.mem_of_getElem? (i := 13) rfl)) rfl
theorem tw_239 : (Jvm.Cond.laysFinal "CountyWatch$Looks" "CountyWatch$Looks" "minute" "[I") ∈ lw_g := lw_gm (tqs_1_14 (List.mem_of_getElem? (i := 15) rfl)) rfl
theorem tw_241 : (Jvm.Cond.laysFinal "CountyWatch$Looks" "CountyWatch$Looks" "done" "[I") ∈ lw_g := lw_gm (tqs_2_0 (List.mem_of_getElem? (i := 1) rfl)) rfl
theorem tw_243 : (Jvm.Cond.laysFinal "CountyWatch$Looks" "CountyWatch$Looks" "opened" "[I") ∈ lw_g := lw_gm (tqs_2_0 (List.mem_of_getElem? (i := 3) rfl)) rfl
theorem tw_245 : (Jvm.Cond.laysFinal "CountyWatch$Looks" "CountyWatch$Looks" "known" "[I") ∈ lw_g := lw_gm (tqs_2_0 (List.mem_of_getElem? (i := 5) rfl)) rfl
theorem tw_247 : (Jvm.Cond.laysFinal "CountyWatch$Looks" "CountyWatch$Looks" "letters" "[I") ∈ lw_g := lw_gm (tqs_2_0 (List.mem_of_getElem? (i := 7) rfl)) rfl
theorem tw_249 : (Jvm.Cond.lays "CountyWatch$Looks" "CountyWatch$Looks" "sightings" "I") ∈ lw_g := lw_gm (tqs_2_0 (List.mem_of_getElem? (i := 9) rfl)) rfl
set_option maxRecDepth 100000 in
theorem eX4 : u_ws RX4 TX4 17 = [(Jvm.Cond.laysFinal "CountyWatch$Looks" "CountyWatch$Looks" "kind" "[I"), (Jvm.Cond.laysFinal "CountyWatch$Looks" "CountyWatch$Looks" "place" "[I"), (Jvm.Cond.laysFinal "CountyWatch$Looks" "CountyWatch$Looks" "from" "[I"), (Jvm.Cond.laysFinal "CountyWatch$Looks" "CountyWatch$Looks" "to" "[I"), (Jvm.Cond.laysFinal "CountyWatch$Looks" "CountyWatch$Looks" "weight" "[I"), (Jvm.Cond.laysFinal "CountyWatch$Looks" "CountyWatch$Looks" "seen" "[I"), (Jvm.Cond.laysFinal "CountyWatch$Looks" "CountyWatch$Looks" "taken" "[Z"), (Jvm.Cond.lays "CountyWatch$Looks" "CountyWatch$Looks" "finds" "I"), (Jvm.Cond.lays "CountyWatch$Looks" "CountyWatch$Looks" "takenFinds" "I"), (Jvm.Cond.laysFinal "CountyWatch$Looks" "CountyWatch$Looks" "man" "[I"), (Jvm.Cond.laysFinal "CountyWatch$Looks" "CountyWatch$Looks" "find" "[I"), (Jvm.Cond.laysFinal "CountyWatch$Looks" "CountyWatch$Looks" "minute" "[I"), (Jvm.Cond.laysFinal "CountyWatch$Looks" "CountyWatch$Looks" "done" "[I"), (Jvm.Cond.laysFinal "CountyWatch$Looks" "CountyWatch$Looks" "opened" "[I"), (Jvm.Cond.laysFinal "CountyWatch$Looks" "CountyWatch$Looks" "known" "[I"), (Jvm.Cond.laysFinal "CountyWatch$Looks" "CountyWatch$Looks" "letters" "[I"), (Jvm.Cond.lays "CountyWatch$Looks" "CountyWatch$Looks" "sightings" "I")] := by decide +kernel
theorem iX4 : ∀ w ∈ u_ws RX4 TX4 17, w ∈ lw_g := by
  rw [eX4]
  exact List.forall_mem_cons.mpr ⟨tw_217, List.forall_mem_cons.mpr ⟨tw_219, List.forall_mem_cons.mpr ⟨tw_221, List.forall_mem_cons.mpr ⟨tw_223, List.forall_mem_cons.mpr ⟨tw_225, List.forall_mem_cons.mpr ⟨tw_227, List.forall_mem_cons.mpr ⟨tw_229, List.forall_mem_cons.mpr ⟨tw_231, List.forall_mem_cons.mpr ⟨tw_233, List.forall_mem_cons.mpr ⟨tw_235, List.forall_mem_cons.mpr ⟨tw_237, List.forall_mem_cons.mpr ⟨tw_239, List.forall_mem_cons.mpr ⟨tw_241, List.forall_mem_cons.mpr ⟨tw_243, List.forall_mem_cons.mpr ⟨tw_245, List.forall_mem_cons.mpr ⟨tw_247, List.forall_mem_cons.mpr ⟨tw_249, fun _ h => absurd h List.not_mem_nil⟩⟩⟩⟩⟩⟩⟩⟩⟩⟩⟩⟩⟩⟩⟩⟩⟩
theorem tw_454 : (Jvm.Cond.laysFinal "CountyWatch$Payroll" "CountyWatch$Payroll" "rankMan" "[I") ∈ lw_g := lw_gm (tqs_2_13 (List.mem_of_getElem? (i := 6) rfl)) rfl
theorem tw_456 : (Jvm.Cond.laysFinal "CountyWatch$Payroll" "CountyWatch$Payroll" "rankTo" "[I") ∈ lw_g := lw_gm (tqs_2_13 (List.mem_of_getElem? (i := 8) rfl)) rfl
theorem tw_458 : (Jvm.Cond.laysFinal "CountyWatch$Payroll" "CountyWatch$Payroll" "rankDay" "[I") ∈ lw_g := lw_gm (tqs_2_13 (List.mem_of_getElem? (i := 10) rfl)) rfl
theorem tw_460 : (Jvm.Cond.laysFinal "CountyWatch$Payroll" "CountyWatch$Payroll" "rankTold" "[I") ∈ lw_g := lw_gm (tqs_2_13 (List.mem_of_getElem? (i := 12) rfl)) rfl
theorem tw_462 : (Jvm.Cond.lays "CountyWatch$Payroll" "CountyWatch$Payroll" "ranks" "I") ∈ lw_g := lw_gm (tqs_2_13 (List.mem_of_getElem? (i := 14) rfl)) rfl
theorem tw_464 : (Jvm.Cond.laysFinal "CountyWatch$Payroll" "CountyWatch$Payroll" "letters" "[I") ∈ lw_g := lw_gm (tqs_2_14 (List.mem_of_getElem? (i := 0) rfl)) rfl
theorem tw_466 : (Jvm.Cond.laysFinal "CountyWatch$Payroll" "CountyWatch$Payroll" "wages" "[I") ∈ lw_g := lw_gm (tqs_2_14 (List.mem_of_getElem? (i := 2) rfl)) rfl
theorem tw_468 : (Jvm.Cond.laysFinal "CountyWatch$Payroll" "CountyWatch$Payroll" "booked" "[I") ∈ lw_g := lw_gm (tqs_2_14 (List.mem_of_getElem? (i := 4) rfl)) rfl
theorem tw_470 : (Jvm.Cond.laysFinal "CountyWatch$Payroll" "CountyWatch$Payroll" "lineMan" "[I") ∈ lw_g := lw_gm (tqs_2_14 (List.mem_of_getElem? (i := 6) rfl)) rfl
theorem tw_472 : (Jvm.Cond.laysFinal "CountyWatch$Payroll" "CountyWatch$Payroll" "lineDay" "[I") ∈ lw_g := lw_gm (tqs_2_14 (List.mem_of_getElem? (i := 8) rfl)) rfl
theorem tw_474 : (Jvm.Cond.laysFinal "CountyWatch$Payroll" "CountyWatch$Payroll" "lineCoins" "[I") ∈ lw_g := lw_gm (tqs_2_14 (List.mem_of_getElem? (i := 10) rfl)) rfl
theorem tw_476 : (Jvm.Cond.laysFinal "CountyWatch$Payroll" "CountyWatch$Payroll" "lineMinute" "[I") ∈ lw_g := lw_gm (tqs_2_14 (List.mem_of_getElem? (i := 12) rfl)) rfl
theorem tw_478 : (Jvm.Cond.lays "CountyWatch$Payroll" "CountyWatch$Payroll" "lines" "I") ∈ lw_g := lw_gm (tqs_2_14 (List.mem_of_getElem? (i := 14) rfl)) rfl
theorem tw_480 : (Jvm.Cond.lays "CountyWatch$Payroll" "CountyWatch$Payroll" "coins" "I") ∈ lw_g := lw_gm (tqs_3_0 (List.mem_of_getElem? (i := 0) rfl)) rfl
theorem tw_482 : (Jvm.Cond.laysFinal "CountyWatch$Payroll" "CountyWatch$Payroll" "marks" "[I") ∈ lw_g := lw_gm (tqs_3_0 (List.mem_of_getElem? (i := 2) rfl)) rfl
theorem tw_484 : (Jvm.Cond.lays "CountyWatch$Payroll" "CountyWatch$Payroll" "enough" "I") ∈ lw_g := lw_gm (tqs_3_0 (List.mem_of_getElem? (i := 4) rfl)) rfl
set_option maxRecDepth 100000 in
theorem eX5 : u_ws RX5 TX5 16 = [(Jvm.Cond.laysFinal "CountyWatch$Payroll" "CountyWatch$Payroll" "rankMan" "[I"), (Jvm.Cond.laysFinal "CountyWatch$Payroll" "CountyWatch$Payroll" "rankTo" "[I"), (Jvm.Cond.laysFinal "CountyWatch$Payroll" "CountyWatch$Payroll" "rankDay" "[I"), (Jvm.Cond.laysFinal "CountyWatch$Payroll" "CountyWatch$Payroll" "rankTold" "[I"), (Jvm.Cond.lays "CountyWatch$Payroll" "CountyWatch$Payroll" "ranks" "I"), (Jvm.Cond.laysFinal "CountyWatch$Payroll" "CountyWatch$Payroll" "letters" "[I"), (Jvm.Cond.laysFinal "CountyWatch$Payroll" "CountyWatch$Payroll" "wages" "[I"), (Jvm.Cond.laysFinal "CountyWatch$Payroll" "CountyWatch$Payroll" "booked" "[I"), (Jvm.Cond.laysFinal "CountyWatch$Payroll" "CountyWatch$Payroll" "lineMan" "[I"), (Jvm.Cond.laysFinal "CountyWatch$Payroll" "CountyWatch$Payroll" "lineDay" "[I"), (Jvm.Cond.laysFinal "CountyWatch$Payroll" "CountyWatch$Payroll" "lineCoins" "[I"), (Jvm.Cond.laysFinal "CountyWatch$Payroll" "CountyWatch$Payroll" "lineMinute" "[I"), (Jvm.Cond.lays "CountyWatch$Payroll" "CountyWatch$Payroll" "lines" "I"), (Jvm.Cond.lays "CountyWatch$Payroll" "CountyWatch$Payroll" "coins" "I"), (Jvm.Cond.laysFinal "CountyWatch$Payroll" "CountyWatch$Payroll" "marks" "[I"), (Jvm.Cond.lays "CountyWatch$Payroll" "CountyWatch$Payroll" "enough" "I")] := by decide +kernel
theorem iX5 : ∀ w ∈ u_ws RX5 TX5 16, w ∈ lw_g := by
  rw [eX5]
  exact List.forall_mem_cons.mpr ⟨tw_454, List.forall_mem_cons.mpr ⟨tw_456, List.forall_mem_cons.mpr ⟨tw_458, List.forall_mem_cons.mpr ⟨tw_460, List.forall_mem_cons.mpr ⟨tw_462, List.forall_mem_cons.mpr ⟨tw_464, List.forall_mem_cons.mpr ⟨tw_466, List.forall_mem_cons.mpr ⟨tw_468, List.forall_mem_cons.mpr ⟨tw_470, List.forall_mem_cons.mpr ⟨tw_472, List.forall_mem_cons.mpr ⟨tw_474, List.forall_mem_cons.mpr ⟨tw_476, List.forall_mem_cons.mpr ⟨tw_478, List.forall_mem_cons.mpr ⟨tw_480, List.forall_mem_cons.mpr ⟨tw_482, List.forall_mem_cons.mpr ⟨tw_484, fun _ h => absurd h List.not_mem_nil⟩⟩⟩⟩⟩⟩⟩⟩⟩⟩⟩⟩⟩⟩⟩⟩
theorem tw_385 : (Jvm.Cond.laysFinal "CountyWatch$Plans" "CountyWatch$Plans" "watchPlace" "[I") ∈ lw_g := lw_gm (tqs_2_9 (List.mem_of_getElem? (i := 1) rfl)) rfl
theorem tw_387 : (Jvm.Cond.laysFinal "CountyWatch$Plans" "CountyWatch$Plans" "watchFrom" "[I") ∈ lw_g := lw_gm (tqs_2_9 (List.mem_of_getElem? (i := 3) rfl)) rfl
theorem tw_389 : (Jvm.Cond.laysFinal "CountyWatch$Plans" "CountyWatch$Plans" "watchTo" "[I") ∈ lw_g := lw_gm (tqs_2_9 (List.mem_of_getElem? (i := 5) rfl)) rfl
theorem tw_391 : (Jvm.Cond.lays "CountyWatch$Plans" "CountyWatch$Plans" "watches" "I") ∈ lw_g := lw_gm (tqs_2_9 (List.mem_of_getElem? (i := 7) rfl)) rfl
theorem tw_393 : (Jvm.Cond.laysFinal "CountyWatch$Plans" "CountyWatch$Plans" "sight" "[J") ∈ lw_g := lw_gm (tqs_2_9 (List.mem_of_getElem? (i := 9) rfl)) rfl
theorem tw_395 : (Jvm.Cond.laysFinal "CountyWatch$Plans" "CountyWatch$Plans" "trial" "[I") ∈ lw_g := lw_gm (tqs_2_9 (List.mem_of_getElem? (i := 11) rfl)) rfl
theorem tw_397 : (Jvm.Cond.laysFinal "CountyWatch$Plans" "CountyWatch$Plans" "shares" "[I") ∈ lw_g := lw_gm (tqs_2_9 (List.mem_of_getElem? (i := 13) rfl)) rfl
theorem tw_399 : (Jvm.Cond.lays "CountyWatch$Plans" "CountyWatch$Plans" "sharing" "I") ∈ lw_g := lw_gm (tqs_2_9 (List.mem_of_getElem? (i := 15) rfl)) rfl
theorem tw_401 : (Jvm.Cond.lays "CountyWatch$Plans" "CountyWatch$Plans" "bestSafe" "I") ∈ lw_g := lw_gm (tqs_2_10 (List.mem_of_getElem? (i := 1) rfl)) rfl
theorem tw_403 : (Jvm.Cond.lays "CountyWatch$Plans" "CountyWatch$Plans" "bestSum" "I") ∈ lw_g := lw_gm (tqs_2_10 (List.mem_of_getElem? (i := 3) rfl)) rfl
theorem tw_405 : (Jvm.Cond.lays "CountyWatch$Plans" "CountyWatch$Plans" "sharedBeats" "I") ∈ lw_g := lw_gm (tqs_2_10 (List.mem_of_getElem? (i := 5) rfl)) rfl
theorem tw_407 : (Jvm.Cond.lays "CountyWatch$Plans" "CountyWatch$Plans" "sharedPaths" "I") ∈ lw_g := lw_gm (tqs_2_10 (List.mem_of_getElem? (i := 7) rfl)) rfl
theorem tw_409 : (Jvm.Cond.lays "CountyWatch$Plans" "CountyWatch$Plans" "sharedWatches" "I") ∈ lw_g := lw_gm (tqs_2_10 (List.mem_of_getElem? (i := 9) rfl)) rfl
theorem tw_411 : (Jvm.Cond.laysFinal "CountyWatch$Plans" "CountyWatch$Plans" "fairPlace" "[I") ∈ lw_g := lw_gm (tqs_2_10 (List.mem_of_getElem? (i := 11) rfl)) rfl
theorem tw_413 : (Jvm.Cond.laysFinal "CountyWatch$Plans" "CountyWatch$Plans" "fairMinute" "[I") ∈ lw_g := lw_gm (tqs_2_10 (List.mem_of_getElem? (i := 13) rfl)) rfl
theorem tw_415 : (Jvm.Cond.laysFinal "CountyWatch$Plans" "CountyWatch$Plans" "fairWanted" "[I") ∈ lw_g := lw_gm (tqs_2_10 (List.mem_of_getElem? (i := 15) rfl)) rfl
theorem tw_417 : (Jvm.Cond.lays "CountyWatch$Plans" "CountyWatch$Plans" "fairs" "I") ∈ lw_g := lw_gm (tqs_2_11 (List.mem_of_getElem? (i := 1) rfl)) rfl
theorem tw_419 : (Jvm.Cond.laysFinal "CountyWatch$Plans" "CountyWatch$Plans" "prices" "[I") ∈ lw_g := lw_gm (tqs_2_11 (List.mem_of_getElem? (i := 3) rfl)) rfl
theorem tw_421 : (Jvm.Cond.laysFinal "CountyWatch$Plans" "CountyWatch$Plans" "costs" "[I") ∈ lw_g := lw_gm (tqs_2_11 (List.mem_of_getElem? (i := 5) rfl)) rfl
theorem tw_423 : (Jvm.Cond.laysFinal "CountyWatch$Plans" "CountyWatch$Plans" "lentTo" "[I") ∈ lw_g := lw_gm (tqs_2_11 (List.mem_of_getElem? (i := 7) rfl)) rfl
set_option maxRecDepth 100000 in
theorem eX6 : u_ws RX6 TX6 20 = [(Jvm.Cond.laysFinal "CountyWatch$Plans" "CountyWatch$Plans" "watchPlace" "[I"), (Jvm.Cond.laysFinal "CountyWatch$Plans" "CountyWatch$Plans" "watchFrom" "[I"), (Jvm.Cond.laysFinal "CountyWatch$Plans" "CountyWatch$Plans" "watchTo" "[I"), (Jvm.Cond.lays "CountyWatch$Plans" "CountyWatch$Plans" "watches" "I"), (Jvm.Cond.laysFinal "CountyWatch$Plans" "CountyWatch$Plans" "sight" "[J"), (Jvm.Cond.laysFinal "CountyWatch$Plans" "CountyWatch$Plans" "trial" "[I"), (Jvm.Cond.laysFinal "CountyWatch$Plans" "CountyWatch$Plans" "shares" "[I"), (Jvm.Cond.lays "CountyWatch$Plans" "CountyWatch$Plans" "sharing" "I"), (Jvm.Cond.lays "CountyWatch$Plans" "CountyWatch$Plans" "bestSafe" "I"), (Jvm.Cond.lays "CountyWatch$Plans" "CountyWatch$Plans" "bestSum" "I"), (Jvm.Cond.lays "CountyWatch$Plans" "CountyWatch$Plans" "sharedBeats" "I"), (Jvm.Cond.lays "CountyWatch$Plans" "CountyWatch$Plans" "sharedPaths" "I"), (Jvm.Cond.lays "CountyWatch$Plans" "CountyWatch$Plans" "sharedWatches" "I"), (Jvm.Cond.laysFinal "CountyWatch$Plans" "CountyWatch$Plans" "fairPlace" "[I"), (Jvm.Cond.laysFinal "CountyWatch$Plans" "CountyWatch$Plans" "fairMinute" "[I"), (Jvm.Cond.laysFinal "CountyWatch$Plans" "CountyWatch$Plans" "fairWanted" "[I"), (Jvm.Cond.lays "CountyWatch$Plans" "CountyWatch$Plans" "fairs" "I"), (Jvm.Cond.laysFinal "CountyWatch$Plans" "CountyWatch$Plans" "prices" "[I"), (Jvm.Cond.laysFinal "CountyWatch$Plans" "CountyWatch$Plans" "costs" "[I"), (Jvm.Cond.laysFinal "CountyWatch$Plans" "CountyWatch$Plans" "lentTo" "[I")] := by decide +kernel
theorem iX6 : ∀ w ∈ u_ws RX6 TX6 20, w ∈ lw_g := by
  rw [eX6]
  exact List.forall_mem_cons.mpr ⟨tw_385, List.forall_mem_cons.mpr ⟨tw_387, List.forall_mem_cons.mpr ⟨tw_389, List.forall_mem_cons.mpr ⟨tw_391, List.forall_mem_cons.mpr ⟨tw_393, List.forall_mem_cons.mpr ⟨tw_395, List.forall_mem_cons.mpr ⟨tw_397, List.forall_mem_cons.mpr ⟨tw_399, List.forall_mem_cons.mpr ⟨tw_401, List.forall_mem_cons.mpr ⟨tw_403, List.forall_mem_cons.mpr ⟨tw_405, List.forall_mem_cons.mpr ⟨tw_407, List.forall_mem_cons.mpr ⟨tw_409, List.forall_mem_cons.mpr ⟨tw_411, List.forall_mem_cons.mpr ⟨tw_413, List.forall_mem_cons.mpr ⟨tw_415, List.forall_mem_cons.mpr ⟨tw_417, List.forall_mem_cons.mpr ⟨tw_419, List.forall_mem_cons.mpr ⟨tw_421, List.forall_mem_cons.mpr ⟨tw_423, fun _ h => absurd h List.not_mem_nil⟩⟩⟩⟩⟩⟩⟩⟩⟩⟩⟩⟩⟩⟩⟩⟩⟩⟩⟩⟩
theorem tw_165 : (Jvm.Cond.laysFinal "CountyWatch$Points" "CountyWatch$Points" "man" "[I") ∈ lw_g := lw_gm (tqs_1_10 (List.mem_of_getElem? (i := 5) rfl)) rfl
theorem tw_167 : (Jvm.Cond.laysFinal "CountyWatch$Points" "CountyWatch$Points" "place" "[I") ∈ lw_g := lw_gm (tqs_1_10 (List.mem_of_getElem? (i := 7) rfl)) rfl
theorem tw_169 : (Jvm.Cond.laysFinal "CountyWatch$Points" "CountyWatch$Points" "due" "[I") ∈ lw_g := lw_gm (tqs_1_10 (List.mem_of_getElem? (i := 9) rfl)) rfl
theorem tw_171 : (Jvm.Cond.laysFinal "CountyWatch$Points" "CountyWatch$Points" "begun" "[I") ∈ lw_g := lw_gm (tqs_1_10 (List.mem_of_getElem? (i := 11) rfl)) rfl
theorem tw_173 : (Jvm.Cond.laysFinal "CountyWatch$Points" "CountyWatch$Points" "outcome" "[I") ∈ lw_g := lw_gm (tqs_1_10 (List.mem_of_getElem? (i := 13) rfl)) rfl
theorem tw_175 : (Jvm.Cond.laysFinal "CountyWatch$Points" "CountyWatch$Points" "settled" "[I") ∈ lw_g := lw_gm (tqs_1_10 (List.mem_of_getElem? (i := 15) rfl)) rfl
theorem tw_177 : (Jvm.Cond.laysFinal "CountyWatch$Points" "CountyWatch$Points" "firstCause" "[I") ∈ lw_g := lw_gm (tqs_1_11 (List.mem_of_getElem? (i := 1) rfl)) rfl
theorem tw_179 : (Jvm.Cond.lays "CountyWatch$Points" "CountyWatch$Points" "rows" "I") ∈ lw_g := lw_gm (tqs_1_11 (List.mem_of_getElem? (i := 3) rfl)) rfl
theorem tw_181 : (Jvm.Cond.laysFinal "CountyWatch$Points" "CountyWatch$Points" "toldRow" "[I") ∈ lw_g := lw_gm (tqs_1_11 (List.mem_of_getElem? (i := 5) rfl)) rfl
theorem tw_183 : (Jvm.Cond.laysFinal "CountyWatch$Points" "CountyWatch$Points" "toldCause" "[I") ∈ lw_g := lw_gm (tqs_1_11 (List.mem_of_getElem? (i := 7) rfl)) rfl
theorem tw_185 : (Jvm.Cond.laysFinal "CountyWatch$Points" "CountyWatch$Points" "toldAt" "[I") ∈ lw_g := lw_gm (tqs_1_11 (List.mem_of_getElem? (i := 9) rfl)) rfl
theorem tw_187 : (Jvm.Cond.lays "CountyWatch$Points" "CountyWatch$Points" "tellings" "I") ∈ lw_g := lw_gm (tqs_1_11 (List.mem_of_getElem? (i := 11) rfl)) rfl
set_option maxRecDepth 100000 in
theorem eX7 : u_ws RX7 TX7 12 = [(Jvm.Cond.laysFinal "CountyWatch$Points" "CountyWatch$Points" "man" "[I"), (Jvm.Cond.laysFinal "CountyWatch$Points" "CountyWatch$Points" "place" "[I"), (Jvm.Cond.laysFinal "CountyWatch$Points" "CountyWatch$Points" "due" "[I"), (Jvm.Cond.laysFinal "CountyWatch$Points" "CountyWatch$Points" "begun" "[I"), (Jvm.Cond.laysFinal "CountyWatch$Points" "CountyWatch$Points" "outcome" "[I"), (Jvm.Cond.laysFinal "CountyWatch$Points" "CountyWatch$Points" "settled" "[I"), (Jvm.Cond.laysFinal "CountyWatch$Points" "CountyWatch$Points" "firstCause" "[I"), (Jvm.Cond.lays "CountyWatch$Points" "CountyWatch$Points" "rows" "I"), (Jvm.Cond.laysFinal "CountyWatch$Points" "CountyWatch$Points" "toldRow" "[I"), (Jvm.Cond.laysFinal "CountyWatch$Points" "CountyWatch$Points" "toldCause" "[I"), (Jvm.Cond.laysFinal "CountyWatch$Points" "CountyWatch$Points" "toldAt" "[I"), (Jvm.Cond.lays "CountyWatch$Points" "CountyWatch$Points" "tellings" "I")] := by decide +kernel
theorem iX7 : ∀ w ∈ u_ws RX7 TX7 12, w ∈ lw_g := by
  rw [eX7]
  exact List.forall_mem_cons.mpr ⟨tw_165, List.forall_mem_cons.mpr ⟨tw_167, List.forall_mem_cons.mpr ⟨tw_169, List.forall_mem_cons.mpr ⟨tw_171, List.forall_mem_cons.mpr ⟨tw_173, List.forall_mem_cons.mpr ⟨tw_175, List.forall_mem_cons.mpr ⟨tw_177, List.forall_mem_cons.mpr ⟨tw_179, List.forall_mem_cons.mpr ⟨tw_181, List.forall_mem_cons.mpr ⟨tw_183, List.forall_mem_cons.mpr ⟨tw_185, List.forall_mem_cons.mpr ⟨tw_187, fun _ h => absurd h List.not_mem_nil⟩⟩⟩⟩⟩⟩⟩⟩⟩⟩⟩⟩
theorem tw_75 : (Jvm.Cond.laysFinal "CountyWatch$Reader" "CountyWatch$Reader" "bytes" "[I") ∈ lw_g := lw_gm (tqs_1_4 (List.mem_of_getElem? (i := 11) rfl)) rfl
theorem tw_77 : (Jvm.Cond.lays "CountyWatch$Reader" "CountyWatch$Reader" "length" "I") ∈ lw_g := lw_gm (tqs_1_4 (List.mem_of_getElem? (i := 13) rfl)) rfl
theorem tw_79 : (Jvm.Cond.lays "CountyWatch$Reader" "CountyWatch$Reader" "at" "I") ∈ lw_g := lw_gm (tqs_1_4 (List.mem_of_getElem? (i := 15) rfl)) rfl
theorem tw_81 : (Jvm.Cond.lays "CountyWatch$Reader" "CountyWatch$Reader" "fault" "I") ∈ lw_g := lw_gm (tqs_1_5 (List.mem_of_getElem? (i := 1) rfl)) rfl
theorem tw_83 : (Jvm.Cond.lays "CountyWatch$Reader" "CountyWatch$Reader" "letters" "Ljava/lang/String;") ∈ lw_g := lw_gm (tqs_1_5 (List.mem_of_getElem? (i := 3) rfl)) rfl
theorem tw_85 : (Jvm.Cond.laysFinal "CountyWatch$Reader" "CountyWatch$Reader" "steps" "[I") ∈ lw_g := lw_gm (tqs_1_5 (List.mem_of_getElem? (i := 5) rfl)) rfl
theorem tw_87 : (Jvm.Cond.lays "CountyWatch$Reader" "CountyWatch$Reader" "stepCount" "I") ∈ lw_g := lw_gm (tqs_1_5 (List.mem_of_getElem? (i := 7) rfl)) rfl
theorem tw_89 : (Jvm.Cond.lays "CountyWatch$Reader" "CountyWatch$Reader" "tooLong" "Z") ∈ lw_g := lw_gm (tqs_1_5 (List.mem_of_getElem? (i := 9) rfl)) rfl
theorem tw_91 : (Jvm.Cond.laysFinal "CountyWatch$Reader" "CountyWatch$Reader" "code" "[I") ∈ lw_g := lw_gm (tqs_1_5 (List.mem_of_getElem? (i := 11) rfl)) rfl
theorem tw_93 : (Jvm.Cond.lays "CountyWatch$Reader" "CountyWatch$Reader" "codeLength" "I") ∈ lw_g := lw_gm (tqs_1_5 (List.mem_of_getElem? (i := 13) rfl)) rfl
set_option maxRecDepth 100000 in
theorem eX8 : u_ws RX8 TX8 10 = [(Jvm.Cond.laysFinal "CountyWatch$Reader" "CountyWatch$Reader" "bytes" "[I"), (Jvm.Cond.lays "CountyWatch$Reader" "CountyWatch$Reader" "length" "I"), (Jvm.Cond.lays "CountyWatch$Reader" "CountyWatch$Reader" "at" "I"), (Jvm.Cond.lays "CountyWatch$Reader" "CountyWatch$Reader" "fault" "I"), (Jvm.Cond.lays "CountyWatch$Reader" "CountyWatch$Reader" "letters" "Ljava/lang/String;"), (Jvm.Cond.laysFinal "CountyWatch$Reader" "CountyWatch$Reader" "steps" "[I"), (Jvm.Cond.lays "CountyWatch$Reader" "CountyWatch$Reader" "stepCount" "I"), (Jvm.Cond.lays "CountyWatch$Reader" "CountyWatch$Reader" "tooLong" "Z"), (Jvm.Cond.laysFinal "CountyWatch$Reader" "CountyWatch$Reader" "code" "[I"), (Jvm.Cond.lays "CountyWatch$Reader" "CountyWatch$Reader" "codeLength" "I")] := by decide +kernel
theorem iX8 : ∀ w ∈ u_ws RX8 TX8 10, w ∈ lw_g := by
  rw [eX8]
  exact List.forall_mem_cons.mpr ⟨tw_75, List.forall_mem_cons.mpr ⟨tw_77, List.forall_mem_cons.mpr ⟨tw_79, List.forall_mem_cons.mpr ⟨tw_81, List.forall_mem_cons.mpr ⟨tw_83, List.forall_mem_cons.mpr ⟨tw_85, List.forall_mem_cons.mpr ⟨tw_87, List.forall_mem_cons.mpr ⟨tw_89, List.forall_mem_cons.mpr ⟨tw_91, List.forall_mem_cons.mpr ⟨tw_93, fun _ h => absurd h List.not_mem_nil⟩⟩⟩⟩⟩⟩⟩⟩⟩⟩
theorem tw_46 : (Jvm.Cond.laysFinal "CountyWatch$Roads" "CountyWatch$Roads" "walks" "[I") ∈ lw_g := lw_gm (tqs_1_2 (List.mem_of_getElem? (i := 14) rfl)) rfl
theorem tw_48 : (Jvm.Cond.lays "CountyWatch$Roads" "CountyWatch$Roads" "paths" "I") ∈ lw_g := lw_gm (tqs_1_3 (List.mem_of_getElem? (i := 0) rfl)) rfl
set_option maxRecDepth 100000 in
theorem eX9 : u_ws RX9 TX9 2 = [(Jvm.Cond.laysFinal "CountyWatch$Roads" "CountyWatch$Roads" "walks" "[I"), (Jvm.Cond.lays "CountyWatch$Roads" "CountyWatch$Roads" "paths" "I")] := by decide +kernel
theorem iX9 : ∀ w ∈ u_ws RX9 TX9 2, w ∈ lw_g := by
  rw [eX9]
  exact List.forall_mem_cons.mpr ⟨tw_46, List.forall_mem_cons.mpr ⟨tw_48, fun _ h => absurd h List.not_mem_nil⟩⟩
theorem tw_131 : (Jvm.Cond.laysFinal "CountyWatch$Rules" "CountyWatch$Rules" "days" "[I") ∈ lw_g := lw_gm (tqs_1_8 (List.mem_of_getElem? (i := 3) rfl)) rfl
theorem tw_133 : (Jvm.Cond.laysFinal "CountyWatch$Rules" "CountyWatch$Rules" "told" "[I") ∈ lw_g := lw_gm (tqs_1_8 (List.mem_of_getElem? (i := 5) rfl)) rfl
theorem tw_135 : (Jvm.Cond.laysFinal "CountyWatch$Rules" "CountyWatch$Rules" "lengths" "[I") ∈ lw_g := lw_gm (tqs_1_8 (List.mem_of_getElem? (i := 7) rfl)) rfl
theorem tw_137 : (Jvm.Cond.laysFinal "CountyWatch$Rules" "CountyWatch$Rules" "codes" "[I") ∈ lw_g := lw_gm (tqs_1_8 (List.mem_of_getElem? (i := 9) rfl)) rfl
theorem tw_139 : (Jvm.Cond.laysFinal "CountyWatch$Rules" "CountyWatch$Rules" "stack" "[I") ∈ lw_g := lw_gm (tqs_1_8 (List.mem_of_getElem? (i := 11) rfl)) rfl
theorem tw_141 : (Jvm.Cond.lays "CountyWatch$Rules" "CountyWatch$Rules" "rules" "I") ∈ lw_g := lw_gm (tqs_1_8 (List.mem_of_getElem? (i := 13) rfl)) rfl
set_option maxRecDepth 100000 in
theorem eX10 : u_ws RX10 TX10 6 = [(Jvm.Cond.laysFinal "CountyWatch$Rules" "CountyWatch$Rules" "days" "[I"), (Jvm.Cond.laysFinal "CountyWatch$Rules" "CountyWatch$Rules" "told" "[I"), (Jvm.Cond.laysFinal "CountyWatch$Rules" "CountyWatch$Rules" "lengths" "[I"), (Jvm.Cond.laysFinal "CountyWatch$Rules" "CountyWatch$Rules" "codes" "[I"), (Jvm.Cond.laysFinal "CountyWatch$Rules" "CountyWatch$Rules" "stack" "[I"), (Jvm.Cond.lays "CountyWatch$Rules" "CountyWatch$Rules" "rules" "I")] := by decide +kernel
theorem iX10 : ∀ w ∈ u_ws RX10 TX10 6, w ∈ lw_g := by
  rw [eX10]
  exact List.forall_mem_cons.mpr ⟨tw_131, List.forall_mem_cons.mpr ⟨tw_133, List.forall_mem_cons.mpr ⟨tw_135, List.forall_mem_cons.mpr ⟨tw_137, List.forall_mem_cons.mpr ⟨tw_139, List.forall_mem_cons.mpr ⟨tw_141, fun _ h => absurd h List.not_mem_nil⟩⟩⟩⟩⟩⟩
theorem tw_503 : (Jvm.Cond.lays "CountyWatch" "CountyWatch" "now" "I") ∈ lw_g := lw_gm (tqs_3_1 (List.mem_of_getElem? (i := 7) rfl)) rfl
theorem tw_505 : (Jvm.Cond.laysFinal "CountyWatch" "CountyWatch" "roads" "LCountyWatch$Roads;") ∈ lw_g := lw_gm (tqs_3_1 (List.mem_of_getElem? (i := 9) rfl)) rfl
theorem tw_507 : (Jvm.Cond.laysFinal "CountyWatch" "CountyWatch" "reader" "LCountyWatch$Reader;") ∈ lw_g := lw_gm (tqs_3_1 (List.mem_of_getElem? (i := 11) rfl)) rfl
theorem tw_509 : (Jvm.Cond.laysFinal "CountyWatch" "CountyWatch" "beats" "LCountyWatch$Beats;") ∈ lw_g := lw_gm (tqs_3_1 (List.mem_of_getElem? (i := 13) rfl)) rfl
theorem tw_511 : (Jvm.Cond.laysFinal "CountyWatch" "CountyWatch" "acts" "LCountyWatch$Rules;") ∈ lw_g := lw_gm (tqs_3_1 (List.mem_of_getElem? (i := 15) rfl)) rfl
theorem tw_513 : (Jvm.Cond.laysFinal "CountyWatch" "CountyWatch" "pays" "LCountyWatch$Rules;") ∈ lw_g := lw_gm (tqs_3_2 (List.mem_of_getElem? (i := 1) rfl)) rfl
theorem tw_515 : (Jvm.Cond.laysFinal "CountyWatch" "CountyWatch" "men" "[LCountyWatch$Constable;") ∈ lw_g := lw_gm (tqs_3_2 (List.mem_of_getElem? (i := 3) rfl)) rfl
theorem tw_517 : (Jvm.Cond.lays "CountyWatch" "CountyWatch" "manCount" "I") ∈ lw_g := lw_gm (tqs_3_2 (List.mem_of_getElem? (i := 5) rfl)) rfl
theorem tw_519 : (Jvm.Cond.laysFinal "CountyWatch" "CountyWatch" "points" "LCountyWatch$Points;") ∈ lw_g := lw_gm (tqs_3_2 (List.mem_of_getElem? (i := 7) rfl)) rfl
theorem tw_521 : (Jvm.Cond.laysFinal "CountyWatch" "CountyWatch" "looks" "LCountyWatch$Looks;") ∈ lw_g := lw_gm (tqs_3_2 (List.mem_of_getElem? (i := 9) rfl)) rfl
theorem tw_523 : (Jvm.Cond.laysFinal "CountyWatch" "CountyWatch" "cases" "LCountyWatch$Cases;") ∈ lw_g := lw_gm (tqs_3_2 (List.mem_of_getElem? (i := 11) rfl)) rfl
theorem tw_525 : (Jvm.Cond.laysFinal "CountyWatch" "CountyWatch" "goods" "LCountyWatch$Goods;") ∈ lw_g := lw_gm (tqs_3_2 (List.mem_of_getElem? (i := 13) rfl)) rfl
theorem tw_527 : (Jvm.Cond.laysFinal "CountyWatch" "CountyWatch" "plans" "LCountyWatch$Plans;") ∈ lw_g := lw_gm (tqs_3_2 (List.mem_of_getElem? (i := 15) rfl)) rfl
theorem tw_529 : (Jvm.Cond.laysFinal "CountyWatch" "CountyWatch" "payroll" "LCountyWatch$Payroll;") ∈ lw_g := lw_gm (tqs_3_3 (List.mem_of_getElem? (i := 1) rfl)) rfl
theorem tw_531 : (Jvm.Cond.lays "CountyWatch" "CountyWatch" "here" "J") ∈ lw_g := lw_gm (tqs_3_3 (List.mem_of_getElem? (i := 3) rfl)) rfl
theorem tw_533 : (Jvm.Cond.lays "CountyWatch" "CountyWatch" "history" "[J") ∈ lw_g := lw_gm (tqs_3_3 (List.mem_of_getElem? (i := 5) rfl)) rfl
set_option maxRecDepth 100000 in
theorem eX11 : u_ws RX11 TX11 16 = [(Jvm.Cond.lays "CountyWatch" "CountyWatch" "now" "I"), (Jvm.Cond.laysFinal "CountyWatch" "CountyWatch" "roads" "LCountyWatch$Roads;"), (Jvm.Cond.laysFinal "CountyWatch" "CountyWatch" "reader" "LCountyWatch$Reader;"), (Jvm.Cond.laysFinal "CountyWatch" "CountyWatch" "beats" "LCountyWatch$Beats;"), (Jvm.Cond.laysFinal "CountyWatch" "CountyWatch" "acts" "LCountyWatch$Rules;"), (Jvm.Cond.laysFinal "CountyWatch" "CountyWatch" "pays" "LCountyWatch$Rules;"), (Jvm.Cond.laysFinal "CountyWatch" "CountyWatch" "men" "[LCountyWatch$Constable;"), (Jvm.Cond.lays "CountyWatch" "CountyWatch" "manCount" "I"), (Jvm.Cond.laysFinal "CountyWatch" "CountyWatch" "points" "LCountyWatch$Points;"), (Jvm.Cond.laysFinal "CountyWatch" "CountyWatch" "looks" "LCountyWatch$Looks;"), (Jvm.Cond.laysFinal "CountyWatch" "CountyWatch" "cases" "LCountyWatch$Cases;"), (Jvm.Cond.laysFinal "CountyWatch" "CountyWatch" "goods" "LCountyWatch$Goods;"), (Jvm.Cond.laysFinal "CountyWatch" "CountyWatch" "plans" "LCountyWatch$Plans;"), (Jvm.Cond.laysFinal "CountyWatch" "CountyWatch" "payroll" "LCountyWatch$Payroll;"), (Jvm.Cond.lays "CountyWatch" "CountyWatch" "here" "J"), (Jvm.Cond.lays "CountyWatch" "CountyWatch" "history" "[J")] := by decide +kernel
theorem iX11 : ∀ w ∈ u_ws RX11 TX11 16, w ∈ lw_g := by
  rw [eX11]
  exact List.forall_mem_cons.mpr ⟨tw_503, List.forall_mem_cons.mpr ⟨tw_505, List.forall_mem_cons.mpr ⟨tw_507, List.forall_mem_cons.mpr ⟨tw_509, List.forall_mem_cons.mpr ⟨tw_511, List.forall_mem_cons.mpr ⟨tw_513, List.forall_mem_cons.mpr ⟨tw_515, List.forall_mem_cons.mpr ⟨tw_517, List.forall_mem_cons.mpr ⟨tw_519, List.forall_mem_cons.mpr ⟨tw_521, List.forall_mem_cons.mpr ⟨tw_523, List.forall_mem_cons.mpr ⟨tw_525, List.forall_mem_cons.mpr ⟨tw_527, List.forall_mem_cons.mpr ⟨tw_529, List.forall_mem_cons.mpr ⟨tw_531, List.forall_mem_cons.mpr ⟨tw_533, fun _ h => absurd h List.not_mem_nil⟩⟩⟩⟩⟩⟩⟩⟩⟩⟩⟩⟩⟩⟩⟩⟩
theorem tw_1873 : (Jvm.Cond.lays "CountyWatchModel" "CountyWatchModel" "now" "I") ∈ lw_g := lw_gm (tqs_8_12 (List.mem_of_getElem? (i := 1) rfl)) rfl
theorem tw_1875 : (Jvm.Cond.lays "CountyWatchModel" "CountyWatchModel" "thrown" "I") ∈ lw_g := lw_gm (tqs_8_12 (List.mem_of_getElem? (i := 3) rfl)) rfl
theorem tw_1877 : (Jvm.Cond.laysFinal "CountyWatchModel" "CountyWatchModel" "pathOne" "[I") ∈ lw_g := lw_gm (tqs_8_12 (List.mem_of_getElem? (i := 5) rfl)) rfl
theorem tw_1879 : (Jvm.Cond.laysFinal "CountyWatchModel" "CountyWatchModel" "pathOther" "[I") ∈ lw_g := lw_gm (tqs_8_12 (List.mem_of_getElem? (i := 7) rfl)) rfl
theorem tw_1881 : (Jvm.Cond.laysFinal "CountyWatchModel" "CountyWatchModel" "pathLong" "[I") ∈ lw_g := lw_gm (tqs_8_12 (List.mem_of_getElem? (i := 9) rfl)) rfl
theorem tw_1883 : (Jvm.Cond.laysFinal "CountyWatchModel" "CountyWatchModel" "far" "[I") ∈ lw_g := lw_gm (tqs_8_12 (List.mem_of_getElem? (i := 11) rfl)) rfl
theorem tw_1885 : (Jvm.Cond.lays "CountyWatchModel" "CountyWatchModel" "paths" "I") ∈ lw_g := lw_gm (tqs_8_12 (List.mem_of_getElem? (i := 13) rfl)) rfl
theorem tw_1887 : (Jvm.Cond.lays "CountyWatchModel" "CountyWatchModel" "men" "I") ∈ lw_g := lw_gm (tqs_8_12 (List.mem_of_getElem? (i := 15) rfl)) rfl
theorem tw_1889 : (Jvm.Cond.laysFinal "CountyWatchModel" "CountyWatchModel" "rankFirst" "[I") ∈ lw_g := lw_gm (tqs_8_13 (List.mem_of_getElem? (i := 1) rfl)) rfl
theorem tw_1891 : (Jvm.Cond.laysFinal "CountyWatchModel" "CountyWatchModel" "years" "[I") ∈ lw_g := lw_gm (tqs_8_13 (List.mem_of_getElem? (i := 3) rfl)) rfl
theorem tw_1893 : (Jvm.Cond.laysFinal "CountyWatchModel" "CountyWatchModel" "home" "[I") ∈ lw_g := lw_gm (tqs_8_13 (List.mem_of_getElem? (i := 5) rfl)) rfl
theorem tw_1895 : (Jvm.Cond.laysFinal "CountyWatchModel" "CountyWatchModel" "toldAt" "[I") ∈ lw_g := lw_gm (tqs_8_13 (List.mem_of_getElem? (i := 7) rfl)) rfl
theorem tw_1897 : (Jvm.Cond.laysFinal "CountyWatchModel" "CountyWatchModel" "doing" "[I") ∈ lw_g := lw_gm (tqs_8_13 (List.mem_of_getElem? (i := 9) rfl)) rfl
theorem tw_1899 : (Jvm.Cond.laysFinal "CountyWatchModel" "CountyWatchModel" "place" "[I") ∈ lw_g := lw_gm (tqs_8_13 (List.mem_of_getElem? (i := 11) rfl)) rfl
theorem tw_1901 : (Jvm.Cond.laysFinal "CountyWatchModel" "CountyWatchModel" "goal" "[I") ∈ lw_g := lw_gm (tqs_8_13 (List.mem_of_getElem? (i := 13) rfl)) rfl
theorem tw_1903 : (Jvm.Cond.laysFinal "CountyWatchModel" "CountyWatchModel" "till" "[I") ∈ lw_g := lw_gm (tqs_8_13 (List.mem_of_getElem? (i := 15) rfl)) rfl
theorem tw_1905 : (Jvm.Cond.laysFinal "CountyWatchModel" "CountyWatchModel" "beatOf" "[I") ∈ lw_g := lw_gm (tqs_8_14 (List.mem_of_getElem? (i := 1) rfl)) rfl
theorem tw_1907 : (Jvm.Cond.laysFinal "CountyWatchModel" "CountyWatchModel" "stepOf" "[I") ∈ lw_g := lw_gm (tqs_8_14 (List.mem_of_getElem? (i := 3) rfl)) rfl
theorem tw_1909 : (Jvm.Cond.laysFinal "CountyWatchModel" "CountyWatchModel" "began" "[I") ∈ lw_g := lw_gm (tqs_8_14 (List.mem_of_getElem? (i := 5) rfl)) rfl
theorem tw_1911 : (Jvm.Cond.laysFinal "CountyWatchModel" "CountyWatchModel" "rowOf" "[I") ∈ lw_g := lw_gm (tqs_8_14 (List.mem_of_getElem? (i := 7) rfl)) rfl
theorem tw_1913 : (Jvm.Cond.laysFinal "CountyWatchModel" "CountyWatchModel" "rowNext" "[I") ∈ lw_g := lw_gm (tqs_8_14 (List.mem_of_getElem? (i := 9) rfl)) rfl
theorem tw_1915 : (Jvm.Cond.laysFinal "CountyWatchModel" "CountyWatchModel" "rowEnd" "[I") ∈ lw_g := lw_gm (tqs_8_14 (List.mem_of_getElem? (i := 11) rfl)) rfl
theorem tw_1917 : (Jvm.Cond.laysFinal "CountyWatchModel" "CountyWatchModel" "drawnTo" "[I") ∈ lw_g := lw_gm (tqs_8_14 (List.mem_of_getElem? (i := 13) rfl)) rfl
theorem tw_1919 : (Jvm.Cond.laysFinal "CountyWatchModel" "CountyWatchModel" "drawnTill" "[I") ∈ lw_g := lw_gm (tqs_8_14 (List.mem_of_getElem? (i := 15) rfl)) rfl
theorem tw_1921 : (Jvm.Cond.laysFinal "CountyWatchModel" "CountyWatchModel" "history" "[B") ∈ lw_g := lw_gm (tqs_9_0 (List.mem_of_getElem? (i := 1) rfl)) rfl
theorem tw_1923 : (Jvm.Cond.laysFinal "CountyWatchModel" "CountyWatchModel" "classOf" "[I") ∈ lw_g := lw_gm (tqs_9_0 (List.mem_of_getElem? (i := 3) rfl)) rfl
theorem tw_1925 : (Jvm.Cond.laysFinal "CountyWatchModel" "CountyWatchModel" "classTo" "[I") ∈ lw_g := lw_gm (tqs_9_0 (List.mem_of_getElem? (i := 5) rfl)) rfl
theorem tw_1927 : (Jvm.Cond.laysFinal "CountyWatchModel" "CountyWatchModel" "classDay" "[I") ∈ lw_g := lw_gm (tqs_9_0 (List.mem_of_getElem? (i := 7) rfl)) rfl
theorem tw_1929 : (Jvm.Cond.laysFinal "CountyWatchModel" "CountyWatchModel" "classTold" "[I") ∈ lw_g := lw_gm (tqs_9_0 (List.mem_of_getElem? (i := 9) rfl)) rfl
theorem tw_1931 : (Jvm.Cond.lays "CountyWatchModel" "CountyWatchModel" "classes" "I") ∈ lw_g := lw_gm (tqs_9_0 (List.mem_of_getElem? (i := 11) rfl)) rfl
theorem tw_1933 : (Jvm.Cond.laysFinal "CountyWatchModel" "CountyWatchModel" "tape" "[I") ∈ lw_g := lw_gm (tqs_9_0 (List.mem_of_getElem? (i := 13) rfl)) rfl
theorem tw_1935 : (Jvm.Cond.laysFinal "CountyWatchModel" "CountyWatchModel" "saying" "[I") ∈ lw_g := lw_gm (tqs_9_0 (List.mem_of_getElem? (i := 15) rfl)) rfl
theorem tw_1937 : (Jvm.Cond.lays "CountyWatchModel" "CountyWatchModel" "size" "I") ∈ lw_g := lw_gm (tqs_9_1 (List.mem_of_getElem? (i := 1) rfl)) rfl
theorem tw_1939 : (Jvm.Cond.lays "CountyWatchModel" "CountyWatchModel" "at" "I") ∈ lw_g := lw_gm (tqs_9_1 (List.mem_of_getElem? (i := 3) rfl)) rfl
theorem tw_1941 : (Jvm.Cond.lays "CountyWatchModel" "CountyWatchModel" "wrong" "I") ∈ lw_g := lw_gm (tqs_9_1 (List.mem_of_getElem? (i := 5) rfl)) rfl
theorem tw_1943 : (Jvm.Cond.lays "CountyWatchModel" "CountyWatchModel" "deep" "I") ∈ lw_g := lw_gm (tqs_9_1 (List.mem_of_getElem? (i := 7) rfl)) rfl
theorem tw_1945 : (Jvm.Cond.lays "CountyWatchModel" "CountyWatchModel" "said" "I") ∈ lw_g := lw_gm (tqs_9_1 (List.mem_of_getElem? (i := 9) rfl)) rfl
theorem tw_1947 : (Jvm.Cond.lays "CountyWatchModel" "CountyWatchModel" "sort" "I") ∈ lw_g := lw_gm (tqs_9_1 (List.mem_of_getElem? (i := 11) rfl)) rfl
theorem tw_1949 : (Jvm.Cond.laysFinal "CountyWatchModel" "CountyWatchModel" "beatSize" "[I") ∈ lw_g := lw_gm (tqs_9_1 (List.mem_of_getElem? (i := 13) rfl)) rfl
theorem tw_1951 : (Jvm.Cond.laysFinal "CountyWatchModel" "CountyWatchModel" "stepWhat" "[I") ∈ lw_g := lw_gm (tqs_9_1 (List.mem_of_getElem? (i := 15) rfl)) rfl
theorem tw_1953 : (Jvm.Cond.laysFinal "CountyWatchModel" "CountyWatchModel" "stepA" "[I") ∈ lw_g := lw_gm (tqs_9_2 (List.mem_of_getElem? (i := 1) rfl)) rfl
theorem tw_1955 : (Jvm.Cond.laysFinal "CountyWatchModel" "CountyWatchModel" "stepB" "[I") ∈ lw_g := lw_gm (tqs_9_2 (List.mem_of_getElem? (i := 3) rfl)) rfl
theorem tw_1957 : (Jvm.Cond.lays "CountyWatchModel" "CountyWatchModel" "beats" "I") ∈ lw_g := lw_gm (tqs_9_2 (List.mem_of_getElem? (i := 5) rfl)) rfl
theorem tw_1959 : (Jvm.Cond.lays "CountyWatchModel" "CountyWatchModel" "unfolded" "I") ∈ lw_g := lw_gm (tqs_9_2 (List.mem_of_getElem? (i := 7) rfl)) rfl
theorem tw_1961 : (Jvm.Cond.lays "CountyWatchModel" "CountyWatchModel" "next" "I") ∈ lw_g := lw_gm (tqs_9_2 (List.mem_of_getElem? (i := 9) rfl)) rfl
theorem tw_1963 : (Jvm.Cond.laysFinal "CountyWatchModel" "CountyWatchModel" "codes" "[I") ∈ lw_g := lw_gm (tqs_9_2 (List.mem_of_getElem? (i := 11) rfl)) rfl
theorem tw_1965 : (Jvm.Cond.laysFinal "CountyWatchModel" "CountyWatchModel" "textSize" "[I") ∈ lw_g := lw_gm (tqs_9_2 (List.mem_of_getElem? (i := 13) rfl)) rfl
theorem tw_1967 : (Jvm.Cond.laysFinal "CountyWatchModel" "CountyWatchModel" "textDay" "[I") ∈ lw_g := lw_gm (tqs_9_2 (List.mem_of_getElem? (i := 15) rfl)) rfl
theorem tw_1969 : (Jvm.Cond.laysFinal "CountyWatchModel" "CountyWatchModel" "textTold" "[I") ∈ lw_g := lw_gm (tqs_9_3 (List.mem_of_getElem? (i := 1) rfl)) rfl
theorem tw_1971 : (Jvm.Cond.laysFinal "CountyWatchModel" "CountyWatchModel" "texts" "[I") ∈ lw_g := lw_gm (tqs_9_3 (List.mem_of_getElem? (i := 3) rfl)) rfl
theorem tw_1973 : (Jvm.Cond.laysFinal "CountyWatchModel" "CountyWatchModel" "letters" "[I") ∈ lw_g := lw_gm (tqs_9_3 (List.mem_of_getElem? (i := 5) rfl)) rfl
theorem tw_1975 : (Jvm.Cond.laysFinal "CountyWatchModel" "CountyWatchModel" "pile" "[I") ∈ lw_g := lw_gm (tqs_9_3 (List.mem_of_getElem? (i := 7) rfl)) rfl
theorem tw_1977 : (Jvm.Cond.lays "CountyWatchModel" "CountyWatchModel" "reading" "I") ∈ lw_g := lw_gm (tqs_9_3 (List.mem_of_getElem? (i := 9) rfl)) rfl
theorem tw_1979 : (Jvm.Cond.laysFinal "CountyWatchModel" "CountyWatchModel" "rowMan" "[I") ∈ lw_g := lw_gm (tqs_9_3 (List.mem_of_getElem? (i := 11) rfl)) rfl
theorem tw_1981 : (Jvm.Cond.laysFinal "CountyWatchModel" "CountyWatchModel" "rowPlace" "[I") ∈ lw_g := lw_gm (tqs_9_3 (List.mem_of_getElem? (i := 13) rfl)) rfl
theorem tw_1983 : (Jvm.Cond.laysFinal "CountyWatchModel" "CountyWatchModel" "rowDue" "[I") ∈ lw_g := lw_gm (tqs_9_3 (List.mem_of_getElem? (i := 15) rfl)) rfl
theorem tw_1985 : (Jvm.Cond.laysFinal "CountyWatchModel" "CountyWatchModel" "rowMet" "[I") ∈ lw_g := lw_gm (tqs_9_4 (List.mem_of_getElem? (i := 1) rfl)) rfl
theorem tw_1987 : (Jvm.Cond.laysFinal "CountyWatchModel" "CountyWatchModel" "rowMissed" "[I") ∈ lw_g := lw_gm (tqs_9_4 (List.mem_of_getElem? (i := 3) rfl)) rfl
theorem tw_1989 : (Jvm.Cond.laysFinal "CountyWatchModel" "CountyWatchModel" "rowCause" "[I") ∈ lw_g := lw_gm (tqs_9_4 (List.mem_of_getElem? (i := 5) rfl)) rfl
theorem tw_1991 : (Jvm.Cond.laysFinal "CountyWatchModel" "CountyWatchModel" "rowBegan" "[I") ∈ lw_g := lw_gm (tqs_9_4 (List.mem_of_getElem? (i := 7) rfl)) rfl
theorem tw_1993 : (Jvm.Cond.laysFinal "CountyWatchModel" "CountyWatchModel" "causeRow" "[I") ∈ lw_g := lw_gm (tqs_9_4 (List.mem_of_getElem? (i := 9) rfl)) rfl
theorem tw_1995 : (Jvm.Cond.laysFinal "CountyWatchModel" "CountyWatchModel" "causeTo" "[I") ∈ lw_g := lw_gm (tqs_9_4 (List.mem_of_getElem? (i := 11) rfl)) rfl
theorem tw_1997 : (Jvm.Cond.laysFinal "CountyWatchModel" "CountyWatchModel" "causeTold" "[I") ∈ lw_g := lw_gm (tqs_9_4 (List.mem_of_getElem? (i := 13) rfl)) rfl
theorem tw_1999 : (Jvm.Cond.lays "CountyWatchModel" "CountyWatchModel" "rows" "I") ∈ lw_g := lw_gm (tqs_9_4 (List.mem_of_getElem? (i := 15) rfl)) rfl
theorem tw_2001 : (Jvm.Cond.lays "CountyWatchModel" "CountyWatchModel" "causings" "I") ∈ lw_g := lw_gm (tqs_9_5 (List.mem_of_getElem? (i := 1) rfl)) rfl
theorem tw_2003 : (Jvm.Cond.laysFinal "CountyWatchModel" "CountyWatchModel" "arrives" "[Z") ∈ lw_g := lw_gm (tqs_9_5 (List.mem_of_getElem? (i := 3) rfl)) rfl
theorem tw_2005 : (Jvm.Cond.laysFinal "CountyWatchModel" "CountyWatchModel" "findKind" "[I") ∈ lw_g := lw_gm (tqs_9_5 (List.mem_of_getElem? (i := 5) rfl)) rfl
theorem tw_2007 : (Jvm.Cond.laysFinal "CountyWatchModel" "CountyWatchModel" "findPlace" "[I") ∈ lw_g := lw_gm (tqs_9_5 (List.mem_of_getElem? (i := 7) rfl)) rfl
theorem tw_2009 : (Jvm.Cond.laysFinal "CountyWatchModel" "CountyWatchModel" "findFrom" "[I") ∈ lw_g := lw_gm (tqs_9_5 (List.mem_of_getElem? (i := 9) rfl)) rfl
theorem tw_2011 : (Jvm.Cond.laysFinal "CountyWatchModel" "CountyWatchModel" "findTo" "[I") ∈ lw_g := lw_gm (tqs_9_5 (List.mem_of_getElem? (i := 11) rfl)) rfl
theorem tw_2013 : (Jvm.Cond.laysFinal "CountyWatchModel" "CountyWatchModel" "findWeight" "[I") ∈ lw_g := lw_gm (tqs_9_5 (List.mem_of_getElem? (i := 13) rfl)) rfl
theorem tw_2015 : (Jvm.Cond.laysFinal "CountyWatchModel" "CountyWatchModel" "taken" "[Z") ∈ lw_g := lw_gm (tqs_9_5 (List.mem_of_getElem? (i := 15) rfl)) rfl
theorem tw_2017 : (Jvm.Cond.laysFinal "CountyWatchModel" "CountyWatchModel" "seenBy" "[I") ∈ lw_g := lw_gm (tqs_9_6 (List.mem_of_getElem? (i := 1) rfl)) rfl
theorem tw_2019 : (Jvm.Cond.laysFinal "CountyWatchModel" "CountyWatchModel" "seenWhat" "[I") ∈ lw_g := lw_gm (tqs_9_6 (List.mem_of_getElem? (i := 3) rfl)) rfl
theorem tw_2021 : (Jvm.Cond.laysFinal "CountyWatchModel" "CountyWatchModel" "seenAt" "[I") ∈ lw_g := lw_gm (tqs_9_6 (List.mem_of_getElem? (i := 5) rfl)) rfl
theorem tw_2023 : (Jvm.Cond.laysFinal "CountyWatchModel" "CountyWatchModel" "done" "[I") ∈ lw_g := lw_gm (tqs_9_6 (List.mem_of_getElem? (i := 7) rfl)) rfl
theorem tw_2025 : (Jvm.Cond.laysFinal "CountyWatchModel" "CountyWatchModel" "caseFor" "[I") ∈ lw_g := lw_gm (tqs_9_6 (List.mem_of_getElem? (i := 9) rfl)) rfl
theorem tw_2027 : (Jvm.Cond.laysFinal "CountyWatchModel" "CountyWatchModel" "known" "[I") ∈ lw_g := lw_gm (tqs_9_6 (List.mem_of_getElem? (i := 11) rfl)) rfl
theorem tw_2029 : (Jvm.Cond.laysFinal "CountyWatchModel" "CountyWatchModel" "seenLetters" "[I") ∈ lw_g := lw_gm (tqs_9_6 (List.mem_of_getElem? (i := 13) rfl)) rfl
theorem tw_2031 : (Jvm.Cond.lays "CountyWatchModel" "CountyWatchModel" "finds" "I") ∈ lw_g := lw_gm (tqs_9_6 (List.mem_of_getElem? (i := 15) rfl)) rfl
theorem tw_2033 : (Jvm.Cond.lays "CountyWatchModel" "CountyWatchModel" "sightings" "I") ∈ lw_g := lw_gm (tqs_9_7 (List.mem_of_getElem? (i := 1) rfl)) rfl
theorem tw_2035 : (Jvm.Cond.laysFinal "CountyWatchModel" "CountyWatchModel" "caseKind" "[I") ∈ lw_g := lw_gm (tqs_9_7 (List.mem_of_getElem? (i := 3) rfl)) rfl
theorem tw_2037 : (Jvm.Cond.laysFinal "CountyWatchModel" "CountyWatchModel" "caseAt" "[I") ∈ lw_g := lw_gm (tqs_9_7 (List.mem_of_getElem? (i := 5) rfl)) rfl
theorem tw_2039 : (Jvm.Cond.laysFinal "CountyWatchModel" "CountyWatchModel" "needs" "[I") ∈ lw_g := lw_gm (tqs_9_7 (List.mem_of_getElem? (i := 7) rfl)) rfl
theorem tw_2041 : (Jvm.Cond.laysFinal "CountyWatchModel" "CountyWatchModel" "wants" "[I") ∈ lw_g := lw_gm (tqs_9_7 (List.mem_of_getElem? (i := 9) rfl)) rfl
theorem tw_2043 : (Jvm.Cond.laysFinal "CountyWatchModel" "CountyWatchModel" "sayCase" "[I") ∈ lw_g := lw_gm (tqs_9_7 (List.mem_of_getElem? (i := 11) rfl)) rfl
theorem tw_2045 : (Jvm.Cond.laysFinal "CountyWatchModel" "CountyWatchModel" "sayFact" "[I") ∈ lw_g := lw_gm (tqs_9_7 (List.mem_of_getElem? (i := 13) rfl)) rfl
theorem tw_2047 : (Jvm.Cond.laysFinal "CountyWatchModel" "CountyWatchModel" "sayBy" "[I") ∈ lw_g := lw_gm (tqs_9_7 (List.mem_of_getElem? (i := 15) rfl)) rfl
theorem tw_2049 : (Jvm.Cond.laysFinal "CountyWatchModel" "CountyWatchModel" "sayTold" "[I") ∈ lw_g := lw_gm (tqs_9_8 (List.mem_of_getElem? (i := 1) rfl)) rfl
theorem tw_2051 : (Jvm.Cond.laysFinal "CountyWatchModel" "CountyWatchModel" "sayYes" "[Z") ∈ lw_g := lw_gm (tqs_9_8 (List.mem_of_getElem? (i := 3) rfl)) rfl
theorem tw_2053 : (Jvm.Cond.laysFinal "CountyWatchModel" "CountyWatchModel" "gone" "[I") ∈ lw_g := lw_gm (tqs_9_8 (List.mem_of_getElem? (i := 5) rfl)) rfl
theorem tw_2055 : (Jvm.Cond.laysFinal "CountyWatchModel" "CountyWatchModel" "isGone" "[Z") ∈ lw_g := lw_gm (tqs_9_8 (List.mem_of_getElem? (i := 7) rfl)) rfl
theorem tw_2057 : (Jvm.Cond.laysFinal "CountyWatchModel" "CountyWatchModel" "storySo" "[I") ∈ lw_g := lw_gm (tqs_9_8 (List.mem_of_getElem? (i := 9) rfl)) rfl
theorem tw_2059 : (Jvm.Cond.laysFinal "CountyWatchModel" "CountyWatchModel" "storyNot" "[I") ∈ lw_g := lw_gm (tqs_9_8 (List.mem_of_getElem? (i := 11) rfl)) rfl
theorem tw_2061 : (Jvm.Cond.laysFinal "CountyWatchModel" "CountyWatchModel" "storyTold" "[I") ∈ lw_g := lw_gm (tqs_9_8 (List.mem_of_getElem? (i := 13) rfl)) rfl
theorem tw_2063 : (Jvm.Cond.laysFinal "CountyWatchModel" "CountyWatchModel" "stories" "[I") ∈ lw_g := lw_gm (tqs_9_8 (List.mem_of_getElem? (i := 15) rfl)) rfl
theorem tw_2065 : (Jvm.Cond.lays "CountyWatchModel" "CountyWatchModel" "cases" "I") ∈ lw_g := lw_gm (tqs_9_9 (List.mem_of_getElem? (i := 1) rfl)) rfl
theorem tw_2067 : (Jvm.Cond.lays "CountyWatchModel" "CountyWatchModel" "statements" "I") ∈ lw_g := lw_gm (tqs_9_9 (List.mem_of_getElem? (i := 3) rfl)) rfl
theorem tw_2069 : (Jvm.Cond.laysFinal "CountyWatchModel" "CountyWatchModel" "had" "[I") ∈ lw_g := lw_gm (tqs_9_9 (List.mem_of_getElem? (i := 5) rfl)) rfl
theorem tw_2071 : (Jvm.Cond.laysFinal "CountyWatchModel" "CountyWatchModel" "lostMarks" "[I") ∈ lw_g := lw_gm (tqs_9_9 (List.mem_of_getElem? (i := 7) rfl)) rfl
theorem tw_2073 : (Jvm.Cond.laysFinal "CountyWatchModel" "CountyWatchModel" "foundMarks" "[I") ∈ lw_g := lw_gm (tqs_9_9 (List.mem_of_getElem? (i := 9) rfl)) rfl
theorem tw_2075 : (Jvm.Cond.lays "CountyWatchModel" "CountyWatchModel" "lostMany" "I") ∈ lw_g := lw_gm (tqs_9_9 (List.mem_of_getElem? (i := 11) rfl)) rfl
theorem tw_2077 : (Jvm.Cond.lays "CountyWatchModel" "CountyWatchModel" "foundMany" "I") ∈ lw_g := lw_gm (tqs_9_9 (List.mem_of_getElem? (i := 13) rfl)) rfl
theorem tw_2079 : (Jvm.Cond.lays "CountyWatchModel" "CountyWatchModel" "leastLike" "I") ∈ lw_g := lw_gm (tqs_9_9 (List.mem_of_getElem? (i := 15) rfl)) rfl
theorem tw_2081 : (Jvm.Cond.laysFinal "CountyWatchModel" "CountyWatchModel" "most" "[I") ∈ lw_g := lw_gm (tqs_9_10 (List.mem_of_getElem? (i := 1) rfl)) rfl
theorem tw_2083 : (Jvm.Cond.laysFinal "CountyWatchModel" "CountyWatchModel" "watchPlace" "[I") ∈ lw_g := lw_gm (tqs_9_10 (List.mem_of_getElem? (i := 3) rfl)) rfl
theorem tw_2085 : (Jvm.Cond.laysFinal "CountyWatchModel" "CountyWatchModel" "watchFrom" "[I") ∈ lw_g := lw_gm (tqs_9_10 (List.mem_of_getElem? (i := 5) rfl)) rfl
theorem tw_2087 : (Jvm.Cond.laysFinal "CountyWatchModel" "CountyWatchModel" "watchTo" "[I") ∈ lw_g := lw_gm (tqs_9_10 (List.mem_of_getElem? (i := 7) rfl)) rfl
theorem tw_2089 : (Jvm.Cond.lays "CountyWatchModel" "CountyWatchModel" "watches" "I") ∈ lw_g := lw_gm (tqs_9_10 (List.mem_of_getElem? (i := 9) rfl)) rfl
theorem tw_2091 : (Jvm.Cond.laysFinal "CountyWatchModel" "CountyWatchModel" "chosen" "[I") ∈ lw_g := lw_gm (tqs_9_10 (List.mem_of_getElem? (i := 11) rfl)) rfl
theorem tw_2093 : (Jvm.Cond.laysFinal "CountyWatchModel" "CountyWatchModel" "parts" "[I") ∈ lw_g := lw_gm (tqs_9_10 (List.mem_of_getElem? (i := 13) rfl)) rfl
theorem tw_2095 : (Jvm.Cond.laysFinal "CountyWatchModel" "CountyWatchModel" "bestParts" "[I") ∈ lw_g := lw_gm (tqs_9_10 (List.mem_of_getElem? (i := 15) rfl)) rfl
theorem tw_2097 : (Jvm.Cond.laysFinal "CountyWatchModel" "CountyWatchModel" "seenBits" "[I") ∈ lw_g := lw_gm (tqs_9_11 (List.mem_of_getElem? (i := 1) rfl)) rfl
theorem tw_2099 : (Jvm.Cond.lays "CountyWatchModel" "CountyWatchModel" "chosenMany" "I") ∈ lw_g := lw_gm (tqs_9_11 (List.mem_of_getElem? (i := 3) rfl)) rfl
theorem tw_2101 : (Jvm.Cond.lays "CountyWatchModel" "CountyWatchModel" "bestSafe" "I") ∈ lw_g := lw_gm (tqs_9_11 (List.mem_of_getElem? (i := 5) rfl)) rfl
theorem tw_2103 : (Jvm.Cond.lays "CountyWatchModel" "CountyWatchModel" "bestSum" "I") ∈ lw_g := lw_gm (tqs_9_11 (List.mem_of_getElem? (i := 7) rfl)) rfl
theorem tw_2105 : (Jvm.Cond.laysFinal "CountyWatchModel" "CountyWatchModel" "fairPlace" "[I") ∈ lw_g := lw_gm (tqs_9_11 (List.mem_of_getElem? (i := 9) rfl)) rfl
theorem tw_2107 : (Jvm.Cond.laysFinal "CountyWatchModel" "CountyWatchModel" "fairAt" "[I") ∈ lw_g := lw_gm (tqs_9_11 (List.mem_of_getElem? (i := 11) rfl)) rfl
theorem tw_2109 : (Jvm.Cond.laysFinal "CountyWatchModel" "CountyWatchModel" "fairWants" "[I") ∈ lw_g := lw_gm (tqs_9_11 (List.mem_of_getElem? (i := 13) rfl)) rfl
theorem tw_2111 : (Jvm.Cond.lays "CountyWatchModel" "CountyWatchModel" "fairMany" "I") ∈ lw_g := lw_gm (tqs_9_11 (List.mem_of_getElem? (i := 15) rfl)) rfl
theorem tw_2113 : (Jvm.Cond.laysFinal "CountyWatchModel" "CountyWatchModel" "least1" "[I") ∈ lw_g := lw_gm (tqs_9_12 (List.mem_of_getElem? (i := 1) rfl)) rfl
theorem tw_2115 : (Jvm.Cond.laysFinal "CountyWatchModel" "CountyWatchModel" "costs" "[I") ∈ lw_g := lw_gm (tqs_9_12 (List.mem_of_getElem? (i := 3) rfl)) rfl
theorem tw_2117 : (Jvm.Cond.laysFinal "CountyWatchModel" "CountyWatchModel" "booked" "[I") ∈ lw_g := lw_gm (tqs_9_12 (List.mem_of_getElem? (i := 5) rfl)) rfl
theorem tw_2119 : (Jvm.Cond.laysFinal "CountyWatchModel" "CountyWatchModel" "lineMan" "[I") ∈ lw_g := lw_gm (tqs_9_12 (List.mem_of_getElem? (i := 7) rfl)) rfl
theorem tw_2121 : (Jvm.Cond.laysFinal "CountyWatchModel" "CountyWatchModel" "lineDay" "[I") ∈ lw_g := lw_gm (tqs_9_12 (List.mem_of_getElem? (i := 9) rfl)) rfl
theorem tw_2123 : (Jvm.Cond.laysFinal "CountyWatchModel" "CountyWatchModel" "lineCoins" "[I") ∈ lw_g := lw_gm (tqs_9_12 (List.mem_of_getElem? (i := 11) rfl)) rfl
theorem tw_2125 : (Jvm.Cond.laysFinal "CountyWatchModel" "CountyWatchModel" "lineAt" "[I") ∈ lw_g := lw_gm (tqs_9_12 (List.mem_of_getElem? (i := 13) rfl)) rfl
theorem tw_2127 : (Jvm.Cond.lays "CountyWatchModel" "CountyWatchModel" "lines" "I") ∈ lw_g := lw_gm (tqs_9_12 (List.mem_of_getElem? (i := 15) rfl)) rfl
theorem tw_2129 : (Jvm.Cond.laysFinal "CountyWatchModel" "CountyWatchModel" "marks" "[I") ∈ lw_g := lw_gm (tqs_9_13 (List.mem_of_getElem? (i := 1) rfl)) rfl
theorem tw_2131 : (Jvm.Cond.laysFinal "CountyWatchModel" "CountyWatchModel" "marked" "[Z") ∈ lw_g := lw_gm (tqs_9_13 (List.mem_of_getElem? (i := 3) rfl)) rfl
theorem tw_2133 : (Jvm.Cond.lays "CountyWatchModel" "CountyWatchModel" "least3" "I") ∈ lw_g := lw_gm (tqs_9_13 (List.mem_of_getElem? (i := 5) rfl)) rfl
set_option maxRecDepth 100000 in
theorem eX12 : u_ws RX12 TX12 131 = [(Jvm.Cond.lays "CountyWatchModel" "CountyWatchModel" "now" "I"), (Jvm.Cond.lays "CountyWatchModel" "CountyWatchModel" "thrown" "I"), (Jvm.Cond.laysFinal "CountyWatchModel" "CountyWatchModel" "pathOne" "[I"), (Jvm.Cond.laysFinal "CountyWatchModel" "CountyWatchModel" "pathOther" "[I"), (Jvm.Cond.laysFinal "CountyWatchModel" "CountyWatchModel" "pathLong" "[I"), (Jvm.Cond.laysFinal "CountyWatchModel" "CountyWatchModel" "far" "[I"), (Jvm.Cond.lays "CountyWatchModel" "CountyWatchModel" "paths" "I"), (Jvm.Cond.lays "CountyWatchModel" "CountyWatchModel" "men" "I"), (Jvm.Cond.laysFinal "CountyWatchModel" "CountyWatchModel" "rankFirst" "[I"), (Jvm.Cond.laysFinal "CountyWatchModel" "CountyWatchModel" "years" "[I"), (Jvm.Cond.laysFinal "CountyWatchModel" "CountyWatchModel" "home" "[I"), (Jvm.Cond.laysFinal "CountyWatchModel" "CountyWatchModel" "toldAt" "[I"), (Jvm.Cond.laysFinal "CountyWatchModel" "CountyWatchModel" "doing" "[I"), (Jvm.Cond.laysFinal "CountyWatchModel" "CountyWatchModel" "place" "[I"), (Jvm.Cond.laysFinal "CountyWatchModel" "CountyWatchModel" "goal" "[I"), (Jvm.Cond.laysFinal "CountyWatchModel" "CountyWatchModel" "till" "[I"), (Jvm.Cond.laysFinal "CountyWatchModel" "CountyWatchModel" "beatOf" "[I"), (Jvm.Cond.laysFinal "CountyWatchModel" "CountyWatchModel" "stepOf" "[I"), (Jvm.Cond.laysFinal "CountyWatchModel" "CountyWatchModel" "began" "[I"), (Jvm.Cond.laysFinal "CountyWatchModel" "CountyWatchModel" "rowOf" "[I"), (Jvm.Cond.laysFinal "CountyWatchModel" "CountyWatchModel" "rowNext" "[I"), (Jvm.Cond.laysFinal "CountyWatchModel" "CountyWatchModel" "rowEnd" "[I"), (Jvm.Cond.laysFinal "CountyWatchModel" "CountyWatchModel" "drawnTo" "[I"), (Jvm.Cond.laysFinal "CountyWatchModel" "CountyWatchModel" "drawnTill" "[I"), (Jvm.Cond.laysFinal "CountyWatchModel" "CountyWatchModel" "history" "[B"), (Jvm.Cond.laysFinal "CountyWatchModel" "CountyWatchModel" "classOf" "[I"), (Jvm.Cond.laysFinal "CountyWatchModel" "CountyWatchModel" "classTo" "[I"), (Jvm.Cond.laysFinal "CountyWatchModel" "CountyWatchModel" "classDay" "[I"), (Jvm.Cond.laysFinal "CountyWatchModel" "CountyWatchModel" "classTold" "[I"), (Jvm.Cond.lays "CountyWatchModel" "CountyWatchModel" "classes" "I"), (Jvm.Cond.laysFinal "CountyWatchModel" "CountyWatchModel" "tape" "[I"), (Jvm.Cond.laysFinal "CountyWatchModel" "CountyWatchModel" "saying" "[I"), (Jvm.Cond.lays "CountyWatchModel" "CountyWatchModel" "size" "I"), (Jvm.Cond.lays "CountyWatchModel" "CountyWatchModel" "at" "I"), (Jvm.Cond.lays "CountyWatchModel" "CountyWatchModel" "wrong" "I"), (Jvm.Cond.lays "CountyWatchModel" "CountyWatchModel" "deep" "I"), (Jvm.Cond.lays "CountyWatchModel" "CountyWatchModel" "said" "I"), (Jvm.Cond.lays "CountyWatchModel" "CountyWatchModel" "sort" "I"), (Jvm.Cond.laysFinal "CountyWatchModel" "CountyWatchModel" "beatSize" "[I"), (Jvm.Cond.laysFinal "CountyWatchModel" "CountyWatchModel" "stepWhat" "[I"), (Jvm.Cond.laysFinal "CountyWatchModel" "CountyWatchModel" "stepA" "[I"), (Jvm.Cond.laysFinal "CountyWatchModel" "CountyWatchModel" "stepB" "[I"), (Jvm.Cond.lays "CountyWatchModel" "CountyWatchModel" "beats" "I"), (Jvm.Cond.lays "CountyWatchModel" "CountyWatchModel" "unfolded" "I"), (Jvm.Cond.lays "CountyWatchModel" "CountyWatchModel" "next" "I"), (Jvm.Cond.laysFinal "CountyWatchModel" "CountyWatchModel" "codes" "[I"), (Jvm.Cond.laysFinal "CountyWatchModel" "CountyWatchModel" "textSize" "[I"), (Jvm.Cond.laysFinal "CountyWatchModel" "CountyWatchModel" "textDay" "[I"), (Jvm.Cond.laysFinal "CountyWatchModel" "CountyWatchModel" "textTold" "[I"), (Jvm.Cond.laysFinal "CountyWatchModel" "CountyWatchModel" "texts" "[I"), (Jvm.Cond.laysFinal "CountyWatchModel" "CountyWatchModel" "letters" "[I"), (Jvm.Cond.laysFinal "CountyWatchModel" "CountyWatchModel" "pile" "[I"), (Jvm.Cond.lays "CountyWatchModel" "CountyWatchModel" "reading" "I"), (Jvm.Cond.laysFinal "CountyWatchModel" "CountyWatchModel" "rowMan" "[I"), (Jvm.Cond.laysFinal "CountyWatchModel" "CountyWatchModel" "rowPlace" "[I"), (Jvm.Cond.laysFinal "CountyWatchModel" "CountyWatchModel" "rowDue" "[I"), (Jvm.Cond.laysFinal "CountyWatchModel" "CountyWatchModel" "rowMet" "[I"), (Jvm.Cond.laysFinal "CountyWatchModel" "CountyWatchModel" "rowMissed" "[I"), (Jvm.Cond.laysFinal "CountyWatchModel" "CountyWatchModel" "rowCause" "[I"), (Jvm.Cond.laysFinal "CountyWatchModel" "CountyWatchModel" "rowBegan" "[I"), (Jvm.Cond.laysFinal "CountyWatchModel" "CountyWatchModel" "causeRow" "[I"), (Jvm.Cond.laysFinal "CountyWatchModel" "CountyWatchModel" "causeTo" "[I"), (Jvm.Cond.laysFinal "CountyWatchModel" "CountyWatchModel" "causeTold" "[I"), (Jvm.Cond.lays "CountyWatchModel" "CountyWatchModel" "rows" "I"), (Jvm.Cond.lays "CountyWatchModel" "CountyWatchModel" "causings" "I"), (Jvm.Cond.laysFinal "CountyWatchModel" "CountyWatchModel" "arrives" "[Z"), (Jvm.Cond.laysFinal "CountyWatchModel" "CountyWatchModel" "findKind" "[I"), (Jvm.Cond.laysFinal "CountyWatchModel" "CountyWatchModel" "findPlace" "[I"), (Jvm.Cond.laysFinal "CountyWatchModel" "CountyWatchModel" "findFrom" "[I"), (Jvm.Cond.laysFinal "CountyWatchModel" "CountyWatchModel" "findTo" "[I"), (Jvm.Cond.laysFinal "CountyWatchModel" "CountyWatchModel" "findWeight" "[I"), (Jvm.Cond.laysFinal "CountyWatchModel" "CountyWatchModel" "taken" "[Z"), (Jvm.Cond.laysFinal "CountyWatchModel" "CountyWatchModel" "seenBy" "[I"), (Jvm.Cond.laysFinal "CountyWatchModel" "CountyWatchModel" "seenWhat" "[I"), (Jvm.Cond.laysFinal "CountyWatchModel" "CountyWatchModel" "seenAt" "[I"), (Jvm.Cond.laysFinal "CountyWatchModel" "CountyWatchModel" "done" "[I"), (Jvm.Cond.laysFinal "CountyWatchModel" "CountyWatchModel" "caseFor" "[I"), (Jvm.Cond.laysFinal "CountyWatchModel" "CountyWatchModel" "known" "[I"), (Jvm.Cond.laysFinal "CountyWatchModel" "CountyWatchModel" "seenLetters" "[I"), (Jvm.Cond.lays "CountyWatchModel" "CountyWatchModel" "finds" "I"), (Jvm.Cond.lays "CountyWatchModel" "CountyWatchModel" "sightings" "I"), (Jvm.Cond.laysFinal "CountyWatchModel" "CountyWatchModel" "caseKind" "[I"), (Jvm.Cond.laysFinal "CountyWatchModel" "CountyWatchModel" "caseAt" "[I"), (Jvm.Cond.laysFinal "CountyWatchModel" "CountyWatchModel" "needs" "[I"), (Jvm.Cond.laysFinal "CountyWatchModel" "CountyWatchModel" "wants" "[I"), (Jvm.Cond.laysFinal "CountyWatchModel" "CountyWatchModel" "sayCase" "[I"), (Jvm.Cond.laysFinal "CountyWatchModel" "CountyWatchModel" "sayFact" "[I"), (Jvm.Cond.laysFinal "CountyWatchModel" "CountyWatchModel" "sayBy" "[I"), (Jvm.Cond.laysFinal "CountyWatchModel" "CountyWatchModel" "sayTold" "[I"), (Jvm.Cond.laysFinal "CountyWatchModel" "CountyWatchModel" "sayYes" "[Z"), (Jvm.Cond.laysFinal "CountyWatchModel" "CountyWatchModel" "gone" "[I"), (Jvm.Cond.laysFinal "CountyWatchModel" "CountyWatchModel" "isGone" "[Z"), (Jvm.Cond.laysFinal "CountyWatchModel" "CountyWatchModel" "storySo" "[I"), (Jvm.Cond.laysFinal "CountyWatchModel" "CountyWatchModel" "storyNot" "[I"), (Jvm.Cond.laysFinal "CountyWatchModel" "CountyWatchModel" "storyTold" "[I"), (Jvm.Cond.laysFinal "CountyWatchModel" "CountyWatchModel" "stories" "[I"), (Jvm.Cond.lays "CountyWatchModel" "CountyWatchModel" "cases" "I"), (Jvm.Cond.lays "CountyWatchModel" "CountyWatchModel" "statements" "I"), (Jvm.Cond.laysFinal "CountyWatchModel" "CountyWatchModel" "had" "[I"), (Jvm.Cond.laysFinal "CountyWatchModel" "CountyWatchModel" "lostMarks" "[I"), (Jvm.Cond.laysFinal "CountyWatchModel" "CountyWatchModel" "foundMarks" "[I"), (Jvm.Cond.lays "CountyWatchModel" "CountyWatchModel" "lostMany" "I"), (Jvm.Cond.lays "CountyWatchModel" "CountyWatchModel" "foundMany" "I"), (Jvm.Cond.lays "CountyWatchModel" "CountyWatchModel" "leastLike" "I"), (Jvm.Cond.laysFinal "CountyWatchModel" "CountyWatchModel" "most" "[I"), (Jvm.Cond.laysFinal "CountyWatchModel" "CountyWatchModel" "watchPlace" "[I"), (Jvm.Cond.laysFinal "CountyWatchModel" "CountyWatchModel" "watchFrom" "[I"), (Jvm.Cond.laysFinal "CountyWatchModel" "CountyWatchModel" "watchTo" "[I"), (Jvm.Cond.lays "CountyWatchModel" "CountyWatchModel" "watches" "I"), (Jvm.Cond.laysFinal "CountyWatchModel" "CountyWatchModel" "chosen" "[I"), (Jvm.Cond.laysFinal "CountyWatchModel" "CountyWatchModel" "parts" "[I"), (Jvm.Cond.laysFinal "CountyWatchModel" "CountyWatchModel" "bestParts" "[I"), (Jvm.Cond.laysFinal "CountyWatchModel" "CountyWatchModel" "seenBits" "[I"), (Jvm.Cond.lays "CountyWatchModel" "CountyWatchModel" "chosenMany" "I"), (Jvm.Cond.lays "CountyWatchModel" "CountyWatchModel" "bestSafe" "I"), (Jvm.Cond.lays "CountyWatchModel" "CountyWatchModel" "bestSum" "I"), (Jvm.Cond.laysFinal "CountyWatchModel" "CountyWatchModel" "fairPlace" "[I"), (Jvm.Cond.laysFinal "CountyWatchModel" "CountyWatchModel" "fairAt" "[I"), (Jvm.Cond.laysFinal "CountyWatchModel" "CountyWatchModel" "fairWants" "[I"), (Jvm.Cond.lays "CountyWatchModel" "CountyWatchModel" "fairMany" "I"), (Jvm.Cond.laysFinal "CountyWatchModel" "CountyWatchModel" "least1" "[I"), (Jvm.Cond.laysFinal "CountyWatchModel" "CountyWatchModel" "costs" "[I"), (Jvm.Cond.laysFinal "CountyWatchModel" "CountyWatchModel" "booked" "[I"), (Jvm.Cond.laysFinal "CountyWatchModel" "CountyWatchModel" "lineMan" "[I"), (Jvm.Cond.laysFinal "CountyWatchModel" "CountyWatchModel" "lineDay" "[I"), (Jvm.Cond.laysFinal "CountyWatchModel" "CountyWatchModel" "lineCoins" "[I"), (Jvm.Cond.laysFinal "CountyWatchModel" "CountyWatchModel" "lineAt" "[I"), (Jvm.Cond.lays "CountyWatchModel" "CountyWatchModel" "lines" "I"), (Jvm.Cond.laysFinal "CountyWatchModel" "CountyWatchModel" "marks" "[I"), (Jvm.Cond.laysFinal "CountyWatchModel" "CountyWatchModel" "marked" "[Z"), (Jvm.Cond.lays "CountyWatchModel" "CountyWatchModel" "least3" "I")] := by decide +kernel
theorem iX12 : ∀ w ∈ u_ws RX12 TX12 131, w ∈ lw_g := by
  rw [eX12]
  exact List.forall_mem_cons.mpr ⟨tw_1873, List.forall_mem_cons.mpr ⟨tw_1875, List.forall_mem_cons.mpr ⟨tw_1877, List.forall_mem_cons.mpr ⟨tw_1879, List.forall_mem_cons.mpr ⟨tw_1881, List.forall_mem_cons.mpr ⟨tw_1883, List.forall_mem_cons.mpr ⟨tw_1885, List.forall_mem_cons.mpr ⟨tw_1887, List.forall_mem_cons.mpr ⟨tw_1889, List.forall_mem_cons.mpr ⟨tw_1891, List.forall_mem_cons.mpr ⟨tw_1893, List.forall_mem_cons.mpr ⟨tw_1895, List.forall_mem_cons.mpr ⟨tw_1897, List.forall_mem_cons.mpr ⟨tw_1899, List.forall_mem_cons.mpr ⟨tw_1901, List.forall_mem_cons.mpr ⟨tw_1903, List.forall_mem_cons.mpr ⟨tw_1905, List.forall_mem_cons.mpr ⟨tw_1907, List.forall_mem_cons.mpr ⟨tw_1909, List.forall_mem_cons.mpr ⟨tw_1911, List.forall_mem_cons.mpr ⟨tw_1913, List.forall_mem_cons.mpr ⟨tw_1915, List.forall_mem_cons.mpr ⟨tw_1917, List.forall_mem_cons.mpr ⟨tw_1919, List.forall_mem_cons.mpr ⟨tw_1921, List.forall_mem_cons.mpr ⟨tw_1923, List.forall_mem_cons.mpr ⟨tw_1925, List.forall_mem_cons.mpr ⟨tw_1927, List.forall_mem_cons.mpr ⟨tw_1929, List.forall_mem_cons.mpr ⟨tw_1931, List.forall_mem_cons.mpr ⟨tw_1933, List.forall_mem_cons.mpr ⟨tw_1935, List.forall_mem_cons.mpr ⟨tw_1937, List.forall_mem_cons.mpr ⟨tw_1939, List.forall_mem_cons.mpr ⟨tw_1941, List.forall_mem_cons.mpr ⟨tw_1943, List.forall_mem_cons.mpr ⟨tw_1945, List.forall_mem_cons.mpr ⟨tw_1947, List.forall_mem_cons.mpr ⟨tw_1949, List.forall_mem_cons.mpr ⟨tw_1951, List.forall_mem_cons.mpr ⟨tw_1953, List.forall_mem_cons.mpr ⟨tw_1955, List.forall_mem_cons.mpr ⟨tw_1957, List.forall_mem_cons.mpr ⟨tw_1959, List.forall_mem_cons.mpr ⟨tw_1961, List.forall_mem_cons.mpr ⟨tw_1963, List.forall_mem_cons.mpr ⟨tw_1965, List.forall_mem_cons.mpr ⟨tw_1967, List.forall_mem_cons.mpr ⟨tw_1969, List.forall_mem_cons.mpr ⟨tw_1971, List.forall_mem_cons.mpr ⟨tw_1973, List.forall_mem_cons.mpr ⟨tw_1975, List.forall_mem_cons.mpr ⟨tw_1977, List.forall_mem_cons.mpr ⟨tw_1979, List.forall_mem_cons.mpr ⟨tw_1981, List.forall_mem_cons.mpr ⟨tw_1983, List.forall_mem_cons.mpr ⟨tw_1985, List.forall_mem_cons.mpr ⟨tw_1987, List.forall_mem_cons.mpr ⟨tw_1989, List.forall_mem_cons.mpr ⟨tw_1991, List.forall_mem_cons.mpr ⟨tw_1993, List.forall_mem_cons.mpr ⟨tw_1995, List.forall_mem_cons.mpr ⟨tw_1997, List.forall_mem_cons.mpr ⟨tw_1999, List.forall_mem_cons.mpr ⟨tw_2001, List.forall_mem_cons.mpr ⟨tw_2003, List.forall_mem_cons.mpr ⟨tw_2005, List.forall_mem_cons.mpr ⟨tw_2007, List.forall_mem_cons.mpr ⟨tw_2009, List.forall_mem_cons.mpr ⟨tw_2011, List.forall_mem_cons.mpr ⟨tw_2013, List.forall_mem_cons.mpr ⟨tw_2015, List.forall_mem_cons.mpr ⟨tw_2017, List.forall_mem_cons.mpr ⟨tw_2019, List.forall_mem_cons.mpr ⟨tw_2021, List.forall_mem_cons.mpr ⟨tw_2023, List.forall_mem_cons.mpr ⟨tw_2025, List.forall_mem_cons.mpr ⟨tw_2027, List.forall_mem_cons.mpr ⟨tw_2029, List.forall_mem_cons.mpr ⟨tw_2031, List.forall_mem_cons.mpr ⟨tw_2033, List.forall_mem_cons.mpr ⟨tw_2035, List.forall_mem_cons.mpr ⟨tw_2037, List.forall_mem_cons.mpr ⟨tw_2039, List.forall_mem_cons.mpr ⟨tw_2041, List.forall_mem_cons.mpr ⟨tw_2043, List.forall_mem_cons.mpr ⟨tw_2045, List.forall_mem_cons.mpr ⟨tw_2047, List.forall_mem_cons.mpr ⟨tw_2049, List.forall_mem_cons.mpr ⟨tw_2051, List.forall_mem_cons.mpr ⟨tw_2053, List.forall_mem_cons.mpr ⟨tw_2055, List.forall_mem_cons.mpr ⟨tw_2057, List.forall_mem_cons.mpr ⟨tw_2059, List.forall_mem_cons.mpr ⟨tw_2061, List.forall_mem_cons.mpr ⟨tw_2063, List.forall_mem_cons.mpr ⟨tw_2065, List.forall_mem_cons.mpr ⟨tw_2067, List.forall_mem_cons.mpr ⟨tw_2069, List.forall_mem_cons.mpr ⟨tw_2071, List.forall_mem_cons.mpr ⟨tw_2073, List.forall_mem_cons.mpr ⟨tw_2075, List.forall_mem_cons.mpr ⟨tw_2077, List.forall_mem_cons.mpr ⟨tw_2079, List.forall_mem_cons.mpr ⟨tw_2081, List.forall_mem_cons.mpr ⟨tw_2083, List.forall_mem_cons.mpr ⟨tw_2085, List.forall_mem_cons.mpr ⟨tw_2087, List.forall_mem_cons.mpr ⟨tw_2089, List.forall_mem_cons.mpr ⟨tw_2091, List.forall_mem_cons.mpr ⟨tw_2093, List.forall_mem_cons.mpr ⟨tw_2095, List.forall_mem_cons.mpr ⟨tw_2097, List.forall_mem_cons.mpr ⟨tw_2099, List.forall_mem_cons.mpr ⟨tw_2101, List.forall_mem_cons.mpr ⟨tw_2103, List.forall_mem_cons.mpr ⟨tw_2105, List.forall_mem_cons.mpr ⟨tw_2107, List.forall_mem_cons.mpr ⟨tw_2109, List.forall_mem_cons.mpr ⟨tw_2111, List.forall_mem_cons.mpr ⟨tw_2113, List.forall_mem_cons.mpr ⟨tw_2115, List.forall_mem_cons.mpr ⟨tw_2117, List.forall_mem_cons.mpr ⟨tw_2119, List.forall_mem_cons.mpr ⟨tw_2121, List.forall_mem_cons.mpr ⟨tw_2123, List.forall_mem_cons.mpr ⟨tw_2125, List.forall_mem_cons.mpr ⟨tw_2127, List.forall_mem_cons.mpr ⟨tw_2129, List.forall_mem_cons.mpr ⟨tw_2131, List.forall_mem_cons.mpr ⟨tw_2133, fun _ h => absurd h List.not_mem_nil⟩⟩⟩⟩⟩⟩⟩⟩⟩⟩⟩⟩⟩⟩⟩⟩⟩⟩⟩⟩⟩⟩⟩⟩⟩⟩⟩⟩⟩⟩⟩⟩⟩⟩⟩⟩⟩⟩⟩⟩⟩⟩⟩⟩⟩⟩⟩⟩⟩⟩⟩⟩⟩⟩⟩⟩⟩⟩⟩⟩⟩⟩⟩⟩⟩⟩⟩⟩⟩⟩⟩⟩⟩⟩⟩⟩⟩⟩⟩⟩⟩⟩⟩⟩⟩⟩⟩⟩⟩⟩⟩⟩⟩⟩⟩⟩⟩⟩⟩⟩⟩⟩⟩⟩⟩⟩⟩⟩⟩⟩⟩⟩⟩⟩⟩⟩⟩⟩⟩⟩⟩⟩⟩⟩⟩⟩⟩⟩⟩⟩⟩
noncomputable abbrev kl_ : List vw_C := [(RX0, TX0, 4), (RX1, TX1, 16), (RX2, TX2, 17), (RX3, TX3, 11), (RX4, TX4, 17), (RX5, TX5, 16), (RX6, TX6, 20), (RX7, TX7, 12), (RX8, TX8, 10), (RX9, TX9, 2), (RX10, TX10, 6), (RX11, TX11, 16), (RX12, TX12, 131)]
end
section
/-! THE HEAP AS THE PROOFS SEE IT: cells by number; shapes, ints, longs, references. Tags: 0 int[], 1 boolean[], 2 byte[], 3 long[], 4 Constable[]; 10 + ci: an object of class ci of kl_ -/
noncomputable abbrev Hp_ : Type := (Nat → Option (Nat × Nat)) × (Nat → Nat → Int32) × (Nat → Nat → Int64) × (Nat → Nat → Option Nat)
noncomputable def h_sh (h : Hp_) (a : Nat) : Option (Nat × Nat) := h.1 a
noncomputable def h_i (h : Hp_) (a k : Nat) : Int32 := h.2.1 a k
noncomputable def h_l (h : Hp_) (a k : Nat) : Int64 := h.2.2.1 a k
noncomputable def h_r (h : Hp_) (a k : Nat) : Option Nat := h.2.2.2 a k
noncomputable def h_im (h : Hp_) (a k : Nat) (x : Int32) : Hp_ := (h.1, va_up h.2.1 a (upd (h.2.1 a) k x), h.2.2.1, h.2.2.2)
noncomputable def h_lm (h : Hp_) (a k : Nat) (x : Int64) : Hp_ := (h.1, h.2.1, va_up h.2.2.1 a (vp_updL (h.2.2.1 a) k x), h.2.2.2)
noncomputable def h_rm (h : Hp_) (a k : Nat) (x : Option Nat) : Hp_ := (h.1, h.2.1, h.2.2.1, va_up h.2.2.2 a (va_up (h.2.2.2 a) k x))
/-- a whole int row at once -/
noncomputable def h_iw (h : Hp_) (a : Nat) (f : Nat → Int32) : Hp_ := (h.1, va_up h.2.1 a f, h.2.2.1, h.2.2.2)
noncomputable def h_lw (h : Hp_) (a : Nat) (f : Nat → Int64) : Hp_ := (h.1, h.2.1, va_up h.2.2.1 a f, h.2.2.2)
noncomputable def h_nw (h : Hp_) (a t n : Nat) : Hp_ := (va_up h.1 a (some (t, n)), va_up h.2.1 a (fun _ => 0), va_up h.2.2.1 a (fun _ => 0), va_up h.2.2.2 a (fun _ => none))
noncomputable def h_cv (ad : Nat → Nat) : Value → Value
  | .ref a => .ref (ad a)
  | v => v
noncomputable def h_ok (dom : List Nat) (v : Value) : Prop := ∀ c, v = .ref c → c ∈ dom ∨ 1000 ≤ c
noncomputable def h_tyc : Nat → Nat → FieldType
  | 0 => tyX0 | 1 => tyX1 | 2 => tyX2 | 3 => tyX3 | 4 => tyX4 | 5 => tyX5 | 6 => tyX6 | 7 => tyX7 | 8 => tyX8 | 9 => tyX9 | 10 => tyX10 | 11 => tyX11 | _ => tyX12
noncomputable def h_kd : FieldType → Nat
  | .long => 1
  | .array _ => 2
  | .object _ => 2
  | _ => 0
noncomputable def h_fv (ad : Nat → Nat) (h : Hp_) (a ci k : Nat) : Value := match h_kd (h_tyc ci k) with
  | 0 => .int (h_i h a k)
  | 1 => .long (h_l h a k)
  | _ => va_rf ((h_r h a k).map ad)
noncomputable def h_ar (ad : Nat → Nat) (h : Hp_) (a t : Nat) : (Nat → Int32) ⊕ (Nat → Int64) ⊕ (Nat → UInt32) ⊕ (Nat → UInt64) ⊕ (Nat → Option Nat) :=
  match t with
  | 3 => .inr (.inl (h_l h a))
  | 4 => .inr (.inr (.inr (.inr (fun k => (h_r h a k).map ad))))
  | _ => .inl (h_i h a)
noncomputable def h_ce (cy : Nat → ClassId) (ad : Nat → Nat) (h : Hp_) (a : Nat) : va_E := match h_sh h a with
  | some (t, n) => if t < 10 then .inl (cy t, n, h_ar ad h a t) else .inr (t - 10, (List.range n).map (h_fv ad h a (t - 10)))
  | none => .inr (0, [])
noncomputable def h_W (cy : Nat → ClassId) (ad : Nat → Nat) (h : Hp_) (dom : List Nat) : va_W := dom.map (fun a => (ad a, h_ce cy ad h a))
theorem h_W_get {cy : Nat → ClassId} {ad : Nat → Nat} {h : Hp_} {dom : List Nat} {a : Nat} (ha : a ∈ dom) : ∃ q : Nat, dom[q]? = some a ∧ (h_W cy ad h dom)[q]? = some (ad a, h_ce cy ad h a) := by
  obtain ⟨q, hq⟩ := List.getElem?_of_mem ha
  exact ⟨q, hq, by simp [h_W, hq]⟩
theorem h_W_at {cy : Nat → ClassId} {ad : Nat → Nat} {h : Hp_} {dom : List Nat} {q a : Nat} (hq : dom[q]? = some a) : (h_W cy ad h dom)[q]? = some (ad a, h_ce cy ad h a) := by simp [h_W, hq]
theorem h_nd {dom : List Nat} (hn : dom.Nodup) {i j a : Nat} (hi : dom[i]? = some a) (hj : dom[j]? = some a) : i = j := by
  obtain ⟨l1, e1⟩ := List.getElem?_eq_some_iff.mp hi
  obtain ⟨l2, e2⟩ := List.getElem?_eq_some_iff.mp hj
  have hp := List.pairwise_iff_getElem.mp hn
  rcases Nat.lt_trichotomy i j with z | z | z
  · exact absurd (e1.trans e2.symm) (hp i j l1 l2 z)
  · exact z
  · exact absurd (e2.trans e1.symm) (hp j i l2 l1 z)
theorem h_W_set {cy : Nat → ClassId} {ad : Nat → Nat} {h h' : Hp_} {dom : List Nat} {q a : Nat} {e : va_E} (hn : dom.Nodup) (hq : dom[q]? = some a) (he : h_ce cy ad h' a = e) (ho : ∀ b, b ≠ a → h_ce cy ad h' b = h_ce cy ad h b) : (h_W cy ad h dom).set q (ad a, e) = h_W cy ad h' dom := by
  apply List.ext_getElem?
  intro k
  by_cases hk : k = q
  · subst hk
    have hl : k < (h_W cy ad h dom).length := by rw [h_W, List.length_map]; exact (List.getElem?_eq_some_iff.mp hq).1
    rw [List.getElem?_set_self hl, h_W_at hq, he]
  · rw [List.getElem?_set_ne (Ne.symm hk)]
    simp only [h_W, List.getElem?_map]
    cases hb : dom[k]? with
    | none => rfl
    | some b =>
      have hba : b ≠ a := fun z => hk (h_nd hn (by rw [hb, z]) hq)
      simp only [Option.map_some, ho b hba]
theorem h_W_new {cy : Nat → ClassId} {ad ad' : Nat → Nat} {h h' : Hp_} {dom : List Nat} {a q : Nat} {e : va_E} (ha : ad' a = q) (he : h_ce cy ad' h' a = e) (ho : ∀ b ∈ dom, ad' b = ad b ∧ h_ce cy ad' h' b = h_ce cy ad h b) : h_W cy ad h dom ++ [(q, e)] = h_W cy ad' h' (dom ++ [a]) := by
  simp only [h_W, List.map_append, List.map_cons, List.map_nil, ha, he]
  congr 1
  apply List.map_congr_left
  intro b hb
  rw [(ho b hb).1, (ho b hb).2]
/-- what a field holds: by its slot -/
theorem h_fs_at {ad : Nat → Nat} {h : Hp_} {a ci n k : Nat} (hk : k < n) : ((List.range n).map (h_fv ad h a ci))[k]? = some (h_fv ad h a ci k) := by simp [hk]
theorem h_fs_set {ad : Nat → Nat} {h h' : Hp_} {a ci n k : Nat} {v : Value} (hv : h_fv ad h' a ci k = v) (ho : ∀ j, j ≠ k → h_fv ad h' a ci j = h_fv ad h a ci j) : ((List.range n).map (h_fv ad h a ci)).set k v = (List.range n).map (h_fv ad h' a ci) := by
  apply List.ext_getElem?
  intro j
  by_cases hj : j = k
  · subst hj
    by_cases hl : j < n
    · rw [List.getElem?_set_self (by simpa using hl), h_fs_at hl, hv]
    · rw [List.getElem?_eq_none (by simpa using hl), List.getElem?_eq_none (by simpa using hl)]
  · rw [List.getElem?_set_ne (Ne.symm hj)]
    by_cases hl : j < n
    · rw [h_fs_at hl, h_fs_at hl, ho j hj]
    · rw [List.getElem?_eq_none (by simpa using hl), List.getElem?_eq_none (by simpa using hl)]
theorem h_sh_im {h : Hp_} {a k : Nat} {x : Int32} : h_sh (h_im h a k x) = h_sh h := rfl
theorem h_sh_rm {h : Hp_} {a k : Nat} {x : Option Nat} : h_sh (h_rm h a k x) = h_sh h := rfl
theorem h_sh_iw {h : Hp_} {a : Nat} {f : Nat → Int32} : h_sh (h_iw h a f) = h_sh h := rfl
theorem h_sh_lw {h : Hp_} {a : Nat} {f : Nat → Int64} : h_sh (h_lw h a f) = h_sh h := rfl
theorem h_i_im {h : Hp_} {a k b j : Nat} {x : Int32} : h_i (h_im h a k x) b j = if b = a ∧ j = k then x else h_i h b j := by
  show (if b = a then upd (h.2.1 a) k x else h.2.1 b) j = _
  by_cases h1 : b = a
  · subst h1
    rw [if_pos rfl]
    show (if j = k then x else h.2.1 b j) = _
    by_cases h2 : j = k
    · rw [if_pos h2, if_pos ⟨rfl, h2⟩]
    · rw [if_neg h2, if_neg (fun z => h2 z.2)]; rfl
  · rw [if_neg h1, if_neg (fun z => h1 z.1)]; rfl
theorem h_l_lm {h : Hp_} {a k b j : Nat} {x : Int64} : h_l (h_lm h a k x) b j = if b = a ∧ j = k then x else h_l h b j := by
  show (if b = a then vp_updL (h.2.2.1 a) k x else h.2.2.1 b) j = _
  by_cases h1 : b = a
  · subst h1
    rw [if_pos rfl]
    show (if j = k then x else h.2.2.1 b j) = _
    by_cases h2 : j = k
    · rw [if_pos h2, if_pos ⟨rfl, h2⟩]
    · rw [if_neg h2, if_neg (fun z => h2 z.2)]; rfl
  · rw [if_neg h1, if_neg (fun z => h1 z.1)]; rfl
theorem h_r_rm {h : Hp_} {a k b j : Nat} {x : Option Nat} : h_r (h_rm h a k x) b j = if b = a ∧ j = k then x else h_r h b j := by
  show (if b = a then va_up (h.2.2.2 a) k x else h.2.2.2 b) j = _
  by_cases h1 : b = a
  · subst h1
    rw [if_pos rfl]
    show (if j = k then x else h.2.2.2 b j) = _
    by_cases h2 : j = k
    · rw [if_pos h2, if_pos ⟨rfl, h2⟩]
    · rw [if_neg h2, if_neg (fun z => h2 z.2)]; rfl
  · rw [if_neg h1, if_neg (fun z => h1 z.1)]; rfl
theorem h_i_lm {h : Hp_} {a k : Nat} {x : Int64} : h_i (h_lm h a k x) = h_i h := rfl
theorem h_i_rm {h : Hp_} {a k : Nat} {x : Option Nat} : h_i (h_rm h a k x) = h_i h := rfl
theorem h_l_im {h : Hp_} {a k : Nat} {x : Int32} : h_l (h_im h a k x) = h_l h := rfl
theorem h_l_rm {h : Hp_} {a k : Nat} {x : Option Nat} : h_l (h_rm h a k x) = h_l h := rfl
theorem h_r_im {h : Hp_} {a k : Nat} {x : Int32} : h_r (h_im h a k x) = h_r h := rfl
theorem h_r_lm {h : Hp_} {a k : Nat} {x : Int64} : h_r (h_lm h a k x) = h_r h := rfl
theorem h_i_iw {h : Hp_} {a b : Nat} {f : Nat → Int32} : h_i (h_iw h a f) b = if b = a then f else h_i h b := rfl
/-- cells that a store leaves alone -/
theorem h_ce_i {cy : Nat → ClassId} {ad : Nat → Nat} {h : Hp_} {a b : Nat} {f : Nat → Int32} (hb : b ≠ a) : h_ce cy ad (h_iw h a f) b = h_ce cy ad h b := by
  have e : ∀ k, h_i (h_iw h a f) b k = h_i h b k := fun k => by rw [h_i_iw, if_neg hb]
  have e2 : h_i (h_iw h a f) b = h_i h b := funext e
  unfold h_ce
  rw [h_sh_iw]
  split
  · rename_i t n _
    have f1 : h_ar ad (h_iw h a f) b t = h_ar ad h b t := by unfold h_ar; rw [e2]; rfl
    have f2 : h_fv ad (h_iw h a f) b (t - 10) = h_fv ad h b (t - 10) := by funext k; unfold h_fv; rw [e k]; rfl
    rw [f1, f2]
  · rfl
theorem h_im_iw (h : Hp_) (a k : Nat) (x : Int32) : h_im h a k x = h_iw h a (upd (h_i h a) k x) := rfl
theorem h_l_lw {h : Hp_} {a b : Nat} {f : Nat → Int64} : h_l (h_lw h a f) b = if b = a then f else h_l h b := rfl
theorem h_ce_l {cy : Nat → ClassId} {ad : Nat → Nat} {h : Hp_} {a b : Nat} {f : Nat → Int64} (hb : b ≠ a) : h_ce cy ad (h_lw h a f) b = h_ce cy ad h b := by
  have e : ∀ k, h_l (h_lw h a f) b k = h_l h b k := fun k => by rw [h_l_lw, if_neg hb]
  have e2 : h_l (h_lw h a f) b = h_l h b := funext e
  unfold h_ce
  rw [h_sh_lw]
  split
  · rename_i t n _
    have f1 : h_ar ad (h_lw h a f) b t = h_ar ad h b t := by unfold h_ar; rw [e2]; rfl
    have f2 : h_fv ad (h_lw h a f) b (t - 10) = h_fv ad h b (t - 10) := by funext k; unfold h_fv; rw [e k]; rfl
    rw [f1, f2]
  · rfl
theorem h_ce_r {cy : Nat → ClassId} {ad : Nat → Nat} {h : Hp_} {a b k : Nat} {x : Option Nat} (hb : b ≠ a) : h_ce cy ad (h_rm h a k x) b = h_ce cy ad h b := by
  have e : ∀ j, h_r (h_rm h a k x) b j = h_r h b j := fun j => by rw [h_r_rm, if_neg (fun z => hb z.1)]
  have e2 : h_r (h_rm h a k x) b = h_r h b := funext e
  unfold h_ce
  rw [h_sh_rm]
  split
  · rename_i t n _
    have f1 : h_ar ad (h_rm h a k x) b t = h_ar ad h b t := by unfold h_ar; rw [e2]; rfl
    have f2 : h_fv ad (h_rm h a k x) b (t - 10) = h_fv ad h b (t - 10) := by funext j; unfold h_fv; rw [e j]; rfl
    rw [f1, f2]
  · rfl
theorem h_ce_arr {cy : Nat → ClassId} {ad : Nat → Nat} {h : Hp_} {a t n : Nat} (hs : h_sh h a = some (t, n)) (ht : t < 10) : h_ce cy ad h a = .inl (cy t, n, h_ar ad h a t) := by unfold h_ce; rw [hs]; simp [ht]
theorem h_ce_obj {cy : Nat → ClassId} {ad : Nat → Nat} {h : Hp_} {a ci n : Nat} (hs : h_sh h a = some (ci + 10, n)) : h_ce cy ad h a = .inr (ci, (List.range n).map (h_fv ad h a ci)) := by
  unfold h_ce
  rw [hs]
  have h1 : ¬ (ci + 10 < 10) := by omega
  simp [h1]
end
section
/-! AW: from this frame, with this heap as the proofs see it, the method comes to an end with K -/
noncomputable def h_tys (cy : Nat → ClassId) : List (ClassId × FieldType) := [(cy 0, .int), (cy 1, .boolean), (cy 2, .byte), (cy 3, .long), (cy 4, .object "CountyWatch$Constable")]
noncomputable def h_nest : List (String × Nat × MethodName) := [("CountyWatch", 18, ⟨"CountyWatch$Reader", "<init>", "()V"⟩), ("CountyWatch", 25, ⟨"CountyWatch$Beats", "<init>", "()V"⟩), ("CountyWatch", 32, ⟨"CountyWatch$Rules", "<init>", "()V"⟩), ("CountyWatch", 48, ⟨"CountyWatch$Points", "<init>", "()V"⟩), ("CountyWatch", 55, ⟨"CountyWatch$Looks", "<init>", "()V"⟩), ("CountyWatch", 69, ⟨"CountyWatch$Goods", "<init>", "()V"⟩), ("CountyWatch", 76, ⟨"CountyWatch$Plans", "<init>", "()V"⟩), ("CountyWatch$Roads", 16, ⟨"CountyWatch", "isPlace", "(I)Z"⟩), ("CountyWatch$Reader", 43, ⟨"CountyWatch", "within", "(III)Z"⟩), ("CountyWatch$Looks", 59, ⟨"CountyWatch", "within", "(III)Z"⟩), ("CountyWatch$Payroll", 69, ⟨"CountyWatch", "within", "(III)Z"⟩), ("CountyWatch$Rules", 45, ⟨"CountyWatch", "within", "(III)Z"⟩), ("CountyWatch$Cases", 71, ⟨"CountyWatch", "within", "(III)Z"⟩), ("CountyWatch$Beats", 50, ⟨"CountyWatch", "within", "(III)Z"⟩), ("CountyWatch$Plans", 79, ⟨"CountyWatch", "within", "(III)Z"⟩)]
noncomputable def cx_ (dC : Nat → ClassId) (dI : Nat → Nat → Nat) (cy : Nat → ClassId) (U : State) : Prop :=
  va_K (dC, dI) kl_ (h_tys cy) U ∧ (∀ w ∈ h_nest, va_Nw (.methodLinkNest w.1 w.2.1 w.2.2 "CountyWatch") U) ∧ va_AO "CountyWatch$Constable" U
/-- the texts: 0 "", 1 "kwphdcnet", 2 "cymxta", 3 "xnrt"; who names them, by which entry -/
noncomputable def h_strs : List (String × Nat × String × Nat) := [("CountyWatch$Reader", 15, "", 0), ("CountyWatch$Reader", 108, "kwphdcnet", 1), ("CountyWatch$Reader", 110, "cymxta", 2), ("CountyWatch$Reader", 124, "xnrt", 3), ("CountyWatch", 376, "kwphdcnet", 1), ("CountyWatchModel", 565, "kwphdcnet", 1)]
noncomputable def tx_ (ad adV : Nat → Nat) (A : Nat → Prop) (U : State) (H : Heap) : Prop :=
  vk_S 4 [0, 9, 6, 4] [[], [107, 119, 112, 104, 100, 99, 110, 101, 116], [99, 121, 109, 120, 116, 97], [120, 110, 114, 116]] (fun i => ad (1000 + i)) adV A U H ∧ (∀ i : Nat, ad (2000 + i) = adV i) ∧ va_Z "java/lang/String" "COMPACT_STRINGS" "Z" (.int 1) A U H ∧ (va_Z "jdk/internal/util/Preconditions" "SIOOBE_FORMATTER" "Ljava/util/function/BiFunction;" .null A U H ∨ va_Z "jdk/internal/util/Preconditions" "SIOOBE_FORMATTER" "Ljava/util/function/BiFunction;" (.ref (ad 2100)) A U H)
theorem tx_.moved {ad adV : Nat → Nat} {A : Nat → Prop} {u U : State} {H : Heap} (hvm : u.vm.Alike U.vm) (h : tx_ ad adV A u H) : tx_ ad adV A U H :=
  ⟨vk_S.moved hvm h.1, h.2.1, va_Z.moved hvm h.2.2.1, h.2.2.2.imp (va_Z.moved hvm) (va_Z.moved hvm)⟩
theorem tx_.kept {ad adV : Nat → Nat} {A : Nat → Prop} {U : State} {H H1 : Heap} (h : tx_ ad adV A U H) (hq : ∀ a : Nat, a < H.size → ¬ A a → H1[a]? = H[a]?) : tx_ ad adV A U H1 :=
  ⟨vk_S.kept h.1 hq, h.2.1, va_Z.kept h.2.2.1 hq, h.2.2.2.imp (fun z => va_Z.kept z hq) (fun z => va_Z.kept z hq)⟩
theorem tx_.narrow {ad adV : Nat → Nat} {A B : Nat → Prop} {U : State} {H : Heap} (h : tx_ ad adV A U H) (hAB : ∀ q, B q → A q) : tx_ ad adV B U H :=
  ⟨vk_S.narrow h.1 hAB, h.2.1, va_Z.narrow h.2.2.1 hAB, h.2.2.2.imp (fun z => va_Z.narrow z hAB) (fun z => va_Z.narrow z hAB)⟩
noncomputable def st_ (ad adV : Nat → Nat) (A : Nat → Prop) (U : State) : Prop :=
  tx_ ad adV A U U.heap ∧ ∀ r ∈ h_strs, vk_R r.1 r.2.1 r.2.2.1 (ad (1000 + r.2.2.2)) U
/-- the world: numbers of cells that there are, their addresses, what they hold -/
noncomputable def wd_ (dC : Nat → ClassId) (dI : Nat → Nat → Nat) (cy : Nat → ClassId) (A : Nat → Prop) (ad : Nat → Nat) (dom : List Nat) (h : Hp_) (H : Heap) : Prop :=
  (dom.Nodup ∧ (∀ a, h_sh h a ≠ none ↔ a ∈ dom) ∧ (∀ a ∈ dom, a < 1000) ∧ ∀ b k c, h_r h b k = some c → c ∈ dom ∨ 1000 ≤ c) ∧ va_P (dC, dI) kl_ (h_W cy ad h dom) H ∧ va_D A (h_W cy ad h dom)
/-- a later world has the earlier one's cells, at their addresses -/
noncomputable def ex_ (ad0 ad : Nat → Nat) (dom0 dom : List Nat) : Prop := (∀ a, a ∈ dom0 ∨ 1000 ≤ a → ad a = ad0 a) ∧ ∀ a ∈ dom0, a ∈ dom
noncomputable def qq_ (K : Option Value → Hp_ → Prop) (dC : Nat → ClassId) (dI : Nat → Nat → Nat) (cy : Nat → ClassId) (A : Nat → Prop) (ad0 : Nat → Nat) (dom0 : List Nat) : Array Value → State → Outcome → State → Prop := fun _ s o t =>
  (∃ (v : Option Value) (h : Hp_) (ad : Nat → Nat) (dom : List Nat), o = .returned (v.map (h_cv ad)) ∧ K v h ∧ wd_ dC dI cy A ad dom h t.heap ∧ (∀ x, v = some x → h_ok dom x) ∧ ex_ ad0 ad dom0 dom) ∧ va_F A s t
/-- what stands while a method runs: the machine, the code, the words; extra facts X of the place (the law's script) -/
noncomputable def fr_ (y : MethodName) (cc : ByteArray) (nL : Nat) (ret : Option FieldType) (p : Program) (s : State) (m : MethodId) (args : Array Value) (meth : Method) (c : Code) (dC : Nat → ClassId) (dI : Nat → Nat → Nat) (cy : Nat → ClassId) (A : Nat → Prop) : Prop :=
  p.tables.exec = Jvm.exec ∧ c.code = cc ∧ c.maxLocals = nL ∧ meth.sig.returnType = ret ∧ meth.locks = false ∧ s.vm.findClass y.cls = some m.cls ∧ meth.name = y.name ∧ (∀ w ∈ lw_g, w.before args s = true) ∧ cx_ dC dI cy s ∧ ∀ q, s.heap.size ≤ q → A q
/-- a method as it runs: extra facts of the place, its name, its bytes, its locals, what it answers, its room -/
noncomputable abbrev Mc_ : Type := ((Nat → Nat) → (Nat → Prop) → State → Prop) × MethodName × ByteArray × Nat × Option FieldType × Room
noncomputable abbrev mX (M : Mc_) := M.1
noncomputable abbrev mY (M : Mc_) := M.2.1
noncomputable abbrev mC (M : Mc_) := M.2.2.1
noncomputable abbrev mN (M : Mc_) := M.2.2.2.1
noncomputable abbrev mT (M : Mc_) := M.2.2.2.2.1
noncomputable abbrev mR (M : Mc_) := M.2.2.2.2.2
/-- launches without stack traces -/
noncomputable abbrev Ln_ : Type := { l : Launch // l.stackTraces = false }
noncomputable def AW (M : Mc_) (kc ks : Nat) (pc : Nat) (lv : List (Nat × Value)) (st : List Value) (h : Hp_) (K : Option Value → Hp_ → Prop) : Prop :=
  ∀ (l : Ln_) (p : Program) (e : Env) (s : State) (m : MethodId) (args : Array Value) (below : List Frame) (meth : Method) (c : Code) (dC : Nat → ClassId) (dI : Nat → Nat → Nat) (cy : Nat → ClassId) (A : Nat → Prop) (ad0 adV ad : Nat → Nat) (dom0 dom : List Nat) (H : Heap) (locs : List Loc) (ls : Array Slot),
    fr_ (mY M) (mC M) (mN M) (mT M) p s m args meth c dC dI cy A → mX M ad A s → st_ ad adV A s → ex_ ad0 ad dom0 dom → wd_ dC dI cy A ad dom h H → va_S A s.heap H locs → lv_has ls (mN M) (lv.map (fun q => (q.1, h_cv ad q.2))) → (∀ q ∈ lv, h_ok dom q.2) → (∀ v ∈ st, h_ok dom v) →
    W p l.1 e (mR M) s m args below meth c H locs kc ks (MQ below (qq_ K dC dI cy A ad0 dom0) args s (mR M).cells (mR M).slots A) (F0 m pc ls (st.map (h_cv ad)))
section AWR
variable {M : Mc_} {kc ks pc : Nat} {lv : List (Nat × Value)} {st : List Value} {h : Hp_} {K : Option Value → Hp_ → Prop}
theorem ok_i {dom : List Nat} {x : Int32} : h_ok dom (.int x) := fun c h => by cases h
theorem ok_l {dom : List Nat} {x : Int64} : h_ok dom (.long x) := fun c h => by cases h
theorem ok_n {dom : List Nat} : h_ok dom .null := fun c h => by cases h
theorem ok_c {dom : List Nat} {v : Value} {st : List Value} (h : h_ok dom v) (hs : ∀ v ∈ st, h_ok dom v) : ∀ w ∈ v :: st, h_ok dom w := List.forall_mem_cons.mpr ⟨h, hs⟩
theorem ok_t {dom : List Nat} {v : Value} {st : List Value} (hs : ∀ w ∈ v :: st, h_ok dom w) : ∀ w ∈ st, h_ok dom w := (List.forall_mem_cons.mp hs).2
theorem ok_h {dom : List Nat} {v : Value} {st : List Value} (hs : ∀ w ∈ v :: st, h_ok dom w) : h_ok dom v := (List.forall_mem_cons.mp hs).1
theorem lv_fnd {lv : List (Nat × Value)} {i : Nat} {v : Value} (hq : (i, v) ∈ lv) {ad : Nat → Nat} {ls : Array Slot} {nL : Nat} (hl : lv_has ls nL (lv.map (fun q => (q.1, h_cv ad q.2)))) : ls[i]? = some (.val (h_cv ad v)) := hl.2.2 (i, h_cv ad v) (List.mem_map.mpr ⟨(i, v), hq, rfl⟩)
/-- a place to store to: the list by rising places -/
noncomputable def lv_put (i : Nat) (v : Value) : List (Nat × Value) → List (Nat × Value)
  | [] => [(i, v)]
  | q :: t => if q.1 = i then (i, v) :: t else if i < q.1 then (i, v) :: q :: t else q :: lv_put i v t
theorem lv_put_mem {i : Nat} {v : Value} : ∀ {lv : List (Nat × Value)} {q : Nat × Value}, q ∈ lv_put i v lv → q = (i, v) ∨ q ∈ lv
  | [], q, h => by simp [lv_put] at h; exact Or.inl h
  | p :: t, q, h => by
    unfold lv_put at h
    split at h
    · rcases List.mem_cons.mp h with h | h
      · exact Or.inl h
      · exact Or.inr (List.mem_cons_of_mem _ h)
    · split at h
      · rcases List.mem_cons.mp h with h | h
        · exact Or.inl h
        · exact Or.inr h
      · rcases List.mem_cons.mp h with h | h
        · exact Or.inr (by rw [h]; exact List.mem_cons_self)
        · rcases lv_put_mem h with h | h
          · exact Or.inl h
          · exact Or.inr (List.mem_cons_of_mem _ h)
/-- places rise, nothing wide ahead of the place: then what is left of the old list is as the store leaves it -/
noncomputable def lv_fit (i : Nat) (lv : List (Nat × Value)) : Bool := lv.all (fun q => !(q.1 + 1 == i && q.2.category == 2))
noncomputable def lv_rise : List (Nat × Value) → Bool
  | [] => true
  | q :: t => t.all (fun r => decide (q.1 < r.1)) && lv_rise t
theorem lv_put_ne {i : Nat} {v : Value} : ∀ {lv : List (Nat × Value)}, lv_rise lv = true → ∀ {q : Nat × Value}, q ∈ lv_put i v lv → q = (i, v) ∨ (q ∈ lv ∧ q.1 ≠ i)
  | [], _, q, h => by simp [lv_put] at h; exact Or.inl h
  | p :: t, hr, q, h => by
    simp only [lv_rise, Bool.and_eq_true, List.all_eq_true, decide_eq_true_eq] at hr
    unfold lv_put at h
    split at h
    · rename_i hp
      rcases List.mem_cons.mp h with h | h
      · exact Or.inl h
      · exact Or.inr ⟨List.mem_cons_of_mem _ h, by have := hr.1 q h; omega⟩
    · rename_i hp
      split at h
      · rename_i hlt
        rcases List.mem_cons.mp h with h | h
        · exact Or.inl h
        · refine Or.inr ⟨h, ?_⟩
          rcases List.mem_cons.mp h with h | h
          · rw [h]; omega
          · have := hr.1 q h; omega
      · rcases List.mem_cons.mp h with h | h
        · exact Or.inr ⟨by rw [h]; exact List.mem_cons_self, by rw [h]; exact hp⟩
        · rcases lv_put_ne hr.2 h with h | h
          · exact Or.inl h
          · exact Or.inr ⟨List.mem_cons_of_mem _ h.1, h.2⟩
theorem cv_cat (ad : Nat → Nat) (v : Value) : (h_cv ad v).category = v.category := by cases v <;> rfl
theorem lv_put_has {i nL : Nat} {v : Value} {lv : List (Nat × Value)} {ad : Nat → Nat} {ls' : Array Slot} (hr : lv_rise lv = true) (hfit : lv_fit i lv = true)
    (h : lv_has ls' nL ((i, h_cv ad v) :: (lv.map (fun q => (q.1, h_cv ad q.2))).filter (fun q => !(q.1 == i) && !(q.1 + 1 == i && q.2.category == 2)))) : lv_has ls' nL ((lv_put i v lv).map (fun q => (q.1, h_cv ad q.2))) := by
  refine ⟨h.1, h.2.1, fun q hq => h.2.2 q ?_⟩
  obtain ⟨r, h1, rfl⟩ := List.mem_map.mp hq
  rcases lv_put_ne hr h1 with h2 | ⟨h2, h3⟩
  · subst h2; exact List.mem_cons_self
  · refine List.mem_cons_of_mem _ (List.mem_filter.mpr ⟨List.mem_map.mpr ⟨r, h2, rfl⟩, ?_⟩)
    have h4 := List.all_eq_true.mp hfit r h2
    simp only [cv_cat]
    simp only [Bool.and_eq_true, h4, and_true]
    simpa using h3
theorem aw_iconst {n : Int} {v : Int32} (hd : decode (mC M) pc = .ok (.iconst n, 1)) (hv : Int32.ofInt n = v) (k : AW M kc ks (pc + 1) lv (.int v :: st) h K) : AW M kc ks pc lv st h K := by
  intro l p e s m args below meth c dC dI cy A ad0 adV ad dom0 dom H locs ls hf hX hT hE hW hS hl ho hs
  exact lv_iconst hf.1 hf.2.1 hd hv (k l p e s m args below meth c dC dI cy A ad0 adV ad dom0 dom H locs ls hf hX hT hE hW hS hl ho (ok_c ok_i hs))
theorem aw_bipush {n : Int} {v : Int32} (hd : decode (mC M) pc = .ok (.bipush n, 2)) (hv : (Int8.ofInt n).toInt32 = v) (k : AW M kc ks (pc + 2) lv (.int v :: st) h K) : AW M kc ks pc lv st h K := by
  intro l p e s m args below meth c dC dI cy A ad0 adV ad dom0 dom H locs ls hf hX hT hE hW hS hl ho hs
  exact lv_bipush hf.1 hf.2.1 hd hv (k l p e s m args below meth c dC dI cy A ad0 adV ad dom0 dom H locs ls hf hX hT hE hW hS hl ho (ok_c ok_i hs))
theorem aw_sipush {n : Int} {v : Int32} (hd : decode (mC M) pc = .ok (.sipush n, 3)) (hv : (Int16.ofInt n).toInt32 = v) (k : AW M kc ks (pc + 3) lv (.int v :: st) h K) : AW M kc ks pc lv st h K := by
  intro l p e s m args below meth c dC dI cy A ad0 adV ad dom0 dom H locs ls hf hX hT hE hW hS hl ho hs
  exact lv_sipush hf.1 hf.2.1 hd hv (k l p e s m args below meth c dC dI cy A ad0 adV ad dom0 dom H locs ls hf hX hT hE hW hS hl ho (ok_c ok_i hs))
theorem aw_lconst {n : Fin 2} {v : Int64} (hd : decode (mC M) pc = .ok (.lconst n, 1)) (hv : Int64.ofNat (n : Nat) = v) (k : AW M kc ks (pc + 1) lv (.long v :: st) h K) : AW M kc ks pc lv st h K := by
  intro l p e s m args below meth c dC dI cy A ad0 adV ad dom0 dom H locs ls hf hX hT hE hW hS hl ho hs
  exact lv_lconst hf.1 hf.2.1 hd hv (k l p e s m args below meth c dC dI cy A ad0 adV ad dom0 dom H locs ls hf hX hT hE hW hS hl ho (ok_c ok_l hs))
theorem aw_null  (hd : decode (mC M) pc = .ok (.aconst_null, 1)) (k : AW M kc ks (pc + 1) lv (.null :: st) h K) : AW M kc ks pc lv st h K := by
  intro l p e s m args below meth c dC dI cy A ad0 adV ad dom0 dom H locs ls hf hX hT hE hW hS hl ho hs
  exact lv_null hf.1 hf.2.1 hd (k l p e s m args below meth c dC dI cy A ad0 adV ad dom0 dom H locs ls hf hX hT hE hW hS hl ho (ok_c ok_n hs))
theorem aw_ldc {i : Nat} {v : Int32} (hd : decode (mC M) pc = .ok (.ldc i, 2)) (hw : Cond.constant (mY M).cls i v ∈ lw_g) (k : AW M kc ks (pc + 2) lv (.int v :: st) h K) : AW M kc ks pc lv st h K := by
  intro l p e s m args below meth c dC dI cy A ad0 adV ad dom0 dom H locs ls hf hX hT hE hW hS hl ho hs
  exact lv_ldc hf.1 hf.2.1 hf.2.2.2.2.2.1 (hf.2.2.2.2.2.2.2.1 _ hw) hd (k l p e s m args below meth c dC dI cy A ad0 adV ad dom0 dom H locs ls hf hX hT hE hW hS hl ho (ok_c ok_i hs))
theorem aw_ldcw {i : Nat} {v : Int32} (hd : decode (mC M) pc = .ok (.ldc_w i, 3)) (hw : Cond.constant (mY M).cls i v ∈ lw_g) (k : AW M kc ks (pc + 3) lv (.int v :: st) h K) : AW M kc ks pc lv st h K := by
  intro l p e s m args below meth c dC dI cy A ad0 adV ad dom0 dom H locs ls hf hX hT hE hW hS hl ho hs
  exact lv_ldcw hf.1 hf.2.1 hf.2.2.2.2.2.1 (hf.2.2.2.2.2.2.2.1 _ hw) hd (k l p e s m args below meth c dC dI cy A ad0 adV ad dom0 dom H locs ls hf hX hT hE hW hS hl ho (ok_c ok_i hs))
theorem aw_ldc2 {i : Nat} {v : Int64} (hd : decode (mC M) pc = .ok (.ldc2_w i, 3)) (hw : Cond.constantLong (mY M).cls i v ∈ lw_g) (k : AW M kc ks (pc + 3) lv (.long v :: st) h K) : AW M kc ks pc lv st h K := by
  intro l p e s m args below meth c dC dI cy A ad0 adV ad dom0 dom H locs ls hf hX hT hE hW hS hl ho hs
  exact lv_ldc2 hf.1 hf.2.1 hf.2.2.2.2.2.1 (hf.2.2.2.2.2.2.2.1 _ hw) hd (k l p e s m args below meth c dC dI cy A ad0 adV ad dom0 dom H locs ls hf hX hT hE hW hS hl ho (ok_c ok_l hs))
theorem aw_iload {i : Nat} {x : Int32}  (hd : decode (mC M) pc = .ok (.iload i, 2)) (j : Nat) (hj : lv[j]? = some (i, .int x)) (k : AW M kc ks (pc + 2) lv (.int x :: st) h K) : AW M kc ks pc lv st h K := by
  intro l p e s m args below meth c dC dI cy A ad0 adV ad dom0 dom H locs ls hf hX hT hE hW hS hl ho hs
  exact lv_iload hf.1 hf.2.1 hd  (lv_fnd (List.mem_of_getElem? hj) hl) (k l p e s m args below meth c dC dI cy A ad0 adV ad dom0 dom H locs ls hf hX hT hE hW hS hl ho (ok_c ok_i hs))
theorem aw_iload_n {i : Nat} {x : Int32} {z : Fin 4} (hz : (z : Nat) = i) (hd : decode (mC M) pc = .ok (.iload_n z, 1)) (j : Nat) (hj : lv[j]? = some (i, .int x)) (k : AW M kc ks (pc + 1) lv (.int x :: st) h K) : AW M kc ks pc lv st h K := by
  intro l p e s m args below meth c dC dI cy A ad0 adV ad dom0 dom H locs ls hf hX hT hE hW hS hl ho hs
  exact lv_iload_n hf.1 hf.2.1 hd hz (lv_fnd (List.mem_of_getElem? hj) hl) (k l p e s m args below meth c dC dI cy A ad0 adV ad dom0 dom H locs ls hf hX hT hE hW hS hl ho (ok_c ok_i hs))
theorem aw_lload {i : Nat} {x : Int64}  (hd : decode (mC M) pc = .ok (.lload i, 2)) (j : Nat) (hj : lv[j]? = some (i, .long x)) (k : AW M kc ks (pc + 2) lv (.long x :: st) h K) : AW M kc ks pc lv st h K := by
  intro l p e s m args below meth c dC dI cy A ad0 adV ad dom0 dom H locs ls hf hX hT hE hW hS hl ho hs
  exact lv_lload hf.1 hf.2.1 hd  (lv_fnd (List.mem_of_getElem? hj) hl) (k l p e s m args below meth c dC dI cy A ad0 adV ad dom0 dom H locs ls hf hX hT hE hW hS hl ho (ok_c ok_l hs))
theorem aw_lload_n {i : Nat} {x : Int64} {z : Fin 4} (hz : (z : Nat) = i) (hd : decode (mC M) pc = .ok (.lload_n z, 1)) (j : Nat) (hj : lv[j]? = some (i, .long x)) (k : AW M kc ks (pc + 1) lv (.long x :: st) h K) : AW M kc ks pc lv st h K := by
  intro l p e s m args below meth c dC dI cy A ad0 adV ad dom0 dom H locs ls hf hX hT hE hW hS hl ho hs
  exact lv_lload_n hf.1 hf.2.1 hd hz (lv_fnd (List.mem_of_getElem? hj) hl) (k l p e s m args below meth c dC dI cy A ad0 adV ad dom0 dom H locs ls hf hX hT hE hW hS hl ho (ok_c ok_l hs))
theorem aw_aload {i : Nat} {x : Nat}  (hd : decode (mC M) pc = .ok (.aload i, 2)) (j : Nat) (hj : lv[j]? = some (i, .ref x)) (k : AW M kc ks (pc + 2) lv (.ref x :: st) h K) : AW M kc ks pc lv st h K := by
  intro l p e s m args below meth c dC dI cy A ad0 adV ad dom0 dom H locs ls hf hX hT hE hW hS hl ho hs
  exact lv_aload hf.1 hf.2.1 hd  (lv_fnd (List.mem_of_getElem? hj) hl) (k l p e s m args below meth c dC dI cy A ad0 adV ad dom0 dom H locs ls hf hX hT hE hW hS hl ho (ok_c (ho _ (List.mem_of_getElem? hj)) hs))
theorem aw_aloadN {i : Nat}  (hd : decode (mC M) pc = .ok (.aload i, 2)) (j : Nat) (hj : lv[j]? = some (i, .null)) (k : AW M kc ks (pc + 2) lv (.null :: st) h K) : AW M kc ks pc lv st h K := by
  intro l p e s m args below meth c dC dI cy A ad0 adV ad dom0 dom H locs ls hf hX hT hE hW hS hl ho hs
  exact lv_aloadN hf.1 hf.2.1 hd  (lv_fnd (List.mem_of_getElem? hj) hl) (k l p e s m args below meth c dC dI cy A ad0 adV ad dom0 dom H locs ls hf hX hT hE hW hS hl ho (ok_c ok_n hs))
theorem aw_aload_n {i : Nat} {x : Nat} {z : Fin 4} (hz : (z : Nat) = i) (hd : decode (mC M) pc = .ok (.aload_n z, 1)) (j : Nat) (hj : lv[j]? = some (i, .ref x)) (k : AW M kc ks (pc + 1) lv (.ref x :: st) h K) : AW M kc ks pc lv st h K := by
  intro l p e s m args below meth c dC dI cy A ad0 adV ad dom0 dom H locs ls hf hX hT hE hW hS hl ho hs
  exact lv_aload_n hf.1 hf.2.1 hd hz (lv_fnd (List.mem_of_getElem? hj) hl) (k l p e s m args below meth c dC dI cy A ad0 adV ad dom0 dom H locs ls hf hX hT hE hW hS hl ho (ok_c (ho _ (List.mem_of_getElem? hj)) hs))
theorem aw_aload_nN {i : Nat} {z : Fin 4} (hz : (z : Nat) = i) (hd : decode (mC M) pc = .ok (.aload_n z, 1)) (j : Nat) (hj : lv[j]? = some (i, .null)) (k : AW M kc ks (pc + 1) lv (.null :: st) h K) : AW M kc ks pc lv st h K := by
  intro l p e s m args below meth c dC dI cy A ad0 adV ad dom0 dom H locs ls hf hX hT hE hW hS hl ho hs
  exact lv_aload_nN hf.1 hf.2.1 hd hz (lv_fnd (List.mem_of_getElem? hj) hl) (k l p e s m args below meth c dC dI cy A ad0 adV ad dom0 dom H locs ls hf hX hT hE hW hS hl ho (ok_c ok_n hs))
theorem aw_istore {i : Nat} {x : Int32}  (lv' : List (Nat × Value)) (hd : decode (mC M) pc = .ok (.istore i, 2)) (hn : i < mN M) (hr : (lv_rise lv && lv_fit i lv) = true) (hp : lv_put i (.int x) lv = lv') (k : AW M kc ks (pc + 2) lv' st h K) : AW M kc ks pc lv (.int x :: st) h K := by
  intro l p e s m args below meth c dC dI cy A ad0 adV ad dom0 dom H locs ls hf hX hT hE hW hS hl ho hs
  rw [Bool.and_eq_true] at hr
  subst hp
  refine lv_istore hf.1 hf.2.1 hd  hl hn rfl (fun ls' hl' => ?_)
  refine k l p e s m args below meth c dC dI cy A ad0 adV ad dom0 dom H locs ls' hf hX hT hE hW hS (lv_put_has (v := .int x) hr.1 hr.2 hl') (fun q hq => ?_) (ok_t hs)
  rcases lv_put_mem hq with h1 | h1
  · rw [h1]; exact ok_i
  · exact ho q h1
theorem aw_istore_n {i : Nat} {x : Int32} {z : Fin 4} (hz : (z : Nat) = i) (lv' : List (Nat × Value)) (hd : decode (mC M) pc = .ok (.istore_n z, 1)) (hn : i < mN M) (hr : (lv_rise lv && lv_fit i lv) = true) (hp : lv_put i (.int x) lv = lv') (k : AW M kc ks (pc + 1) lv' st h K) : AW M kc ks pc lv (.int x :: st) h K := by
  intro l p e s m args below meth c dC dI cy A ad0 adV ad dom0 dom H locs ls hf hX hT hE hW hS hl ho hs
  rw [Bool.and_eq_true] at hr
  subst hp
  refine lv_istore_n hf.1 hf.2.1 hd hz hl hn rfl (fun ls' hl' => ?_)
  refine k l p e s m args below meth c dC dI cy A ad0 adV ad dom0 dom H locs ls' hf hX hT hE hW hS (lv_put_has (v := .int x) hr.1 hr.2 hl') (fun q hq => ?_) (ok_t hs)
  rcases lv_put_mem hq with h1 | h1
  · rw [h1]; exact ok_i
  · exact ho q h1
theorem aw_astore {i : Nat} {x : Nat}  (lv' : List (Nat × Value)) (hd : decode (mC M) pc = .ok (.astore i, 2)) (hn : i < mN M) (hr : (lv_rise lv && lv_fit i lv) = true) (hp : lv_put i (.ref x) lv = lv') (k : AW M kc ks (pc + 2) lv' st h K) : AW M kc ks pc lv (.ref x :: st) h K := by
  intro l p e s m args below meth c dC dI cy A ad0 adV ad dom0 dom H locs ls hf hX hT hE hW hS hl ho hs
  rw [Bool.and_eq_true] at hr
  subst hp
  refine lv_astore hf.1 hf.2.1 hd  hl hn rfl (fun ls' hl' => ?_)
  refine k l p e s m args below meth c dC dI cy A ad0 adV ad dom0 dom H locs ls' hf hX hT hE hW hS (lv_put_has (v := .ref x) hr.1 hr.2 hl') (fun q hq => ?_) (ok_t hs)
  rcases lv_put_mem hq with h1 | h1
  · rw [h1]; exact ok_h hs
  · exact ho q h1
theorem aw_astore_n {i : Nat} {x : Nat} {z : Fin 4} (hz : (z : Nat) = i) (lv' : List (Nat × Value)) (hd : decode (mC M) pc = .ok (.astore_n z, 1)) (hn : i < mN M) (hr : (lv_rise lv && lv_fit i lv) = true) (hp : lv_put i (.ref x) lv = lv') (k : AW M kc ks (pc + 1) lv' st h K) : AW M kc ks pc lv (.ref x :: st) h K := by
  intro l p e s m args below meth c dC dI cy A ad0 adV ad dom0 dom H locs ls hf hX hT hE hW hS hl ho hs
  rw [Bool.and_eq_true] at hr
  subst hp
  refine lv_astore_n hf.1 hf.2.1 hd hz hl hn rfl (fun ls' hl' => ?_)
  refine k l p e s m args below meth c dC dI cy A ad0 adV ad dom0 dom H locs ls' hf hX hT hE hW hS (lv_put_has (v := .ref x) hr.1 hr.2 hl') (fun q hq => ?_) (ok_t hs)
  rcases lv_put_mem hq with h1 | h1
  · rw [h1]; exact ok_h hs
  · exact ho q h1
theorem aw_astoreN {i : Nat}   (lv' : List (Nat × Value)) (hd : decode (mC M) pc = .ok (.astore i, 2)) (hn : i < mN M) (hr : (lv_rise lv && lv_fit i lv) = true) (hp : lv_put i (.null) lv = lv') (k : AW M kc ks (pc + 2) lv' st h K) : AW M kc ks pc lv (.null :: st) h K := by
  intro l p e s m args below meth c dC dI cy A ad0 adV ad dom0 dom H locs ls hf hX hT hE hW hS hl ho hs
  rw [Bool.and_eq_true] at hr
  subst hp
  refine lv_astoreN hf.1 hf.2.1 hd  hl hn rfl (fun ls' hl' => ?_)
  refine k l p e s m args below meth c dC dI cy A ad0 adV ad dom0 dom H locs ls' hf hX hT hE hW hS (lv_put_has (v := .null) hr.1 hr.2 hl') (fun q hq => ?_) (ok_t hs)
  rcases lv_put_mem hq with h1 | h1
  · rw [h1]; exact ok_n
  · exact ho q h1
theorem aw_astore_nN {i : Nat}  {z : Fin 4} (hz : (z : Nat) = i) (lv' : List (Nat × Value)) (hd : decode (mC M) pc = .ok (.astore_n z, 1)) (hn : i < mN M) (hr : (lv_rise lv && lv_fit i lv) = true) (hp : lv_put i (.null) lv = lv') (k : AW M kc ks (pc + 1) lv' st h K) : AW M kc ks pc lv (.null :: st) h K := by
  intro l p e s m args below meth c dC dI cy A ad0 adV ad dom0 dom H locs ls hf hX hT hE hW hS hl ho hs
  rw [Bool.and_eq_true] at hr
  subst hp
  refine lv_astore_nN hf.1 hf.2.1 hd hz hl hn rfl (fun ls' hl' => ?_)
  refine k l p e s m args below meth c dC dI cy A ad0 adV ad dom0 dom H locs ls' hf hX hT hE hW hS (lv_put_has (v := .null) hr.1 hr.2 hl') (fun q hq => ?_) (ok_t hs)
  rcases lv_put_mem hq with h1 | h1
  · rw [h1]; exact ok_n
  · exact ho q h1
theorem lv_put_hasL {i nL : Nat} {v : Value} {lv : List (Nat × Value)} {ad : Nat → Nat} {ls' : Array Slot} (hr : lv_rise lv = true) (hfit : lv_fit i lv = true) (hfit2 : lv.all (fun q => !(q.1 == i + 1)) = true)
    (h : lv_has ls' nL ((i, h_cv ad v) :: (lv.map (fun q => (q.1, h_cv ad q.2))).filter (fun q => !(q.1 == i) && (!(q.1 == i + 1) && !(q.1 + 1 == i && q.2.category == 2))))) : lv_has ls' nL ((lv_put i v lv).map (fun q => (q.1, h_cv ad q.2))) := by
  refine ⟨h.1, h.2.1, fun q hq => h.2.2 q ?_⟩
  obtain ⟨r, h1, rfl⟩ := List.mem_map.mp hq
  rcases lv_put_ne hr h1 with h2 | ⟨h2, h3⟩
  · subst h2; exact List.mem_cons_self
  · refine List.mem_cons_of_mem _ (List.mem_filter.mpr ⟨List.mem_map.mpr ⟨r, h2, rfl⟩, ?_⟩)
    have h4 := List.all_eq_true.mp hfit r h2
    have h5 := List.all_eq_true.mp hfit2 r h2
    simp only [cv_cat]
    simp only [Bool.and_eq_true, h4, h5, and_true]
    simpa using h3
theorem aw_lstore {i : Nat} {x : Int64}  (lv' : List (Nat × Value)) (hd : decode (mC M) pc = .ok (.lstore i, 2)) (hn : i + 1 < mN M) (hr : (lv_rise lv && lv_fit i lv && lv.all (fun q => !(q.1 == i + 1))) = true) (hp : lv_put i (.long x) lv = lv') (k : AW M kc ks (pc + 2) lv' st h K) : AW M kc ks pc lv (.long x :: st) h K := by
  intro l p e s m args below meth c dC dI cy A ad0 adV ad dom0 dom H locs ls hf hX hT hE hW hS hl ho hs
  rw [Bool.and_eq_true, Bool.and_eq_true] at hr
  subst hp
  refine lv_lstore hf.1 hf.2.1 hd  hl hn rfl (fun ls' hl' => ?_)
  refine k l p e s m args below meth c dC dI cy A ad0 adV ad dom0 dom H locs ls' hf hX hT hE hW hS (lv_put_hasL (v := .long x) hr.1.1 hr.1.2 hr.2 hl') (fun q hq => ?_) (ok_t hs)
  rcases lv_put_mem hq with h1 | h1
  · rw [h1]; exact ok_l
  · exact ho q h1
theorem aw_lstore_n {i : Nat} {x : Int64} {z : Fin 4} (hz : (z : Nat) = i) (lv' : List (Nat × Value)) (hd : decode (mC M) pc = .ok (.lstore_n z, 1)) (hn : i + 1 < mN M) (hr : (lv_rise lv && lv_fit i lv && lv.all (fun q => !(q.1 == i + 1))) = true) (hp : lv_put i (.long x) lv = lv') (k : AW M kc ks (pc + 1) lv' st h K) : AW M kc ks pc lv (.long x :: st) h K := by
  intro l p e s m args below meth c dC dI cy A ad0 adV ad dom0 dom H locs ls hf hX hT hE hW hS hl ho hs
  rw [Bool.and_eq_true, Bool.and_eq_true] at hr
  subst hp
  refine lv_lstore_n hf.1 hf.2.1 hd hz hl hn rfl (fun ls' hl' => ?_)
  refine k l p e s m args below meth c dC dI cy A ad0 adV ad dom0 dom H locs ls' hf hX hT hE hW hS (lv_put_hasL (v := .long x) hr.1.1 hr.1.2 hr.2 hl') (fun q hq => ?_) (ok_t hs)
  rcases lv_put_mem hq with h1 | h1
  · rw [h1]; exact ok_l
  · exact ho q h1
theorem aw_iinc {i : Nat} {n : Int} {x v : Int32} (lv' : List (Nat × Value)) (hd : decode (mC M) pc = .ok (.iinc i n, 3)) (j : Nat) (hj : lv[j]? = some (i, .int x)) (hv : x + Int32.ofInt n = v) (hn : i < mN M) (hr : (lv_rise lv && lv_fit i lv) = true) (hp : lv_put i (.int v) lv = lv') (k : AW M kc ks (pc + 3) lv' st h K) : AW M kc ks pc lv st h K := by
  intro l p e s m args below meth c dC dI cy A ad0 adV ad dom0 dom H locs ls hf hX hT hE hW hS hl ho hs
  rw [Bool.and_eq_true] at hr
  subst hp
  refine lv_iinc (k := j) (x := x) hf.1 hf.2.1 hd hl (by rw [List.getElem?_map, hj]; rfl) hv hn rfl (fun ls' hl' => ?_)
  refine k l p e s m args below meth c dC dI cy A ad0 adV ad dom0 dom H locs ls' hf hX hT hE hW hS (lv_put_has (v := .int v) hr.1 hr.2 hl') (fun q hq => ?_) hs
  rcases lv_put_mem hq with h1 | h1
  · rw [h1]; exact ok_i
  · exact ho q h1
/-- fewer locals are told of, in another order -/
theorem aw_lv (lv' : List (Nat × Value)) (hm : ∀ q ∈ lv', q ∈ lv) (k : AW M kc ks pc lv' st h K) : AW M kc ks pc lv st h K := by
  intro l p e s m args below meth c dC dI cy A ad0 adV ad dom0 dom H locs ls hf hX hT hE hW hS hl ho hs
  refine k l p e s m args below meth c dC dI cy A ad0 adV ad dom0 dom H locs ls hf hX hT hE hW hS ⟨hl.1, hl.2.1, fun q hq => hl.2.2 q ?_⟩ (fun q hq => ho q (hm q hq)) hs
  obtain ⟨r, h1, rfl⟩ := List.mem_map.mp hq
  exact List.mem_map.mpr ⟨r, hm r h1, rfl⟩
theorem aw_iadd {a b : Int32} (hd : decode (mC M) pc = .ok (.iadd, 1)) (k : AW M kc ks (pc + 1) lv (.int (a + b) :: st) h K) : AW M kc ks pc lv (.int b :: .int a :: st) h K := by
  intro l p e s m args below meth c dC dI cy A ad0 adV ad dom0 dom H locs ls hf hX hT hE hW hS hl ho hs
  exact lv_iadd hf.1 hf.2.1 hd (k l p e s m args below meth c dC dI cy A ad0 adV ad dom0 dom H locs ls hf hX hT hE hW hS hl ho (ok_c ok_i (ok_t (ok_t hs))))
theorem aw_isub {a b : Int32} (hd : decode (mC M) pc = .ok (.isub, 1)) (k : AW M kc ks (pc + 1) lv (.int (a - b) :: st) h K) : AW M kc ks pc lv (.int b :: .int a :: st) h K := by
  intro l p e s m args below meth c dC dI cy A ad0 adV ad dom0 dom H locs ls hf hX hT hE hW hS hl ho hs
  exact lv_isub hf.1 hf.2.1 hd (k l p e s m args below meth c dC dI cy A ad0 adV ad dom0 dom H locs ls hf hX hT hE hW hS hl ho (ok_c ok_i (ok_t (ok_t hs))))
theorem aw_imul {a b : Int32} (hd : decode (mC M) pc = .ok (.imul, 1)) (k : AW M kc ks (pc + 1) lv (.int (a * b) :: st) h K) : AW M kc ks pc lv (.int b :: .int a :: st) h K := by
  intro l p e s m args below meth c dC dI cy A ad0 adV ad dom0 dom H locs ls hf hX hT hE hW hS hl ho hs
  exact lv_imul hf.1 hf.2.1 hd (k l p e s m args below meth c dC dI cy A ad0 adV ad dom0 dom H locs ls hf hX hT hE hW hS hl ho (ok_c ok_i (ok_t (ok_t hs))))
theorem aw_iand {a b : Int32} (hd : decode (mC M) pc = .ok (.iand, 1)) (k : AW M kc ks (pc + 1) lv (.int (a &&& b) :: st) h K) : AW M kc ks pc lv (.int b :: .int a :: st) h K := by
  intro l p e s m args below meth c dC dI cy A ad0 adV ad dom0 dom H locs ls hf hX hT hE hW hS hl ho hs
  exact lv_iand hf.1 hf.2.1 hd (k l p e s m args below meth c dC dI cy A ad0 adV ad dom0 dom H locs ls hf hX hT hE hW hS hl ho (ok_c ok_i (ok_t (ok_t hs))))
theorem aw_ior {a b : Int32} (hd : decode (mC M) pc = .ok (.ior, 1)) (k : AW M kc ks (pc + 1) lv (.int (a ||| b) :: st) h K) : AW M kc ks pc lv (.int b :: .int a :: st) h K := by
  intro l p e s m args below meth c dC dI cy A ad0 adV ad dom0 dom H locs ls hf hX hT hE hW hS hl ho hs
  exact lv_ior hf.1 hf.2.1 hd (k l p e s m args below meth c dC dI cy A ad0 adV ad dom0 dom H locs ls hf hX hT hE hW hS hl ho (ok_c ok_i (ok_t (ok_t hs))))
theorem aw_ixor {a b : Int32} (hd : decode (mC M) pc = .ok (.ixor, 1)) (k : AW M kc ks (pc + 1) lv (.int (a ^^^ b) :: st) h K) : AW M kc ks pc lv (.int b :: .int a :: st) h K := by
  intro l p e s m args below meth c dC dI cy A ad0 adV ad dom0 dom H locs ls hf hX hT hE hW hS hl ho hs
  exact lv_ixor hf.1 hf.2.1 hd (k l p e s m args below meth c dC dI cy A ad0 adV ad dom0 dom H locs ls hf hX hT hE hW hS hl ho (ok_c ok_i (ok_t (ok_t hs))))
theorem aw_ishl {a b : Int32} (hd : decode (mC M) pc = .ok (.ishl, 1)) (k : AW M kc ks (pc + 1) lv (.int (a <<< (b &&& 31)) :: st) h K) : AW M kc ks pc lv (.int b :: .int a :: st) h K := by
  intro l p e s m args below meth c dC dI cy A ad0 adV ad dom0 dom H locs ls hf hX hT hE hW hS hl ho hs
  exact lv_ishl hf.1 hf.2.1 hd (k l p e s m args below meth c dC dI cy A ad0 adV ad dom0 dom H locs ls hf hX hT hE hW hS hl ho (ok_c ok_i (ok_t (ok_t hs))))
theorem aw_ishr {a b : Int32} (hd : decode (mC M) pc = .ok (.ishr, 1)) (k : AW M kc ks (pc + 1) lv (.int (a >>> (b &&& 31)) :: st) h K) : AW M kc ks pc lv (.int b :: .int a :: st) h K := by
  intro l p e s m args below meth c dC dI cy A ad0 adV ad dom0 dom H locs ls hf hX hT hE hW hS hl ho hs
  exact lv_ishr hf.1 hf.2.1 hd (k l p e s m args below meth c dC dI cy A ad0 adV ad dom0 dom H locs ls hf hX hT hE hW hS hl ho (ok_c ok_i (ok_t (ok_t hs))))
theorem aw_idiv {a b : Int32} (hd : decode (mC M) pc = .ok (.idiv, 1)) (hz : ¬ b = 0) (k : AW M kc ks (pc + 1) lv (.int (a / b) :: st) h K) : AW M kc ks pc lv (.int b :: .int a :: st) h K := by
  intro l p e s m args below meth c dC dI cy A ad0 adV ad dom0 dom H locs ls hf hX hT hE hW hS hl ho hs
  exact lv_idiv hf.1 hf.2.1 hd hz (k l p e s m args below meth c dC dI cy A ad0 adV ad dom0 dom H locs ls hf hX hT hE hW hS hl ho (ok_c ok_i (ok_t (ok_t hs))))
theorem aw_irem {a b : Int32} (hd : decode (mC M) pc = .ok (.irem, 1)) (hz : ¬ b = 0) (k : AW M kc ks (pc + 1) lv (.int (a - a / b * b) :: st) h K) : AW M kc ks pc lv (.int b :: .int a :: st) h K := by
  intro l p e s m args below meth c dC dI cy A ad0 adV ad dom0 dom H locs ls hf hX hT hE hW hS hl ho hs
  exact lv_irem hf.1 hf.2.1 hd hz (k l p e s m args below meth c dC dI cy A ad0 adV ad dom0 dom H locs ls hf hX hT hE hW hS hl ho (ok_c ok_i (ok_t (ok_t hs))))
theorem aw_iushr {a b : Int32} (hd : decode (mC M) pc = .ok (.iushr, 1)) (k : AW M kc ks (pc + 1) lv (.int ((a.toUInt32 >>> (b.toUInt32 &&& Int32.toUInt32 31)).toInt32) :: st) h K) : AW M kc ks pc lv (.int b :: .int a :: st) h K := by
  intro l p e s m args below meth c dC dI cy A ad0 adV ad dom0 dom H locs ls hf hX hT hE hW hS hl ho hs
  exact lv_iushr hf.1 hf.2.1 hd rfl (k l p e s m args below meth c dC dI cy A ad0 adV ad dom0 dom H locs ls hf hX hT hE hW hS hl ho (ok_c ok_i (ok_t (ok_t hs))))
theorem aw_ladd {a b : Int64} (hd : decode (mC M) pc = .ok (.ladd, 1)) (k : AW M kc ks (pc + 1) lv (.long (a + b) :: st) h K) : AW M kc ks pc lv (.long b :: .long a :: st) h K := by
  intro l p e s m args below meth c dC dI cy A ad0 adV ad dom0 dom H locs ls hf hX hT hE hW hS hl ho hs
  exact lv_ladd hf.1 hf.2.1 hd (k l p e s m args below meth c dC dI cy A ad0 adV ad dom0 dom H locs ls hf hX hT hE hW hS hl ho (ok_c ok_l (ok_t (ok_t hs))))
theorem aw_lsub {a b : Int64} (hd : decode (mC M) pc = .ok (.lsub, 1)) (k : AW M kc ks (pc + 1) lv (.long (a - b) :: st) h K) : AW M kc ks pc lv (.long b :: .long a :: st) h K := by
  intro l p e s m args below meth c dC dI cy A ad0 adV ad dom0 dom H locs ls hf hX hT hE hW hS hl ho hs
  exact lv_lsub hf.1 hf.2.1 hd (k l p e s m args below meth c dC dI cy A ad0 adV ad dom0 dom H locs ls hf hX hT hE hW hS hl ho (ok_c ok_l (ok_t (ok_t hs))))
theorem aw_lmul {a b : Int64} (hd : decode (mC M) pc = .ok (.lmul, 1)) (k : AW M kc ks (pc + 1) lv (.long (a * b) :: st) h K) : AW M kc ks pc lv (.long b :: .long a :: st) h K := by
  intro l p e s m args below meth c dC dI cy A ad0 adV ad dom0 dom H locs ls hf hX hT hE hW hS hl ho hs
  exact lv_lmul hf.1 hf.2.1 hd (k l p e s m args below meth c dC dI cy A ad0 adV ad dom0 dom H locs ls hf hX hT hE hW hS hl ho (ok_c ok_l (ok_t (ok_t hs))))
theorem aw_land {a b : Int64} (hd : decode (mC M) pc = .ok (.land, 1)) (k : AW M kc ks (pc + 1) lv (.long (a &&& b) :: st) h K) : AW M kc ks pc lv (.long b :: .long a :: st) h K := by
  intro l p e s m args below meth c dC dI cy A ad0 adV ad dom0 dom H locs ls hf hX hT hE hW hS hl ho hs
  exact lv_land hf.1 hf.2.1 hd (k l p e s m args below meth c dC dI cy A ad0 adV ad dom0 dom H locs ls hf hX hT hE hW hS hl ho (ok_c ok_l (ok_t (ok_t hs))))
theorem aw_lor {a b : Int64} (hd : decode (mC M) pc = .ok (.lor, 1)) (k : AW M kc ks (pc + 1) lv (.long (a ||| b) :: st) h K) : AW M kc ks pc lv (.long b :: .long a :: st) h K := by
  intro l p e s m args below meth c dC dI cy A ad0 adV ad dom0 dom H locs ls hf hX hT hE hW hS hl ho hs
  exact lv_lor hf.1 hf.2.1 hd (k l p e s m args below meth c dC dI cy A ad0 adV ad dom0 dom H locs ls hf hX hT hE hW hS hl ho (ok_c ok_l (ok_t (ok_t hs))))
theorem aw_lxor {a b : Int64} (hd : decode (mC M) pc = .ok (.lxor, 1)) (k : AW M kc ks (pc + 1) lv (.long (a ^^^ b) :: st) h K) : AW M kc ks pc lv (.long b :: .long a :: st) h K := by
  intro l p e s m args below meth c dC dI cy A ad0 adV ad dom0 dom H locs ls hf hX hT hE hW hS hl ho hs
  exact lv_lxor hf.1 hf.2.1 hd (k l p e s m args below meth c dC dI cy A ad0 adV ad dom0 dom H locs ls hf hX hT hE hW hS hl ho (ok_c ok_l (ok_t (ok_t hs))))
theorem aw_lshl {a : Int64} {b : Int32} (hd : decode (mC M) pc = .ok (.lshl, 1)) (k : AW M kc ks (pc + 1) lv (.long (a <<< (b.toInt64 &&& 63)) :: st) h K) : AW M kc ks pc lv (.int b :: .long a :: st) h K := by
  intro l p e s m args below meth c dC dI cy A ad0 adV ad dom0 dom H locs ls hf hX hT hE hW hS hl ho hs
  exact lv_lshl hf.1 hf.2.1 hd rfl (k l p e s m args below meth c dC dI cy A ad0 adV ad dom0 dom H locs ls hf hX hT hE hW hS hl ho (ok_c ok_l (ok_t (ok_t hs))))
theorem aw_lshr {a : Int64} {b : Int32} (hd : decode (mC M) pc = .ok (.lshr, 1)) (k : AW M kc ks (pc + 1) lv (.long (a >>> (b.toInt64 &&& 63)) :: st) h K) : AW M kc ks pc lv (.int b :: .long a :: st) h K := by
  intro l p e s m args below meth c dC dI cy A ad0 adV ad dom0 dom H locs ls hf hX hT hE hW hS hl ho hs
  exact lv_lshr hf.1 hf.2.1 hd rfl (k l p e s m args below meth c dC dI cy A ad0 adV ad dom0 dom H locs ls hf hX hT hE hW hS hl ho (ok_c ok_l (ok_t (ok_t hs))))
theorem aw_lcmp {a b : Int64} (hd : decode (mC M) pc = .ok (.lcmp, 1)) (k : AW M kc ks (pc + 1) lv (.int (lg_cmp a b) :: st) h K) : AW M kc ks pc lv (.long b :: .long a :: st) h K := by
  intro l p e s m args below meth c dC dI cy A ad0 adV ad dom0 dom H locs ls hf hX hT hE hW hS hl ho hs
  exact W.lcmp hf.1 hf.2.1 hd (k l p e s m args below meth c dC dI cy A ad0 adV ad dom0 dom H locs ls hf hX hT hE hW hS hl ho (ok_c ok_i (ok_t (ok_t hs))))
theorem aw_i2l {a : Int32} (hd : decode (mC M) pc = .ok (.i2l, 1)) (k : AW M kc ks (pc + 1) lv (.long a.toInt64 :: st) h K) : AW M kc ks pc lv (.int a :: st) h K := by
  intro l p e s m args below meth c dC dI cy A ad0 adV ad dom0 dom H locs ls hf hX hT hE hW hS hl ho hs
  exact lv_i2l hf.1 hf.2.1 hd rfl (k l p e s m args below meth c dC dI cy A ad0 adV ad dom0 dom H locs ls hf hX hT hE hW hS hl ho (ok_c ok_l (ok_t hs)))
theorem aw_l2i {a : Int64} (hd : decode (mC M) pc = .ok (.l2i, 1)) (k : AW M kc ks (pc + 1) lv (.int a.toInt32 :: st) h K) : AW M kc ks pc lv (.long a :: st) h K := by
  intro l p e s m args below meth c dC dI cy A ad0 adV ad dom0 dom H locs ls hf hX hT hE hW hS hl ho hs
  exact lv_l2i hf.1 hf.2.1 hd rfl (k l p e s m args below meth c dC dI cy A ad0 adV ad dom0 dom H locs ls hf hX hT hE hW hS hl ho (ok_c ok_i (ok_t hs)))
theorem aw_i2b {a : Int32} (hd : decode (mC M) pc = .ok (.i2b, 1)) (k : AW M kc ks (pc + 1) lv (.int a.toInt8.toInt32 :: st) h K) : AW M kc ks pc lv (.int a :: st) h K := by
  intro l p e s m args below meth c dC dI cy A ad0 adV ad dom0 dom H locs ls hf hX hT hE hW hS hl ho hs
  exact lv_i2b hf.1 hf.2.1 hd rfl (k l p e s m args below meth c dC dI cy A ad0 adV ad dom0 dom H locs ls hf hX hT hE hW hS hl ho (ok_c ok_i (ok_t hs)))
theorem aw_i2c {a : Int32} (hd : decode (mC M) pc = .ok (.i2c, 1)) (k : AW M kc ks (pc + 1) lv (.int (a.toUInt32 % 65536).toInt32 :: st) h K) : AW M kc ks pc lv (.int a :: st) h K := by
  intro l p e s m args below meth c dC dI cy A ad0 adV ad dom0 dom H locs ls hf hX hT hE hW hS hl ho hs
  exact lv_i2c hf.1 hf.2.1 hd rfl (k l p e s m args below meth c dC dI cy A ad0 adV ad dom0 dom H locs ls hf hX hT hE hW hS hl ho (ok_c ok_i (ok_t hs)))
theorem aw_dup {v : Value} (hd : decode (mC M) pc = .ok (.dup, 1)) (hc : v.category = 1) (k : AW M kc ks (pc + 1) lv (v :: v :: st) h K) : AW M kc ks pc lv (v :: st) h K := by
  intro l p e s m args below meth c dC dI cy A ad0 adV ad dom0 dom H locs ls hf hX hT hE hW hS hl ho hs
  exact lv_dup hf.1 hf.2.1 hd (by rw [cv_cat]; exact hc) (k l p e s m args below meth c dC dI cy A ad0 adV ad dom0 dom H locs ls hf hX hT hE hW hS hl ho (ok_c (ok_h hs) hs))
theorem aw_pop {v : Value} (hd : decode (mC M) pc = .ok (.pop, 1)) (hc : v.category = 1) (k : AW M kc ks (pc + 1) lv st h K) : AW M kc ks pc lv (v :: st) h K := by
  intro l p e s m args below meth c dC dI cy A ad0 adV ad dom0 dom H locs ls hf hX hT hE hW hS hl ho hs
  exact lv_pop hf.1 hf.2.1 hd (by rw [cv_cat]; exact hc) (k l p e s m args below meth c dC dI cy A ad0 adV ad dom0 dom H locs ls hf hX hT hE hW hS hl ho (ok_t hs))
theorem aw_dup2 {v w : Value} (hd : decode (mC M) pc = .ok (.dup2, 1)) (hc : v.category = 1 ∧ w.category = 1) (k : AW M kc ks (pc + 1) lv (v :: w :: v :: w :: st) h K) : AW M kc ks pc lv (v :: w :: st) h K := by
  intro l p e s m args below meth c dC dI cy A ad0 adV ad dom0 dom H locs ls hf hX hT hE hW hS hl ho hs
  exact lv_dup2_11 hf.1 hf.2.1 hd (by rw [cv_cat]; exact hc.1) (by rw [cv_cat]; exact hc.2) (k l p e s m args below meth c dC dI cy A ad0 adV ad dom0 dom H locs ls hf hX hT hE hW hS hl ho (ok_c (ok_h hs) (ok_c (ok_h (ok_t hs)) hs)))
theorem aw_icmp_eq {a b : Int32} {off : Int} {tgt : Nat} (hd : decode (mC M) pc = .ok (.if_icmp .eq off, 3)) (ht : (pc : Int) + off = (tgt : Int)) (k1 : a = b → AW M kc ks tgt lv st h K) (k2 : ¬ a = b → AW M kc ks (pc + 3) lv st h K) : AW M kc ks pc lv (.int b :: .int a :: st) h K := by
  intro l p e s m args below meth c dC dI cy A ad0 adV ad dom0 dom H locs ls hf hX hT hE hW hS hl ho hs
  exact lv_icmp_eq hf.1 hf.2.1 hd ht (fun hc => (k1 hc l p e s m args below meth c dC dI cy A ad0 adV ad dom0 dom H locs ls hf hX hT hE hW hS hl ho (ok_t (ok_t hs)))) (fun hc => (k2 hc l p e s m args below meth c dC dI cy A ad0 adV ad dom0 dom H locs ls hf hX hT hE hW hS hl ho (ok_t (ok_t hs))))
theorem aw_icmp_ne {a b : Int32} {off : Int} {tgt : Nat} (hd : decode (mC M) pc = .ok (.if_icmp .ne off, 3)) (ht : (pc : Int) + off = (tgt : Int)) (k1 : ¬ a = b → AW M kc ks tgt lv st h K) (k2 : a = b → AW M kc ks (pc + 3) lv st h K) : AW M kc ks pc lv (.int b :: .int a :: st) h K := by
  intro l p e s m args below meth c dC dI cy A ad0 adV ad dom0 dom H locs ls hf hX hT hE hW hS hl ho hs
  exact lv_icmp_ne hf.1 hf.2.1 hd ht (fun hc => (k1 hc l p e s m args below meth c dC dI cy A ad0 adV ad dom0 dom H locs ls hf hX hT hE hW hS hl ho (ok_t (ok_t hs)))) (fun hc => (k2 hc l p e s m args below meth c dC dI cy A ad0 adV ad dom0 dom H locs ls hf hX hT hE hW hS hl ho (ok_t (ok_t hs))))
theorem aw_icmp_lt {a b : Int32} {off : Int} {tgt : Nat} (hd : decode (mC M) pc = .ok (.if_icmp .lt off, 3)) (ht : (pc : Int) + off = (tgt : Int)) (k1 : a < b → AW M kc ks tgt lv st h K) (k2 : ¬ a < b → AW M kc ks (pc + 3) lv st h K) : AW M kc ks pc lv (.int b :: .int a :: st) h K := by
  intro l p e s m args below meth c dC dI cy A ad0 adV ad dom0 dom H locs ls hf hX hT hE hW hS hl ho hs
  exact lv_icmp_lt hf.1 hf.2.1 hd ht (fun hc => (k1 hc l p e s m args below meth c dC dI cy A ad0 adV ad dom0 dom H locs ls hf hX hT hE hW hS hl ho (ok_t (ok_t hs)))) (fun hc => (k2 hc l p e s m args below meth c dC dI cy A ad0 adV ad dom0 dom H locs ls hf hX hT hE hW hS hl ho (ok_t (ok_t hs))))
theorem aw_icmp_ge {a b : Int32} {off : Int} {tgt : Nat} (hd : decode (mC M) pc = .ok (.if_icmp .ge off, 3)) (ht : (pc : Int) + off = (tgt : Int)) (k1 : b ≤ a → AW M kc ks tgt lv st h K) (k2 : ¬ b ≤ a → AW M kc ks (pc + 3) lv st h K) : AW M kc ks pc lv (.int b :: .int a :: st) h K := by
  intro l p e s m args below meth c dC dI cy A ad0 adV ad dom0 dom H locs ls hf hX hT hE hW hS hl ho hs
  exact lv_icmp_ge hf.1 hf.2.1 hd ht (fun hc => (k1 hc l p e s m args below meth c dC dI cy A ad0 adV ad dom0 dom H locs ls hf hX hT hE hW hS hl ho (ok_t (ok_t hs)))) (fun hc => (k2 hc l p e s m args below meth c dC dI cy A ad0 adV ad dom0 dom H locs ls hf hX hT hE hW hS hl ho (ok_t (ok_t hs))))
theorem aw_icmp_gt {a b : Int32} {off : Int} {tgt : Nat} (hd : decode (mC M) pc = .ok (.if_icmp .gt off, 3)) (ht : (pc : Int) + off = (tgt : Int)) (k1 : b < a → AW M kc ks tgt lv st h K) (k2 : ¬ b < a → AW M kc ks (pc + 3) lv st h K) : AW M kc ks pc lv (.int b :: .int a :: st) h K := by
  intro l p e s m args below meth c dC dI cy A ad0 adV ad dom0 dom H locs ls hf hX hT hE hW hS hl ho hs
  exact lv_icmp_gt hf.1 hf.2.1 hd ht (fun hc => (k1 hc l p e s m args below meth c dC dI cy A ad0 adV ad dom0 dom H locs ls hf hX hT hE hW hS hl ho (ok_t (ok_t hs)))) (fun hc => (k2 hc l p e s m args below meth c dC dI cy A ad0 adV ad dom0 dom H locs ls hf hX hT hE hW hS hl ho (ok_t (ok_t hs))))
theorem aw_icmp_le {a b : Int32} {off : Int} {tgt : Nat} (hd : decode (mC M) pc = .ok (.if_icmp .le off, 3)) (ht : (pc : Int) + off = (tgt : Int)) (k1 : a ≤ b → AW M kc ks tgt lv st h K) (k2 : ¬ a ≤ b → AW M kc ks (pc + 3) lv st h K) : AW M kc ks pc lv (.int b :: .int a :: st) h K := by
  intro l p e s m args below meth c dC dI cy A ad0 adV ad dom0 dom H locs ls hf hX hT hE hW hS hl ho hs
  exact lv_icmp_le hf.1 hf.2.1 hd ht (fun hc => (k1 hc l p e s m args below meth c dC dI cy A ad0 adV ad dom0 dom H locs ls hf hX hT hE hW hS hl ho (ok_t (ok_t hs)))) (fun hc => (k2 hc l p e s m args below meth c dC dI cy A ad0 adV ad dom0 dom H locs ls hf hX hT hE hW hS hl ho (ok_t (ok_t hs))))
theorem aw_if_eq {a : Int32} {off : Int} {tgt : Nat} (hd : decode (mC M) pc = .ok (.ifCond .eq off, 3)) (ht : (pc : Int) + off = (tgt : Int)) (k1 : a = 0 → AW M kc ks tgt lv st h K) (k2 : ¬ a = 0 → AW M kc ks (pc + 3) lv st h K) : AW M kc ks pc lv (.int a :: st) h K := by
  intro l p e s m args below meth c dC dI cy A ad0 adV ad dom0 dom H locs ls hf hX hT hE hW hS hl ho hs
  exact lv_if_eq hf.1 hf.2.1 hd ht (fun hc => (k1 hc l p e s m args below meth c dC dI cy A ad0 adV ad dom0 dom H locs ls hf hX hT hE hW hS hl ho (ok_t hs))) (fun hc => (k2 hc l p e s m args below meth c dC dI cy A ad0 adV ad dom0 dom H locs ls hf hX hT hE hW hS hl ho (ok_t hs)))
theorem aw_if_ne {a : Int32} {off : Int} {tgt : Nat} (hd : decode (mC M) pc = .ok (.ifCond .ne off, 3)) (ht : (pc : Int) + off = (tgt : Int)) (k1 : ¬ a = 0 → AW M kc ks tgt lv st h K) (k2 : a = 0 → AW M kc ks (pc + 3) lv st h K) : AW M kc ks pc lv (.int a :: st) h K := by
  intro l p e s m args below meth c dC dI cy A ad0 adV ad dom0 dom H locs ls hf hX hT hE hW hS hl ho hs
  exact lv_if_ne hf.1 hf.2.1 hd ht (fun hc => (k1 hc l p e s m args below meth c dC dI cy A ad0 adV ad dom0 dom H locs ls hf hX hT hE hW hS hl ho (ok_t hs))) (fun hc => (k2 hc l p e s m args below meth c dC dI cy A ad0 adV ad dom0 dom H locs ls hf hX hT hE hW hS hl ho (ok_t hs)))
theorem aw_if_lt {a : Int32} {off : Int} {tgt : Nat} (hd : decode (mC M) pc = .ok (.ifCond .lt off, 3)) (ht : (pc : Int) + off = (tgt : Int)) (k1 : a < 0 → AW M kc ks tgt lv st h K) (k2 : ¬ a < 0 → AW M kc ks (pc + 3) lv st h K) : AW M kc ks pc lv (.int a :: st) h K := by
  intro l p e s m args below meth c dC dI cy A ad0 adV ad dom0 dom H locs ls hf hX hT hE hW hS hl ho hs
  exact lv_if_lt hf.1 hf.2.1 hd ht (fun hc => (k1 hc l p e s m args below meth c dC dI cy A ad0 adV ad dom0 dom H locs ls hf hX hT hE hW hS hl ho (ok_t hs))) (fun hc => (k2 hc l p e s m args below meth c dC dI cy A ad0 adV ad dom0 dom H locs ls hf hX hT hE hW hS hl ho (ok_t hs)))
theorem aw_if_ge {a : Int32} {off : Int} {tgt : Nat} (hd : decode (mC M) pc = .ok (.ifCond .ge off, 3)) (ht : (pc : Int) + off = (tgt : Int)) (k1 : 0 ≤ a → AW M kc ks tgt lv st h K) (k2 : ¬ 0 ≤ a → AW M kc ks (pc + 3) lv st h K) : AW M kc ks pc lv (.int a :: st) h K := by
  intro l p e s m args below meth c dC dI cy A ad0 adV ad dom0 dom H locs ls hf hX hT hE hW hS hl ho hs
  exact lv_if_ge hf.1 hf.2.1 hd ht (fun hc => (k1 hc l p e s m args below meth c dC dI cy A ad0 adV ad dom0 dom H locs ls hf hX hT hE hW hS hl ho (ok_t hs))) (fun hc => (k2 hc l p e s m args below meth c dC dI cy A ad0 adV ad dom0 dom H locs ls hf hX hT hE hW hS hl ho (ok_t hs)))
theorem aw_if_gt {a : Int32} {off : Int} {tgt : Nat} (hd : decode (mC M) pc = .ok (.ifCond .gt off, 3)) (ht : (pc : Int) + off = (tgt : Int)) (k1 : 0 < a → AW M kc ks tgt lv st h K) (k2 : ¬ 0 < a → AW M kc ks (pc + 3) lv st h K) : AW M kc ks pc lv (.int a :: st) h K := by
  intro l p e s m args below meth c dC dI cy A ad0 adV ad dom0 dom H locs ls hf hX hT hE hW hS hl ho hs
  exact lv_if_gt hf.1 hf.2.1 hd ht (fun hc => (k1 hc l p e s m args below meth c dC dI cy A ad0 adV ad dom0 dom H locs ls hf hX hT hE hW hS hl ho (ok_t hs))) (fun hc => (k2 hc l p e s m args below meth c dC dI cy A ad0 adV ad dom0 dom H locs ls hf hX hT hE hW hS hl ho (ok_t hs)))
theorem aw_if_le {a : Int32} {off : Int} {tgt : Nat} (hd : decode (mC M) pc = .ok (.ifCond .le off, 3)) (ht : (pc : Int) + off = (tgt : Int)) (k1 : a ≤ 0 → AW M kc ks tgt lv st h K) (k2 : ¬ a ≤ 0 → AW M kc ks (pc + 3) lv st h K) : AW M kc ks pc lv (.int a :: st) h K := by
  intro l p e s m args below meth c dC dI cy A ad0 adV ad dom0 dom H locs ls hf hX hT hE hW hS hl ho hs
  exact lv_if_le hf.1 hf.2.1 hd ht (fun hc => (k1 hc l p e s m args below meth c dC dI cy A ad0 adV ad dom0 dom H locs ls hf hX hT hE hW hS hl ho (ok_t hs))) (fun hc => (k2 hc l p e s m args below meth c dC dI cy A ad0 adV ad dom0 dom H locs ls hf hX hT hE hW hS hl ho (ok_t hs)))
theorem aw_goto {off : Int} {tgt : Nat} (hd : decode (mC M) pc = .ok (.goto off, 3)) (ht : (pc : Int) + off = (tgt : Int)) (k : AW M kc ks tgt lv st h K) : AW M kc ks pc lv st h K := by
  intro l p e s m args below meth c dC dI cy A ad0 adV ad dom0 dom H locs ls hf hX hT hE hW hS hl ho hs
  exact lv_goto hf.1 hf.2.1 hd ht (k l p e s m args below meth c dC dI cy A ad0 adV ad dom0 dom H locs ls hf hX hT hE hW hS hl ho hs)
theorem aw_ifnull {a : Nat} {off : Int} (hd : decode (mC M) pc = .ok (.ifnull off, 3)) (k : AW M kc ks (pc + 3) lv st h K) : AW M kc ks pc lv (.ref a :: st) h K := by
  intro l p e s m args below meth c dC dI cy A ad0 adV ad dom0 dom H locs ls hf hX hT hE hW hS hl ho hs
  exact lv_ifnull hf.1 hf.2.1 hd (k l p e s m args below meth c dC dI cy A ad0 adV ad dom0 dom H locs ls hf hX hT hE hW hS hl ho (ok_t hs))
theorem aw_ifnonnull {a : Nat} {off : Int} {tgt : Nat} (hd : decode (mC M) pc = .ok (.ifnonnull off, 3)) (ht : (pc : Int) + off = (tgt : Int)) (k : AW M kc ks tgt lv st h K) : AW M kc ks pc lv (.ref a :: st) h K := by
  intro l p e s m args below meth c dC dI cy A ad0 adV ad dom0 dom H locs ls hf hX hT hE hW hS hl ho hs
  exact lv_ifnonnull hf.1 hf.2.1 hd ht (k l p e s m args below meth c dC dI cy A ad0 adV ad dom0 dom H locs ls hf hX hT hE hW hS hl ho (ok_t hs))
theorem aw_ifnullN {off : Int} {tgt : Nat} (hd : decode (mC M) pc = .ok (.ifnull off, 3)) (ht : (pc : Int) + off = (tgt : Int)) (k : AW M kc ks tgt lv st h K) : AW M kc ks pc lv (.null :: st) h K := by
  intro l p e s m args below meth c dC dI cy A ad0 adV ad dom0 dom H locs ls hf hX hT hE hW hS hl ho hs
  exact lv_ifnullN hf.1 hf.2.1 hd ht (k l p e s m args below meth c dC dI cy A ad0 adV ad dom0 dom H locs ls hf hX hT hE hW hS hl ho (ok_t hs))
theorem aw_ifnonnullN {off : Int} (hd : decode (mC M) pc = .ok (.ifnonnull off, 3)) (k : AW M kc ks (pc + 3) lv st h K) : AW M kc ks pc lv (.null :: st) h K := by
  intro l p e s m args below meth c dC dI cy A ad0 adV ad dom0 dom H locs ls hf hX hT hE hW hS hl ho hs
  exact lv_ifnonnullN hf.1 hf.2.1 hd (k l p e s m args below meth c dC dI cy A ad0 adV ad dom0 dom H locs ls hf hX hT hE hW hS hl ho (ok_t hs))
theorem aw_tableIn {dflt lo hi : Int} {offs : Array Int} {len : Nat} {x : Int32} {off : Int} {tgt : Nat} (hd : decode (mC M) pc = .ok (.tableswitch dflt lo hi offs, len)) (h1 : ¬ x.toInt < lo) (h2 : ¬ hi < x.toInt) (hoff : offs[(x.toInt - lo).toNat]? = some off) (ht : (pc : Int) + off = (tgt : Int)) (k : AW M kc ks tgt lv st h K) : AW M kc ks pc lv (.int x :: st) h K := by
  intro l p e s m args below meth c dC dI cy A ad0 adV ad dom0 dom H locs ls hf hX hT hE hW hS hl ho hs
  exact lv_tableIn hf.1 hf.2.1 hd h1 h2 hoff ht (k l p e s m args below meth c dC dI cy A ad0 adV ad dom0 dom H locs ls hf hX hT hE hW hS hl ho (ok_t hs))
theorem aw_tableOut {dflt lo hi : Int} {offs : Array Int} {len : Nat} {x : Int32} {tgt : Nat} (hd : decode (mC M) pc = .ok (.tableswitch dflt lo hi offs, len)) (h1 : x.toInt < lo ∨ hi < x.toInt) (ht : (pc : Int) + dflt = (tgt : Int)) (k : AW M kc ks tgt lv st h K) : AW M kc ks pc lv (.int x :: st) h K := by
  intro l p e s m args below meth c dC dI cy A ad0 adV ad dom0 dom H locs ls hf hX hT hE hW hS hl ho hs
  exact lv_tableOut hf.1 hf.2.1 hd h1 ht (k l p e s m args below meth c dC dI cy A ad0 adV ad dom0 dom H locs ls hf hX hT hE hW hS hl ho (ok_t hs))
theorem aw_lookup {dflt : Int} {ps : Array (Int × Int)} {len : Nat} {x : Int32} {off : Int} {tgt : Nat} (hd : decode (mC M) pc = .ok (.lookupswitch dflt ps, len)) (hp : (ps.toList.zip (ps.toList.drop 1)).all (fun (a, next) => a.1 < next.1) = true) (hoff : Op.lookupswitch.offset ps.toList dflt x.toInt = off) (ht : (pc : Int) + off = (tgt : Int)) (k : AW M kc ks tgt lv st h K) : AW M kc ks pc lv (.int x :: st) h K := by
  intro l p e s m args below meth c dC dI cy A ad0 adV ad dom0 dom H locs ls hf hX hT hE hW hS hl ho hs
  exact lv_lookup hf.1 hf.2.1 hd hp hoff ht (k l p e s m args below meth c dC dI cy A ad0 adV ad dom0 dom H locs ls hf hX hT hE hW hS hl ho (ok_t hs))
end AWR
end
section
/-! fields and rows -/
noncomputable def h_dv : Nat → Value
  | 0 => .int 0
  | 1 => .long 0
  | _ => .null
noncomputable def kc_ (ci : Nat) (C : String) (T : u_T) (N : Nat) : Prop := kl_[ci]? = some (C, T, N) ∧ (∀ w ∈ u_ws C T N, w ∈ lw_g) ∧ (∀ k, k < N → parseFieldDescriptor (T k).2.2.1 = some (h_tyc ci k)) ∧ (∀ a, a < N → ∀ b, b < N → a ≠ b → (T a).2.1 ≠ (T b).2.1) ∧ ∀ k, k < N → defaultValue (h_tyc ci k) = h_dv (h_kd (h_tyc ci k))
theorem kc_0 : kc_ 0 RX0 TX0 4 := ⟨rfl, iX0, tyX0_ok, nmX0, by decide +kernel⟩
theorem kc_1 : kc_ 1 RX1 TX1 16 := ⟨rfl, iX1, tyX1_ok, nmX1, by decide +kernel⟩
theorem kc_2 : kc_ 2 RX2 TX2 17 := ⟨rfl, iX2, tyX2_ok, nmX2, by decide +kernel⟩
theorem kc_3 : kc_ 3 RX3 TX3 11 := ⟨rfl, iX3, tyX3_ok, nmX3, by decide +kernel⟩
theorem kc_4 : kc_ 4 RX4 TX4 17 := ⟨rfl, iX4, tyX4_ok, nmX4, by decide +kernel⟩
theorem kc_5 : kc_ 5 RX5 TX5 16 := ⟨rfl, iX5, tyX5_ok, nmX5, by decide +kernel⟩
theorem kc_6 : kc_ 6 RX6 TX6 20 := ⟨rfl, iX6, tyX6_ok, nmX6, by decide +kernel⟩
theorem kc_7 : kc_ 7 RX7 TX7 12 := ⟨rfl, iX7, tyX7_ok, nmX7, by decide +kernel⟩
theorem kc_8 : kc_ 8 RX8 TX8 10 := ⟨rfl, iX8, tyX8_ok, nmX8, by decide +kernel⟩
theorem kc_9 : kc_ 9 RX9 TX9 2 := ⟨rfl, iX9, tyX9_ok, nmX9, by decide +kernel⟩
theorem kc_10 : kc_ 10 RX10 TX10 6 := ⟨rfl, iX10, tyX10_ok, nmX10, by decide +kernel⟩
theorem kc_11 : kc_ 11 RX11 TX11 16 := ⟨rfl, iX11, tyX11_ok, nmX11, by decide +kernel⟩
theorem kc_12 : kc_ 12 RX12 TX12 131 := ⟨rfl, iX12, tyX12_ok, nmX12, by decide +kernel⟩
section AWH
variable {M : Mc_} {kc ks pc : Nat} {lv : List (Nat × Value)} {st : List Value} {h : Hp_} {K : Option Value → Hp_ → Prop}
theorem wd_in {dC : Nat → ClassId} {dI : Nat → Nat → Nat} {cy : Nat → ClassId} {A : Nat → Prop} {ad : Nat → Nat} {dom : List Nat} {h : Hp_} {H : Heap} {a : Nat} {x : Nat × Nat} (hW : wd_ dC dI cy A ad dom h H) (hs : h_sh h a = some x) : a ∈ dom := (hW.1.2.1 a).mp (by rw [hs]; exact fun z => by cases z)
theorem fv_i {ad : Nat → Nat} {h : Hp_} {a ci k : Nat} (ht : h_kd (h_tyc ci k) = 0) : h_fv ad h a ci k = .int (h_i h a k) := by unfold h_fv; rw [ht]; rfl
theorem fv_l {ad : Nat → Nat} {h : Hp_} {a ci k : Nat} (ht : h_kd (h_tyc ci k) = 1) : h_fv ad h a ci k = .long (h_l h a k) := by unfold h_fv; rw [ht]; rfl
theorem fv_r {ad : Nat → Nat} {h : Hp_} {a ci k : Nat} (ht : h_kd (h_tyc ci k) = 2) : h_fv ad h a ci k = va_rf ((h_r h a k).map ad) := by unfold h_fv; rw [ht]; rfl
theorem ce_iw {cy : Nat → ClassId} {ad : Nat → Nat} {h : Hp_} {a t n : Nat} {f : Nat → Int32} (hs : h_sh h a = some (t, n)) (ht : t < 3) : h_ce cy ad (h_iw h a f) a = .inl (cy t, n, .inl f) := by
  have e : h_i (h_iw h a f) a = f := by rw [h_i_iw, if_pos rfl]
  rw [h_ce_arr (h := h_iw h a f) hs (by omega)]
  match t, ht with
  | 0, _ => unfold h_ar; rw [e]; rfl
  | 1, _ => unfold h_ar; rw [e]; rfl
  | 2, _ => unfold h_ar; rw [e]; rfl
theorem ce_lw {cy : Nat → ClassId} {ad : Nat → Nat} {h : Hp_} {a n : Nat} {f : Nat → Int64} (hs : h_sh h a = some (3, n)) : h_ce cy ad (h_lw h a f) a = .inl (cy 3, n, .inr (.inl f)) := by
  have e : h_l (h_lw h a f) a = f := by rw [h_l_lw, if_pos rfl]
  rw [h_ce_arr (h := h_lw h a f) hs (by omega)]
  unfold h_ar
  rw [e]; rfl
theorem aw_geti {ci : Nat} {C : String} {T : u_T} {N k0 idx a : Nat}  (hc : kc_ ci C T N) (hs0 : h_sh h a = some (ci + 10, N)) (hk : k0 < N) (hlk : Cond.fieldLink (mY M).cls idx (T k0).1 (T k0).2.1 (T k0).2.2.1 ∈ lw_g) (hd : decode (mC M) pc = .ok (.getfield idx, 3)) (ht : h_kd (h_tyc ci k0) = 0)  (k : AW M kc ks (pc + 3) lv (.int (h_i h a k0) :: st) h K) : AW M kc ks pc lv (.ref a :: st) h K := by
  intro l p e s m args below meth c dC dI cy A ad0 adV ad dom0 dom H locs ls hf hX hT hE hW hS hl ho hs
  obtain ⟨q, hq, hw⟩ := h_W_get (cy := cy) (ad := ad) (h := h) (wd_in hW hs0)
  rw [h_ce_obj hs0] at hw
  have ev := fv_i (ad := ad) (h := h) (a := a) ht
  have e1 := h_fs_at (ad := ad) (h := h) (a := a) (ci := ci) hk
  rw [ev] at e1
  exact va_get hf.1 hf.2.1 hf.2.2.2.2.2.2.2.1 hc.2.1 hf.2.2.2.2.2.1 hf.2.2.2.2.2.2.2.2.1.1 hW.2.1 q hw hc.1 _ hk (hf.2.2.2.2.2.2.2.1 _ hlk) (fun _ h9 => h9) e1 hd (k l p e s m args below meth c dC dI cy A ad0 adV ad dom0 dom H locs ls hf hX hT hE hW hS hl ho (ok_c ok_i (ok_t hs)))
theorem aw_getl {ci : Nat} {C : String} {T : u_T} {N k0 idx a : Nat}  (hc : kc_ ci C T N) (hs0 : h_sh h a = some (ci + 10, N)) (hk : k0 < N) (hlk : Cond.fieldLink (mY M).cls idx (T k0).1 (T k0).2.1 (T k0).2.2.1 ∈ lw_g) (hd : decode (mC M) pc = .ok (.getfield idx, 3)) (ht : h_kd (h_tyc ci k0) = 1)  (k : AW M kc ks (pc + 3) lv (.long (h_l h a k0) :: st) h K) : AW M kc ks pc lv (.ref a :: st) h K := by
  intro l p e s m args below meth c dC dI cy A ad0 adV ad dom0 dom H locs ls hf hX hT hE hW hS hl ho hs
  obtain ⟨q, hq, hw⟩ := h_W_get (cy := cy) (ad := ad) (h := h) (wd_in hW hs0)
  rw [h_ce_obj hs0] at hw
  have ev := fv_l (ad := ad) (h := h) (a := a) ht
  have e1 := h_fs_at (ad := ad) (h := h) (a := a) (ci := ci) hk
  rw [ev] at e1
  exact va_get hf.1 hf.2.1 hf.2.2.2.2.2.2.2.1 hc.2.1 hf.2.2.2.2.2.1 hf.2.2.2.2.2.2.2.2.1.1 hW.2.1 q hw hc.1 _ hk (hf.2.2.2.2.2.2.2.1 _ hlk) (fun _ h9 => h9) e1 hd (k l p e s m args below meth c dC dI cy A ad0 adV ad dom0 dom H locs ls hf hX hT hE hW hS hl ho (ok_c ok_l (ok_t hs)))
theorem aw_getr {ci : Nat} {C : String} {T : u_T} {N k0 idx a : Nat} {b : Nat} (hc : kc_ ci C T N) (hs0 : h_sh h a = some (ci + 10, N)) (hk : k0 < N) (hlk : Cond.fieldLink (mY M).cls idx (T k0).1 (T k0).2.1 (T k0).2.2.1 ∈ lw_g) (hd : decode (mC M) pc = .ok (.getfield idx, 3)) (ht : h_kd (h_tyc ci k0) = 2) (hr : h_r h a k0 = some b) (k : AW M kc ks (pc + 3) lv (.ref b :: st) h K) : AW M kc ks pc lv (.ref a :: st) h K := by
  intro l p e s m args below meth c dC dI cy A ad0 adV ad dom0 dom H locs ls hf hX hT hE hW hS hl ho hs
  obtain ⟨q, hq, hw⟩ := h_W_get (cy := cy) (ad := ad) (h := h) (wd_in hW hs0)
  rw [h_ce_obj hs0] at hw
  have ev := (fv_r (ad := ad) (h := h) (a := a) ht).trans (show va_rf ((h_r h a _).map ad) = .ref (ad b) by rw [hr]; rfl)
  have e1 := h_fs_at (ad := ad) (h := h) (a := a) (ci := ci) hk
  rw [ev] at e1
  exact va_get hf.1 hf.2.1 hf.2.2.2.2.2.2.2.1 hc.2.1 hf.2.2.2.2.2.1 hf.2.2.2.2.2.2.2.2.1.1 hW.2.1 q hw hc.1 _ hk (hf.2.2.2.2.2.2.2.1 _ hlk) (fun _ h9 => h9) e1 hd (k l p e s m args below meth c dC dI cy A ad0 adV ad dom0 dom H locs ls hf hX hT hE hW hS hl ho (ok_c (fun z hz => by cases hz; exact hW.1.2.2.2 _ _ _ hr) (ok_t hs)))
theorem wd_i {dC : Nat → ClassId} {dI : Nat → Nat → Nat} {cy : Nat → ClassId} {A : Nat → Prop} {ad : Nat → Nat} {dom : List Nat} {h : Hp_} {H H1 : Heap} {f : Nat → Int32} {q a : Nat} {e : va_E} (hW : wd_ dC dI cy A ad dom h H) (hq : dom[q]? = some a) (he : h_ce cy ad (h_iw h a f) a = e) (h1 : va_P (dC, dI) kl_ ((h_W cy ad h dom).set q (ad a, e)) H1) (h2 : va_D A ((h_W cy ad h dom).set q (ad a, e))) : wd_ dC dI cy A ad dom (h_iw h a f) H1 := by
  rw [h_W_set hW.1.1 hq he (fun b hb => h_ce_i hb)] at h1 h2
  exact ⟨hW.1, h1, h2⟩
theorem wd_l {dC : Nat → ClassId} {dI : Nat → Nat → Nat} {cy : Nat → ClassId} {A : Nat → Prop} {ad : Nat → Nat} {dom : List Nat} {h : Hp_} {H H1 : Heap} {f : Nat → Int64} {q a : Nat} {e : va_E} (hW : wd_ dC dI cy A ad dom h H) (hq : dom[q]? = some a) (he : h_ce cy ad (h_lw h a f) a = e) (h1 : va_P (dC, dI) kl_ ((h_W cy ad h dom).set q (ad a, e)) H1) (h2 : va_D A ((h_W cy ad h dom).set q (ad a, e))) : wd_ dC dI cy A ad dom (h_lw h a f) H1 := by
  rw [h_W_set hW.1.1 hq he (fun b hb => h_ce_l hb)] at h1 h2
  exact ⟨hW.1, h1, h2⟩
theorem wd_r {dC : Nat → ClassId} {dI : Nat → Nat → Nat} {cy : Nat → ClassId} {A : Nat → Prop} {ad : Nat → Nat} {dom : List Nat} {h : Hp_} {H H1 : Heap} {x : Option Nat} {q a i : Nat} {e : va_E} (hW : wd_ dC dI cy A ad dom h H) (hx : ∀ c, x = some c → c ∈ dom ∨ 1000 ≤ c) (hq : dom[q]? = some a) (he : h_ce cy ad (h_rm h a i x) a = e) (h1 : va_P (dC, dI) kl_ ((h_W cy ad h dom).set q (ad a, e)) H1) (h2 : va_D A ((h_W cy ad h dom).set q (ad a, e))) : wd_ dC dI cy A ad dom (h_rm h a i x) H1 := by
  rw [h_W_set hW.1.1 hq he (fun b hb => h_ce_r hb)] at h1 h2
  refine ⟨⟨hW.1.1, hW.1.2.1, hW.1.2.2.1, fun b k c hr => ?_⟩, h1, h2⟩
  rw [h_r_rm] at hr
  split at hr
  · exact hx c hr
  · exact hW.1.2.2.2 b k c hr
theorem nf_r {ty : FieldType} {b : Nat} (h : h_kd ty = 2) : narrow ty (.ref b) = .ref b ∧ fits ty (.ref b) = true := by cases ty <;> first | (exact ⟨rfl, rfl⟩) | (simp [h_kd] at h)
theorem nf_l {ty : FieldType} {x : Int64} (h : h_kd ty = 1) : narrow ty (.long x) = .long x ∧ fits ty (.long x) = true := by cases ty <;> first | (exact ⟨rfl, rfl⟩) | (simp [h_kd] at h)
theorem nf_i {x : Int32} : narrow .int (.int x) = .int x ∧ fits .int (.int x) = true := ⟨rfl, rfl⟩
theorem fv_up_i {ad : Nat → Nat} {h : Hp_} {a ci k : Nat} {x : Int32} (ht : h_kd (h_tyc ci k) = 0) : h_fv ad (h_im h a k x) a ci k = .int x := by rw [fv_i ht, h_i_im, if_pos ⟨rfl, rfl⟩]
theorem fv_up_in {ad : Nat → Nat} {h : Hp_} {a ci k : Nat} {x : Int32} (j : Nat) (hj : j ≠ k) : h_fv ad (h_im h a k x) a ci j = h_fv ad h a ci j := by
  unfold h_fv
  rw [h_i_im, if_neg (fun z => hj z.2), h_l_im, h_r_im]
theorem fv_up_l {ad : Nat → Nat} {h : Hp_} {a ci k : Nat} {x : Int64} (ht : h_kd (h_tyc ci k) = 1) : h_fv ad (h_lm h a k x) a ci k = .long x := by rw [fv_l ht, h_l_lm, if_pos ⟨rfl, rfl⟩]
theorem fv_up_ln {ad : Nat → Nat} {h : Hp_} {a ci k : Nat} {x : Int64} (j : Nat) (hj : j ≠ k) : h_fv ad (h_lm h a k x) a ci j = h_fv ad h a ci j := by
  unfold h_fv
  rw [h_l_lm, if_neg (fun z => hj z.2), h_i_lm, h_r_lm]
theorem fv_up_r {ad : Nat → Nat} {h : Hp_} {a ci k : Nat} {x : Option Nat} (ht : h_kd (h_tyc ci k) = 2) : h_fv ad (h_rm h a k x) a ci k = va_rf (x.map ad) := by rw [fv_r ht, h_r_rm, if_pos ⟨rfl, rfl⟩]
theorem fv_up_rn {ad : Nat → Nat} {h : Hp_} {a ci k : Nat} {x : Option Nat} (j : Nat) (hj : j ≠ k) : h_fv ad (h_rm h a k x) a ci j = h_fv ad h a ci j := by
  unfold h_fv
  rw [h_r_rm, if_neg (fun z => hj z.2), h_i_rm, h_l_rm]
theorem aw_puti {ci : Nat} {C : String} {T : u_T} {N k0 idx a : Nat} {x : Int32} (hc : kc_ ci C T N) (hs0 : h_sh h a = some (ci + 10, N)) (hk : k0 < N) (hlk : Cond.fieldLink (mY M).cls idx (T k0).1 (T k0).2.1 (T k0).2.2.1 ∈ lw_g) (hd : decode (mC M) pc = .ok (.putfield idx, 3)) (ht : h_kd (h_tyc ci k0) = 0) (hfin : (T k0).2.2.2 = false) (hnf : narrow (h_tyc ci k0) (.int x) = .int x ∧ fits (h_tyc ci k0) (.int x) = true) (k : AW M kc ks (pc + 3) lv st (h_im h a k0 x) K) : AW M kc ks pc lv (.int x :: .ref a :: st) h K := by
  intro l p e s m args below meth c dC dI cy A ad0 adV ad dom0 dom H locs ls hf hX hT hE hW hS hl ho hs
  obtain ⟨q, hq, hw⟩ := h_W_get (cy := cy) (ad := ad) (h := h) (wd_in hW hs0)
  rw [h_ce_obj hs0] at hw
  have hce : h_ce cy ad (h_im h a k0 x) a = .inr (ci, ((List.range N).map (h_fv ad h a ci)).set k0 (.int x)) := by
    have e2 := h_fs_set (n := N) (ad := ad) (h := h) (h' := h_im h a k0 x) (a := a) (ci := ci) (k := k0) (v := .int x) (fv_up_i ht) (fun j hj => fv_up_in j hj)
    rw [e2]
    exact h_ce_obj hs0
  refine va_put (ty := h_tyc ci k0) hf.1 hf.2.1 hf.2.2.2.2.2.2.2.1 hc.2.1 (h_tyc ci) hc.2.2.1 hc.2.2.2.1 hf.2.2.2.2.2.1 hf.2.2.2.2.2.2.2.2.1.1 hW.2.1 hW.2.2 hS q hw hc.1 k0 hk (hf.2.2.2.2.2.2.2.1 _ hlk) (fun _ h9 => h9) hfin (hc.2.2.1 k0 hk) hnf.1 hnf.2 (by simpa using hk) hd (fun H1 locs1 h1 h2 hS1 => ?_)
  exact k l p e s m args below meth c dC dI cy A ad0 adV ad dom0 dom H1 locs1 ls hf hX hT hE (wd_i hW hq hce h1 h2) hS1 hl ho (ok_t (ok_t hs))
theorem aw_putl {ci : Nat} {C : String} {T : u_T} {N k0 idx a : Nat} {x : Int64} (hc : kc_ ci C T N) (hs0 : h_sh h a = some (ci + 10, N)) (hk : k0 < N) (hlk : Cond.fieldLink (mY M).cls idx (T k0).1 (T k0).2.1 (T k0).2.2.1 ∈ lw_g) (hd : decode (mC M) pc = .ok (.putfield idx, 3)) (ht : h_kd (h_tyc ci k0) = 1) (hfin : (T k0).2.2.2 = false)  (k : AW M kc ks (pc + 3) lv st (h_lm h a k0 x) K) : AW M kc ks pc lv (.long x :: .ref a :: st) h K := by
  intro l p e s m args below meth c dC dI cy A ad0 adV ad dom0 dom H locs ls hf hX hT hE hW hS hl ho hs
  obtain ⟨q, hq, hw⟩ := h_W_get (cy := cy) (ad := ad) (h := h) (wd_in hW hs0)
  rw [h_ce_obj hs0] at hw
  have hce : h_ce cy ad (h_lm h a k0 x) a = .inr (ci, ((List.range N).map (h_fv ad h a ci)).set k0 (.long x)) := by
    have e2 := h_fs_set (n := N) (ad := ad) (h := h) (h' := h_lm h a k0 x) (a := a) (ci := ci) (k := k0) (v := .long x) (fv_up_l ht) (fun j hj => fv_up_ln j hj)
    rw [e2]
    exact h_ce_obj hs0
  refine va_put (ty := h_tyc ci k0) hf.1 hf.2.1 hf.2.2.2.2.2.2.2.1 hc.2.1 (h_tyc ci) hc.2.2.1 hc.2.2.2.1 hf.2.2.2.2.2.1 hf.2.2.2.2.2.2.2.2.1.1 hW.2.1 hW.2.2 hS q hw hc.1 k0 hk (hf.2.2.2.2.2.2.2.1 _ hlk) (fun _ h9 => h9) hfin (hc.2.2.1 k0 hk) (nf_l ht).1 (nf_l ht).2 (by simpa using hk) hd (fun H1 locs1 h1 h2 hS1 => ?_)
  exact k l p e s m args below meth c dC dI cy A ad0 adV ad dom0 dom H1 locs1 ls hf hX hT hE (wd_l hW hq hce h1 h2) hS1 hl ho (ok_t (ok_t hs))
theorem aw_putr {ci : Nat} {C : String} {T : u_T} {N k0 idx a : Nat} {b : Nat} (hc : kc_ ci C T N) (hs0 : h_sh h a = some (ci + 10, N)) (hk : k0 < N) (hlk : Cond.fieldLink (mY M).cls idx (T k0).1 (T k0).2.1 (T k0).2.2.1 ∈ lw_g) (hd : decode (mC M) pc = .ok (.putfield idx, 3)) (ht : h_kd (h_tyc ci k0) = 2) (hfin : (T k0).2.2.2 = false)  (k : AW M kc ks (pc + 3) lv st (h_rm h a k0 (some b)) K) : AW M kc ks pc lv (.ref b :: .ref a :: st) h K := by
  intro l p e s m args below meth c dC dI cy A ad0 adV ad dom0 dom H locs ls hf hX hT hE hW hS hl ho hs
  obtain ⟨q, hq, hw⟩ := h_W_get (cy := cy) (ad := ad) (h := h) (wd_in hW hs0)
  rw [h_ce_obj hs0] at hw
  have hce : h_ce cy ad (h_rm h a k0 (some b)) a = .inr (ci, ((List.range N).map (h_fv ad h a ci)).set k0 (.ref (ad b))) := by
    have e2 := h_fs_set (n := N) (ad := ad) (h := h) (h' := h_rm h a k0 (some b)) (a := a) (ci := ci) (k := k0) (v := .ref (ad b)) (fv_up_r ht) (fun j hj => fv_up_rn j hj)
    rw [e2]
    exact h_ce_obj hs0
  refine va_put (ty := h_tyc ci k0) hf.1 hf.2.1 hf.2.2.2.2.2.2.2.1 hc.2.1 (h_tyc ci) hc.2.2.1 hc.2.2.2.1 hf.2.2.2.2.2.1 hf.2.2.2.2.2.2.2.2.1.1 hW.2.1 hW.2.2 hS q hw hc.1 k0 hk (hf.2.2.2.2.2.2.2.1 _ hlk) (fun _ h9 => h9) hfin (hc.2.2.1 k0 hk) (nf_r ht).1 (nf_r ht).2 (by simpa using hk) hd (fun H1 locs1 h1 h2 hS1 => ?_)
  exact k l p e s m args below meth c dC dI cy A ad0 adV ad dom0 dom H1 locs1 ls hf hX hT hE (wd_r hW (fun z hz => by cases hz; exact ok_h hs _ rfl) hq hce h1 h2) hS1 hl ho (ok_t (ok_t hs))
theorem aw_putiF {ci : Nat} {C : String} {T : u_T} {N k0 idx a : Nat} {x : Int32} (hc : kc_ ci C T N) (hs0 : h_sh h a = some (ci + 10, N)) (hk : k0 < N) (hlk : Cond.fieldLink (mY M).cls idx (T k0).1 (T k0).2.1 (T k0).2.2.1 ∈ lw_g) (hd : decode (mC M) pc = .ok (.putfield idx, 3)) (ht : h_kd (h_tyc ci k0) = 0) (hfin : (T k0).2.2.2 = true) (hini : (mY M).name = "<init>") (hdc : (T k0).1 = (mY M).cls) (hnf : narrow (h_tyc ci k0) (.int x) = .int x ∧ fits (h_tyc ci k0) (.int x) = true) (k : AW M kc ks (pc + 3) lv st (h_im h a k0 x) K) : AW M kc ks pc lv (.int x :: .ref a :: st) h K := by
  intro l p e s m args below meth c dC dI cy A ad0 adV ad dom0 dom H locs ls hf hX hT hE hW hS hl ho hs
  obtain ⟨q, hq, hw⟩ := h_W_get (cy := cy) (ad := ad) (h := h) (wd_in hW hs0)
  rw [h_ce_obj hs0] at hw
  have hce : h_ce cy ad (h_im h a k0 x) a = .inr (ci, ((List.range N).map (h_fv ad h a ci)).set k0 (.int x)) := by
    have e2 := h_fs_set (n := N) (ad := ad) (h := h) (h' := h_im h a k0 x) (a := a) (ci := ci) (k := k0) (v := .int x) (fv_up_i ht) (fun j hj => fv_up_in j hj)
    rw [e2]
    exact h_ce_obj hs0
  refine va_putF (ty := h_tyc ci k0) hf.1 hf.2.1 hf.2.2.2.2.2.2.2.1 hc.2.1 (h_tyc ci) hc.2.2.1 hc.2.2.2.1 hf.2.2.2.2.2.1 hf.2.2.2.2.2.2.2.2.1.1 hW.2.1 hW.2.2 hS q hw hc.1 k0 hk (hf.2.2.2.2.2.2.2.1 _ hlk) (fun _ h9 => h9) hfin (hf.2.2.2.2.2.2.1.trans hini) hdc (hc.2.2.1 k0 hk) hnf.1 hnf.2 (by simpa using hk) hd (fun H1 locs1 h1 h2 hS1 => ?_)
  exact k l p e s m args below meth c dC dI cy A ad0 adV ad dom0 dom H1 locs1 ls hf hX hT hE (wd_i hW hq hce h1 h2) hS1 hl ho (ok_t (ok_t hs))
theorem aw_putrF {ci : Nat} {C : String} {T : u_T} {N k0 idx a : Nat} {b : Nat} (hc : kc_ ci C T N) (hs0 : h_sh h a = some (ci + 10, N)) (hk : k0 < N) (hlk : Cond.fieldLink (mY M).cls idx (T k0).1 (T k0).2.1 (T k0).2.2.1 ∈ lw_g) (hd : decode (mC M) pc = .ok (.putfield idx, 3)) (ht : h_kd (h_tyc ci k0) = 2) (hfin : (T k0).2.2.2 = true) (hini : (mY M).name = "<init>") (hdc : (T k0).1 = (mY M).cls)  (k : AW M kc ks (pc + 3) lv st (h_rm h a k0 (some b)) K) : AW M kc ks pc lv (.ref b :: .ref a :: st) h K := by
  intro l p e s m args below meth c dC dI cy A ad0 adV ad dom0 dom H locs ls hf hX hT hE hW hS hl ho hs
  obtain ⟨q, hq, hw⟩ := h_W_get (cy := cy) (ad := ad) (h := h) (wd_in hW hs0)
  rw [h_ce_obj hs0] at hw
  have hce : h_ce cy ad (h_rm h a k0 (some b)) a = .inr (ci, ((List.range N).map (h_fv ad h a ci)).set k0 (.ref (ad b))) := by
    have e2 := h_fs_set (n := N) (ad := ad) (h := h) (h' := h_rm h a k0 (some b)) (a := a) (ci := ci) (k := k0) (v := .ref (ad b)) (fv_up_r ht) (fun j hj => fv_up_rn j hj)
    rw [e2]
    exact h_ce_obj hs0
  refine va_putF (ty := h_tyc ci k0) hf.1 hf.2.1 hf.2.2.2.2.2.2.2.1 hc.2.1 (h_tyc ci) hc.2.2.1 hc.2.2.2.1 hf.2.2.2.2.2.1 hf.2.2.2.2.2.2.2.2.1.1 hW.2.1 hW.2.2 hS q hw hc.1 k0 hk (hf.2.2.2.2.2.2.2.1 _ hlk) (fun _ h9 => h9) hfin (hf.2.2.2.2.2.2.1.trans hini) hdc (hc.2.2.1 k0 hk) (nf_r ht).1 (nf_r ht).2 (by simpa using hk) hd (fun H1 locs1 h1 h2 hS1 => ?_)
  exact k l p e s m args below meth c dC dI cy A ad0 adV ad dom0 dom H1 locs1 ls hf hX hT hE (wd_r hW (fun z hz => by cases hz; exact ok_h hs _ rfl) hq hce h1 h2) hS1 hl ho (ok_t (ok_t hs))
theorem aw_iald {a n : Nat} {i : Int32} (hs0 : h_sh h a = some (0, n)) (hin : vp_in i n) (hd : decode (mC M) pc = .ok (.iaload, 1)) (k : AW M kc ks (pc + 1) lv (.int (h_i h a i.toNatClampNeg) :: st) h K) : AW M kc ks pc lv (.int i :: .ref a :: st) h K := by
  intro l p e s m args below meth c dC dI cy A ad0 adV ad dom0 dom H locs ls hf hX hT hE hW hS hl ho hs
  obtain ⟨q, hq, hw⟩ := h_W_get (cy := cy) (ad := ad) (h := h) (wd_in hW hs0)
  rw [h_ce_arr hs0 (by decide)] at hw
  exact va_iald hf.1 hf.2.1 hf.2.2.2.2.2.2.2.2.1.1 hW.2.1 q 0 hw rfl hin hd (k l p e s m args below meth c dC dI cy A ad0 adV ad dom0 dom H locs ls hf hX hT hE hW hS hl ho (ok_c ok_i (ok_t (ok_t hs))))
theorem aw_zald {a n : Nat} {i : Int32} (hs0 : h_sh h a = some (1, n)) (hin : vp_in i n) (hd : decode (mC M) pc = .ok (.baload, 1)) (k : AW M kc ks (pc + 1) lv (.int (h_i h a i.toNatClampNeg) :: st) h K) : AW M kc ks pc lv (.int i :: .ref a :: st) h K := by
  intro l p e s m args below meth c dC dI cy A ad0 adV ad dom0 dom H locs ls hf hX hT hE hW hS hl ho hs
  obtain ⟨q, hq, hw⟩ := h_W_get (cy := cy) (ad := ad) (h := h) (wd_in hW hs0)
  rw [h_ce_arr hs0 (by decide)] at hw
  exact va_zald hf.1 hf.2.1 hf.2.2.2.2.2.2.2.2.1.1 hW.2.1 q 1 hw rfl hin hd (k l p e s m args below meth c dC dI cy A ad0 adV ad dom0 dom H locs ls hf hX hT hE hW hS hl ho (ok_c ok_i (ok_t (ok_t hs))))
theorem aw_bald {a n : Nat} {i : Int32} (hs0 : h_sh h a = some (2, n)) (hin : vp_in i n) (hd : decode (mC M) pc = .ok (.baload, 1)) (k : AW M kc ks (pc + 1) lv (.int (h_i h a i.toNatClampNeg) :: st) h K) : AW M kc ks pc lv (.int i :: .ref a :: st) h K := by
  intro l p e s m args below meth c dC dI cy A ad0 adV ad dom0 dom H locs ls hf hX hT hE hW hS hl ho hs
  obtain ⟨q, hq, hw⟩ := h_W_get (cy := cy) (ad := ad) (h := h) (wd_in hW hs0)
  rw [h_ce_arr hs0 (by decide)] at hw
  exact va_bald hf.1 hf.2.1 hf.2.2.2.2.2.2.2.2.1.1 hW.2.1 q 2 hw rfl hin hd (k l p e s m args below meth c dC dI cy A ad0 adV ad dom0 dom H locs ls hf hX hT hE hW hS hl ho (ok_c ok_i (ok_t (ok_t hs))))
theorem aw_lald {a n : Nat} {i : Int32} (hs0 : h_sh h a = some (3, n)) (hin : vp_in i n) (hd : decode (mC M) pc = .ok (.laload, 1)) (k : AW M kc ks (pc + 1) lv (.long (h_l h a i.toNatClampNeg) :: st) h K) : AW M kc ks pc lv (.int i :: .ref a :: st) h K := by
  intro l p e s m args below meth c dC dI cy A ad0 adV ad dom0 dom H locs ls hf hX hT hE hW hS hl ho hs
  obtain ⟨q, hq, hw⟩ := h_W_get (cy := cy) (ad := ad) (h := h) (wd_in hW hs0)
  rw [h_ce_arr hs0 (by decide)] at hw
  exact va_lald hf.1 hf.2.1 hf.2.2.2.2.2.2.2.2.1.1 hW.2.1 q 3 hw rfl hin hd (k l p e s m args below meth c dC dI cy A ad0 adV ad dom0 dom H locs ls hf hX hT hE hW hS hl ho (ok_c ok_l (ok_t (ok_t hs))))
theorem aw_iast {a n : Nat} {i : Int32} {x : Int32} (hs0 : h_sh h a = some (0, n)) (hin : vp_in i n) (hd : decode (mC M) pc = .ok (.iastore, 1)) (k : AW M kc ks (pc + 1) lv st (h_im h a i.toNatClampNeg x) K) : AW M kc ks pc lv (.int x :: .int i :: .ref a :: st) h K := by
  intro l p e s m args below meth c dC dI cy A ad0 adV ad dom0 dom H locs ls hf hX hT hE hW hS hl ho hs
  obtain ⟨q, hq, hw⟩ := h_W_get (cy := cy) (ad := ad) (h := h) (wd_in hW hs0)
  rw [h_ce_arr hs0 (by decide)] at hw
  refine va_iast hf.1 hf.2.1 hf.2.2.2.2.2.2.2.2.1.1 hW.2.1 hW.2.2 hS q 0 hw rfl hin hd (fun H1 locs1 h1 h2 hS1 => ?_)
  exact k l p e s m args below meth c dC dI cy A ad0 adV ad dom0 dom H1 locs1 ls hf hX hT hE (wd_i hW hq (ce_iw hs0 (by decide)) h1 h2) hS1 hl ho (ok_t (ok_t (ok_t hs)))
theorem aw_zast {a n : Nat} {i : Int32} {x : Int32} (hs0 : h_sh h a = some (1, n)) (hin : vp_in i n) (hd : decode (mC M) pc = .ok (.bastore, 1)) (k : AW M kc ks (pc + 1) lv st (h_im h a i.toNatClampNeg (vp_nar .boolean x)) K) : AW M kc ks pc lv (.int x :: .int i :: .ref a :: st) h K := by
  intro l p e s m args below meth c dC dI cy A ad0 adV ad dom0 dom H locs ls hf hX hT hE hW hS hl ho hs
  obtain ⟨q, hq, hw⟩ := h_W_get (cy := cy) (ad := ad) (h := h) (wd_in hW hs0)
  rw [h_ce_arr hs0 (by decide)] at hw
  refine va_zast hf.1 hf.2.1 hf.2.2.2.2.2.2.2.2.1.1 hW.2.1 hW.2.2 hS q 1 hw rfl hin hd (fun H1 locs1 h1 h2 hS1 => ?_)
  exact k l p e s m args below meth c dC dI cy A ad0 adV ad dom0 dom H1 locs1 ls hf hX hT hE (wd_i hW hq (ce_iw hs0 (by decide)) h1 h2) hS1 hl ho (ok_t (ok_t (ok_t hs)))
theorem aw_bast {a n : Nat} {i : Int32} {x : Int32} (hs0 : h_sh h a = some (2, n)) (hin : vp_in i n) (hd : decode (mC M) pc = .ok (.bastore, 1)) (k : AW M kc ks (pc + 1) lv st (h_im h a i.toNatClampNeg (vp_nar .byte x)) K) : AW M kc ks pc lv (.int x :: .int i :: .ref a :: st) h K := by
  intro l p e s m args below meth c dC dI cy A ad0 adV ad dom0 dom H locs ls hf hX hT hE hW hS hl ho hs
  obtain ⟨q, hq, hw⟩ := h_W_get (cy := cy) (ad := ad) (h := h) (wd_in hW hs0)
  rw [h_ce_arr hs0 (by decide)] at hw
  refine va_bast hf.1 hf.2.1 hf.2.2.2.2.2.2.2.2.1.1 hW.2.1 hW.2.2 hS q 2 hw rfl hin hd (fun H1 locs1 h1 h2 hS1 => ?_)
  exact k l p e s m args below meth c dC dI cy A ad0 adV ad dom0 dom H1 locs1 ls hf hX hT hE (wd_i hW hq (ce_iw hs0 (by decide)) h1 h2) hS1 hl ho (ok_t (ok_t (ok_t hs)))
theorem aw_last {a n : Nat} {i : Int32} {x : Int64} (hs0 : h_sh h a = some (3, n)) (hin : vp_in i n) (hd : decode (mC M) pc = .ok (.lastore, 1)) (k : AW M kc ks (pc + 1) lv st (h_lm h a i.toNatClampNeg x) K) : AW M kc ks pc lv (.long x :: .int i :: .ref a :: st) h K := by
  intro l p e s m args below meth c dC dI cy A ad0 adV ad dom0 dom H locs ls hf hX hT hE hW hS hl ho hs
  obtain ⟨q, hq, hw⟩ := h_W_get (cy := cy) (ad := ad) (h := h) (wd_in hW hs0)
  rw [h_ce_arr hs0 (by decide)] at hw
  refine va_last hf.1 hf.2.1 hf.2.2.2.2.2.2.2.2.1.1 hW.2.1 hW.2.2 hS q 3 hw rfl hin hd (fun H1 locs1 h1 h2 hS1 => ?_)
  exact k l p e s m args below meth c dC dI cy A ad0 adV ad dom0 dom H1 locs1 ls hf hX hT hE (wd_l hW hq (ce_lw hs0) h1 h2) hS1 hl ho (ok_t (ok_t (ok_t hs)))
theorem aw_aaldr {a n : Nat} {i : Int32} {b : Nat} (hs0 : h_sh h a = some (4, n)) (hin : vp_in i n) (hr : h_r h a i.toNatClampNeg = some b) (hd : decode (mC M) pc = .ok (.aaload, 1)) (k : AW M kc ks (pc + 1) lv (.ref b :: st) h K) : AW M kc ks pc lv (.int i :: .ref a :: st) h K := by
  intro l p e s m args below meth c dC dI cy A ad0 adV ad dom0 dom H locs ls hf hX hT hE hW hS hl ho hs
  obtain ⟨q, hq, hw⟩ := h_W_get (cy := cy) (ad := ad) (h := h) (wd_in hW hs0)
  rw [h_ce_arr hs0 (by decide)] at hw
  refine va_aldq hf.1 hf.2.1 hf.2.2.2.2.2.2.2.2.1.1 hW.2.1 q 4 hw rfl hin hd ?_
  show W _ _ _ _ _ _ _ _ _ _ _ _ _ _ _ (F0 m (pc + 1) ls (va_rf ((h_r h a i.toNatClampNeg).map ad) :: _))
  rw [hr]
  exact k l p e s m args below meth c dC dI cy A ad0 adV ad dom0 dom H locs ls hf hX hT hE hW hS hl ho (ok_c (fun z hz => by cases hz; exact hW.1.2.2.2 _ _ _ hr) (ok_t (ok_t hs)))
theorem aw_aaldn {a n : Nat} {i : Int32}  (hs0 : h_sh h a = some (4, n)) (hin : vp_in i n) (hr : h_r h a i.toNatClampNeg = none) (hd : decode (mC M) pc = .ok (.aaload, 1)) (k : AW M kc ks (pc + 1) lv (.null :: st) h K) : AW M kc ks pc lv (.int i :: .ref a :: st) h K := by
  intro l p e s m args below meth c dC dI cy A ad0 adV ad dom0 dom H locs ls hf hX hT hE hW hS hl ho hs
  obtain ⟨q, hq, hw⟩ := h_W_get (cy := cy) (ad := ad) (h := h) (wd_in hW hs0)
  rw [h_ce_arr hs0 (by decide)] at hw
  refine va_aldq hf.1 hf.2.1 hf.2.2.2.2.2.2.2.2.1.1 hW.2.1 q 4 hw rfl hin hd ?_
  show W _ _ _ _ _ _ _ _ _ _ _ _ _ _ _ (F0 m (pc + 1) ls (va_rf ((h_r h a i.toNatClampNeg).map ad) :: _))
  rw [hr]
  exact k l p e s m args below meth c dC dI cy A ad0 adV ad dom0 dom H locs ls hf hX hT hE hW hS hl ho (ok_c ok_n (ok_t (ok_t hs)))
theorem aw_aast {a n b : Nat} {i : Int32} (hs0 : h_sh h a = some (4, n)) (hin : vp_in i n) (hs1 : h_sh h b = some (12, 17)) (hd : decode (mC M) pc = .ok (.aastore, 1)) (k : AW M kc ks (pc + 1) lv st (h_rm h a i.toNatClampNeg (some b)) K) : AW M kc ks pc lv (.ref b :: .int i :: .ref a :: st) h K := by
  intro l p e s m args below meth c dC dI cy A ad0 adV ad dom0 dom H locs ls hf hX hT hE hW hS hl ho hs
  obtain ⟨q, hq, hw⟩ := h_W_get (cy := cy) (ad := ad) (h := h) (wd_in hW hs0)
  obtain ⟨q1, hq1, hw1⟩ := h_W_get (cy := cy) (ad := ad) (h := h) (wd_in hW hs1)
  rw [h_ce_arr hs0 (by decide)] at hw
  rw [h_ce_obj (ci := 2) hs1] at hw1
  refine va_astq (r := (RX2, TX2, 17)) hf.1 hf.2.1 hf.2.2.2.2.2.2.2.2.1.1 hW.2.1 hW.2.2 hS q 4 q1 2 hw rfl hw1 rfl hin hd (fun H1 locs1 h1 h2 hS1 => ?_)
  refine k l p e s m args below meth c dC dI cy A ad0 adV ad dom0 dom H1 locs1 ls hf hX hT hE (wd_r hW (fun z hz => by cases hz; exact Or.inl (wd_in hW hs1)) hq ?_ h1 h2) hS1 hl ho (ok_t (ok_t (ok_t hs)))
  rw [h_ce_arr (h := h_rm h a i.toNatClampNeg (some b)) hs0 (by decide)]
  have e1 : (fun k => (h_r (h_rm h a i.toNatClampNeg (some b)) a k).map ad) = va_up (fun k => (h_r h a k).map ad) i.toNatClampNeg (some (ad b)) := by
    funext j
    rw [h_r_rm]
    unfold va_up
    by_cases hj : j = i.toNatClampNeg
    · rw [if_pos ⟨rfl, hj⟩, if_pos hj]; rfl
    · rw [if_neg (fun z => hj z.2), if_neg hj]
  show Sum.inl (cy 4, n, Sum.inr (Sum.inr (Sum.inr (Sum.inr (fun k => (h_r (h_rm h a i.toNatClampNeg (some b)) a k).map ad))))) = _
  rw [e1]
theorem aw_alen {a t n : Nat} {v : Int32} (hs0 : h_sh h a = some (t, n)) (ht : t < 5) (hv : Int32.ofNat n = v) (hd : decode (mC M) pc = .ok (.arraylength, 1)) (k : AW M kc ks (pc + 1) lv (.int v :: st) h K) : AW M kc ks pc lv (.ref a :: st) h K := by
  intro l p e s m args below meth c dC dI cy A ad0 adV ad dom0 dom H locs ls hf hX hT hE hW hS hl ho hs
  obtain ⟨q, hq, hw⟩ := h_W_get (cy := cy) (ad := ad) (h := h) (wd_in hW hs0)
  rw [h_ce_arr hs0 (by omega)] at hw
  have hty : ∃ ty, (h_tys cy)[t]? = some (cy t, ty) := by
    match t, ht with
    | 0, _ => exact ⟨_, rfl⟩
    | 1, _ => exact ⟨_, rfl⟩
    | 2, _ => exact ⟨_, rfl⟩
    | 3, _ => exact ⟨_, rfl⟩
    | 4, _ => exact ⟨_, rfl⟩
  obtain ⟨ty, hty⟩ := hty
  exact va_alen hf.1 hf.2.1 hf.2.2.2.2.2.2.2.2.1.1 hW.2.1 q t hw hty hv hd (k l p e s m args below meth c dC dI cy A ad0 adV ad dom0 dom H locs ls hf hX hT hE hW hS hl ho (ok_c ok_i (ok_t hs)))
end AWH
end
section
/-! ends, new cells, calls, contracts -/
section AWC
variable {M : Mc_} {kc ks pc : Nat} {lv : List (Nat × Value)} {st : List Value} {h : Hp_} {K : Option Value → Hp_ → Prop}
theorem aw_iret {x : Int32} (hr : mT M = some .int) (hd : decode (mC M) pc = .ok (.ireturn, 1)) (hk : kc ≤ (mR M).cells ∧ ks ≤ (mR M).slots) (k : K (some (.int x)) h) : AW M kc ks pc lv [.int x] h K := by
  intro l p e s m args below meth c dC dI cy A ad0 adV ad dom0 dom H locs ls hf hX hT hE hW hS hl ho hs
  refine W.widen hk.1 hk.2 ?_
  exact W.iret hf.1 hf.2.1 (hf.2.2.2.1.trans hr) (fun t ht _ => ⟨⟨some (.int x), h, ad, dom, rfl, k, by rw [ht]; exact hW, fun _ hx => by cases hx; exact ok_i, hE⟩, hS.F ht⟩) hS.2.2 hd hf.2.2.2.2.1
theorem aw_zret {x : Int32} {ty : FieldType} (hr : mT M = some ty) (hn : narrow ty (.int x) = .int x) (hd : decode (mC M) pc = .ok (.ireturn, 1)) (hk : kc ≤ (mR M).cells ∧ ks ≤ (mR M).slots) (k : K (some (.int x)) h) : AW M kc ks pc lv [.int x] h K := by
  intro l p e s m args below meth c dC dI cy A ad0 adV ad dom0 dom H locs ls hf hX hT hE hW hS hl ho hs
  refine W.widen hk.1 hk.2 ?_
  exact W.zret hf.1 hf.2.1 (hf.2.2.2.1.trans hr) hn (fun t ht _ => ⟨⟨some (.int x), h, ad, dom, rfl, k, by rw [ht]; exact hW, fun _ hx => by cases hx; exact ok_i, hE⟩, hS.F ht⟩) hS.2.2 hd hf.2.2.2.2.1
theorem aw_lret {x : Int64} (hr : mT M = some .long) (hd : decode (mC M) pc = .ok (.lreturn, 1)) (hk : kc ≤ (mR M).cells ∧ ks ≤ (mR M).slots) (k : K (some (.long x)) h) : AW M kc ks pc lv [.long x] h K := by
  intro l p e s m args below meth c dC dI cy A ad0 adV ad dom0 dom H locs ls hf hX hT hE hW hS hl ho hs
  refine W.widen hk.1 hk.2 ?_
  exact W.lret hf.1 hf.2.1 (hf.2.2.2.1.trans hr) (fun t ht _ => ⟨⟨some (.long x), h, ad, dom, rfl, k, by rw [ht]; exact hW, fun _ hx => by cases hx; exact ok_l, hE⟩, hS.F ht⟩) hS.2.2 hd hf.2.2.2.2.1
theorem aw_vret (hr : mT M = none) (hd : decode (mC M) pc = .ok (.return_, 1)) (hk : kc ≤ (mR M).cells ∧ ks ≤ (mR M).slots) (k : K none h) : AW M kc ks pc lv [] h K := by
  intro l p e s m args below meth c dC dI cy A ad0 adV ad dom0 dom H locs ls hf hX hT hE hW hS hl ho hs
  refine W.widen hk.1 hk.2 ?_
  exact W.vret hf.1 hf.2.1 (hf.2.2.2.1.trans hr) (fun t ht _ => ⟨⟨none, h, ad, dom, rfl, k, by rw [ht]; exact hW, (fun _ hx => by cases hx), hE⟩, hS.F ht⟩) hS.2.2 hd hf.2.2.2.2.1
theorem aw_aret {a : Nat} {rt : FieldType} (hr : mT M = some rt) (hrt : (∃ n, rt = .object n) ∨ ∃ t, rt = .array t) (hd : decode (mC M) pc = .ok (.areturn, 1)) (hk : kc ≤ (mR M).cells ∧ ks ≤ (mR M).slots) (k : K (some (.ref a)) h) : AW M kc ks pc lv [.ref a] h K := by
  intro l p e s m args below meth c dC dI cy A ad0 adV ad dom0 dom H locs ls hf hX hT hE hW hS hl ho hs
  refine W.widen hk.1 hk.2 ?_
  exact W.aret hf.1 hf.2.1 (hf.2.2.2.1.trans hr) hrt (Or.inr ⟨_, rfl⟩) (fun t ht _ => ⟨⟨some (.ref a), h, ad, dom, rfl, k, by rw [ht]; exact hW, fun _ hx => by cases hx; exact ok_h hs, hE⟩, hS.F ht⟩) hS.2.2 hd hf.2.2.2.2.1
theorem aw_aretN {rt : FieldType} (hr : mT M = some rt) (hrt : (∃ n, rt = .object n) ∨ ∃ t, rt = .array t) (hd : decode (mC M) pc = .ok (.areturn, 1)) (hk : kc ≤ (mR M).cells ∧ ks ≤ (mR M).slots) (k : K (some .null) h) : AW M kc ks pc lv [.null] h K := by
  intro l p e s m args below meth c dC dI cy A ad0 adV ad dom0 dom H locs ls hf hX hT hE hW hS hl ho hs
  refine W.widen hk.1 hk.2 ?_
  exact W.aret hf.1 hf.2.1 (hf.2.2.2.1.trans hr) hrt (Or.inl rfl) (fun t ht _ => ⟨⟨some .null, h, ad, dom, rfl, k, by rw [ht]; exact hW, fun _ hx => by cases hx; exact ok_n, hE⟩, hS.F ht⟩) hS.2.2 hd hf.2.2.2.2.1
/-- the extra facts speak of the old cells alone -/
noncomputable def xs_ (M : Mc_) : Prop := ∀ (ad ad' : Nat → Nat) (A : Nat → Prop) (s : State), (∀ a, 1000 ≤ a → ad' a = ad a) → mX M ad A s → mX M ad' A s
theorem cv_same {ad ad' : Nat → Nat} {v : Value} (hv : ∀ c, v = .ref c → ad' c = ad c) : h_cv ad' v = h_cv ad v := by
  cases v with
  | ref c => show Value.ref (ad' c) = Value.ref (ad c); rw [hv c rfl]
  | _ => rfl
theorem cvs_same {ad ad' : Nat → Nat} {st : List Value} (hs : ∀ v ∈ st, ∀ c, v = .ref c → ad' c = ad c) : st.map (h_cv ad') = st.map (h_cv ad) := List.map_congr_left (fun v hv => cv_same (hs v hv))
theorem lvs_same {ad ad' : Nat → Nat} {lv : List (Nat × Value)} (hs : ∀ q ∈ lv, ∀ c, q.2 = .ref c → ad' c = ad c) : lv.map (fun q => (q.1, h_cv ad' q.2)) = lv.map (fun q => (q.1, h_cv ad q.2)) := List.map_congr_left (fun q hq => by rw [cv_same (hs q hq)])
theorem st_same {ad ad' adV : Nat → Nat} {A : Nat → Prop} {s : State} (he : ∀ a, 1000 ≤ a → ad' a = ad a) (hT : st_ ad adV A s) : st_ ad' adV A s := by
  have e : (fun i => ad' (1000 + i)) = (fun i => ad (1000 + i)) := funext fun i => he _ (by omega)
  refine ⟨⟨by rw [e]; exact hT.1.1, fun i => by rw [he _ (by omega)]; exact hT.1.2.1 i, hT.1.2.2.1, by rw [he 2100 (by omega)]; exact hT.1.2.2.2⟩, fun r hr => ?_⟩
  rw [he _ (by omega)]
  exact hT.2 r hr
theorem h_ok_mono {dom dom' : List Nat} (hd : ∀ a ∈ dom, a ∈ dom') {v : Value} (hv : h_ok dom v) : h_ok dom' v := fun c hc => (hv c hc).imp (hd c) id
theorem ex_trans {ad0 ad ad' : Nat → Nat} {dom0 dom dom' : List Nat} (h1 : ex_ ad0 ad dom0 dom) (h2 : ex_ ad ad' dom dom') : ex_ ad0 ad' dom0 dom' :=
  ⟨fun a ha => (h2.1 a (ha.imp (h1.2 a) id)).trans (h1.1 a ha), fun a ha => h2.2 a (h1.2 a ha)⟩
/-- on to a later world -/
theorem aw_on {kc' ks' : Nat} {st' : List Value} {h' : Hp_} (hXs : xs_ M) (k : AW M kc' ks' pc lv st' h' K)
    {l : Ln_} {p : Program} {e : Env} {s : State} {m : MethodId} {args : Array Value} {below : List Frame} {meth : Method} {c : Code} {dC : Nat → ClassId} {dI : Nat → Nat → Nat} {cy : Nat → ClassId} {A : Nat → Prop} {ad0 adV ad ad' : Nat → Nat} {dom0 dom dom' : List Nat} {H' : Heap} {locs' : List Loc} {ls : Array Slot}
    (hf : fr_ (mY M) (mC M) (mN M) (mT M) p s m args meth c dC dI cy A) (hX : mX M ad A s) (hT : st_ ad adV A s) (hE : ex_ ad0 ad dom0 dom) (hE2 : ex_ ad ad' dom dom') (hW' : wd_ dC dI cy A ad' dom' h' H') (hS' : va_S A s.heap H' locs') (hl : lv_has ls (mN M) (lv.map (fun q => (q.1, h_cv ad q.2)))) (ho : ∀ q ∈ lv, h_ok dom q.2) (hs' : ∀ v ∈ st', h_ok dom' v) :
    W p l.1 e (mR M) s m args below meth c H' locs' kc' ks' (MQ below (qq_ K dC dI cy A ad0 dom0) args s (mR M).cells (mR M).slots A) (F0 m pc ls (st'.map (h_cv ad'))) := by
  have he : ∀ a, 1000 ≤ a → ad' a = ad a := fun a ha => hE2.1 a (Or.inr ha)
  refine k l p e s m args below meth c dC dI cy A ad0 adV ad' dom0 dom' H' locs' ls hf (hXs ad ad' A s he hX) (st_same he hT) (ex_trans hE hE2) hW' hS' ?_ (fun q hq => h_ok_mono hE2.2 (ho q hq)) hs'
  rw [lvs_same (fun q hq z hz => hE2.1 z (ho q hq z hz))]
  exact hl
theorem h_sh_nw {h : Hp_} {a t n b : Nat} : h_sh (h_nw h a t n) b = if b = a then some (t, n) else h_sh h b := rfl
theorem h_i_nw {h : Hp_} {a t n b : Nat} : h_i (h_nw h a t n) b = if b = a then (fun _ => 0) else h_i h b := rfl
theorem h_l_nw {h : Hp_} {a t n b : Nat} : h_l (h_nw h a t n) b = if b = a then (fun _ => 0) else h_l h b := rfl
theorem h_r_nw {h : Hp_} {a t n b : Nat} : h_r (h_nw h a t n) b = if b = a then (fun _ => none) else h_r h b := rfl
theorem h_ce_nw {cy : Nat → ClassId} {ad ad' : Nat → Nat} {h : Hp_} {a t n b : Nat} (hb : b ≠ a) (hr : ∀ k c, h_r h b k = some c → ad' c = ad c) : h_ce cy ad' (h_nw h a t n) b = h_ce cy ad h b := by
  have e1 : h_i (h_nw h a t n) b = h_i h b := by rw [h_i_nw, if_neg hb]
  have e2 : h_l (h_nw h a t n) b = h_l h b := by rw [h_l_nw, if_neg hb]
  have e3 : h_r (h_nw h a t n) b = h_r h b := by rw [h_r_nw, if_neg hb]
  have e4 : ∀ k, (h_r h b k).map ad' = (h_r h b k).map ad := fun k => by
    cases hk : h_r h b k with
    | none => rfl
    | some z => show some (ad' z) = some (ad z); rw [hr k z hk]
  unfold h_ce
  rw [h_sh_nw, if_neg hb]
  split
  · rename_i t2 n2 _
    have f1 : h_ar ad' (h_nw h a t n) b t2 = h_ar ad h b t2 := by unfold h_ar; rw [e1, e2, e3]; simp only [e4]
    have f2 : h_fv ad' (h_nw h a t n) b (t2 - 10) = h_fv ad h b (t2 - 10) := by funext k; unfold h_fv; rw [e1, e2, e3, e4]
    rw [f1, f2]
  · rfl
theorem va_up_at {α : Type} (f : Nat → α) (k : Nat) (v : α) : va_up f k v k = v := by unfold va_up; rw [if_pos rfl]
theorem va_up_off {α : Type} (f : Nat → α) {k j : Nat} (v : α) (hj : j ≠ k) : va_up f k v j = f j := by unfold va_up; rw [if_neg hj]
/-- a new cell joins the world -/
theorem wd_nw {dC : Nat → ClassId} {dI : Nat → Nat → Nat} {cy : Nat → ClassId} {A : Nat → Prop} {ad : Nat → Nat} {dom : List Nat} {h : Hp_} {H H1 : Heap} {na q t n : Nat} {e : va_E} (hW : wd_ dC dI cy A ad dom h H) (hna : h_sh h na = none) (hlt : na < 1000) (he : h_ce cy (va_up ad na q) (h_nw h na t n) na = e) (h1 : va_P (dC, dI) kl_ (h_W cy ad h dom ++ [(q, e)]) H1) (h2 : va_D A (h_W cy ad h dom ++ [(q, e)])) :
    wd_ dC dI cy A (va_up ad na q) (dom ++ [na]) (h_nw h na t n) H1 ∧ ex_ ad (va_up ad na q) dom (dom ++ [na]) := by
  have hnd : na ∉ dom := fun z => ((hW.1.2.1 na).mpr z) hna
  have hr : ∀ b k c, h_r h b k = some c → va_up ad na q c = ad c := fun b k c hc => va_up_off _ _ (by
    rcases hW.1.2.2.2 b k c hc with z | z
    · exact fun w => hnd (w ▸ z)
    · omega)
  rw [h_W_new (ad' := va_up ad na q) (h' := h_nw h na t n) (a := na) (va_up_at _ _ _) he (fun b hb => ⟨va_up_off _ _ (fun w => hnd (w ▸ hb)), h_ce_nw (fun w => hnd (w ▸ hb)) (hr b)⟩)] at h1 h2
  refine ⟨⟨⟨?_, fun a => ?_, fun a ha => ?_, fun b k c hc => ?_⟩, h1, h2⟩, fun a ha => va_up_off _ _ ?_, fun a ha => List.mem_append_left _ ha⟩
  · refine List.nodup_append.mpr ⟨hW.1.1, by simp, fun a ha b hb => ?_⟩
    rw [List.mem_singleton.mp hb]
    exact fun w => hnd (w ▸ ha)
  · rw [h_sh_nw]
    by_cases hz : a = na
    · rw [if_pos hz]
      exact ⟨fun _ => List.mem_append_right _ (by rw [hz]; exact List.mem_singleton.mpr rfl), fun _ w => by cases w⟩
    · rw [if_neg hz, hW.1.2.1 a]
      exact ⟨fun z => List.mem_append_left _ z, fun z => (List.mem_append.mp z).resolve_right (fun w => hz (List.mem_singleton.mp w))⟩
  · rcases List.mem_append.mp ha with z | z
    · exact hW.1.2.2.1 a z
    · rw [List.mem_singleton.mp z]; exact hlt
  · rw [h_r_nw] at hc
    split at hc
    · cases hc
    · exact (hW.1.2.2.2 b k c hc).imp (fun z => List.mem_append_left _ z) id
  · rcases ha with z | z
    · exact fun w => hnd (w ▸ z)
    · omega
theorem aw_new {ci : Nat} {C : String} {T : u_T} {N idx : Nat} (na : Nat) (hc : kc_ ci C T N) (hcl : Cond.classLink (mY M).cls idx C ∈ lw_g) (hin : Cond.instantiable C N ∈ lw_g) (hini : Cond.initialized C ∈ lw_g) (hna : h_sh h na = none) (hlt : na < 1000) (hXs : xs_ M) (hkc : kc + 1 ≤ (mR M).cells) (hks : ks + N ≤ (mR M).slots) (hd : decode (mC M) pc = .ok (.new idx, 3)) (k : AW M (kc + 1) (ks + N) (pc + 3) lv (.ref na :: st) (h_nw h na (ci + 10) N) K) : AW M kc ks pc lv st h K := by
  intro l p e s m args below meth c dC dI cy A ad0 adV ad dom0 dom H locs ls hf hX hT hE hW hS hl ho hs
  refine va_new (fs := (List.range N).map (fun k => h_dv (h_kd (h_tyc ci k)))) hf.1 hf.2.1 hf.2.2.2.2.2.2.2.1 hc.2.1 (h_tyc ci) hc.2.2.1 hf.2.2.2.2.2.1 (hf.2.2.2.2.2.2.2.1 _ hcl) (hf.2.2.2.2.2.2.2.1 _ hin) (hf.2.2.2.2.2.2.2.1 _ hini) hf.2.2.2.2.2.2.2.2.1.1 hW.2.1 hW.2.2 hS hf.2.2.2.2.2.2.2.2.2 hc.1 (fun j hj => ?_) hkc hks hd (fun q H1 h1 h2 hS1 => ?_)
  · rw [hc.2.2.2.2 j hj]
    simp [vp_V, hj]
  · have he : h_ce cy (va_up ad na q) (h_nw h na (ci + 10) N) na = .inr (ci, (List.range N).map (fun k => h_dv (h_kd (h_tyc ci k)))) := by
      rw [h_ce_obj (ci := ci) (n := N) (by rw [h_sh_nw, if_pos rfl])]
      congr 3
      funext j
      unfold h_fv
      rw [h_i_nw, h_l_nw, h_r_nw, if_pos rfl, if_pos rfl, if_pos rfl]
      cases h_kd (h_tyc ci j) with
      | zero => rfl
      | succ x => cases x <;> rfl
    obtain ⟨hW1, hE1⟩ := wd_nw hW hna hlt he h1 h2
    have hz := aw_on (l := l) (e := e) (below := below) hXs k hf hX hT hE hE1 hW1 hS1 hl ho (ok_c (fun z w => by cases w; exact Or.inl (List.mem_append_right _ (List.mem_singleton.mpr rfl))) (fun v hv => h_ok_mono hE1.2 (hs v hv)))
    rw [List.map_cons, cvs_same (ad := ad) (fun v hv z w => hE1.1 z (hs v hv z w))] at hz
    rw [show h_cv (va_up ad na q) (.ref na) = .ref q from congrArg Value.ref (va_up_at _ _ _)] at hz
    exact hz
theorem aw_newa {t : Nat} {atype : ArrayType} {n : Int32} (na N : Nat) (ht : t < 4) (hty : (h_tys (fun _ => 0))[t]? = some (0, newarray.typeOf atype)) (hac : Cond.arrayClass (newarray.typeOf atype) ∈ lw_g) (hna : h_sh h na = none) (hlt : na < 1000) (hXs : xs_ M) (hn : ¬ n < 0) (hN : n.toNatClampNeg = N) (hb : N * componentBytes (newarray.typeOf atype) ≤ 536870912) (hkc : kc + 1 ≤ (mR M).cells) (hks : ks + N ≤ (mR M).slots) (hd : decode (mC M) pc = .ok (.newarray atype, 2)) (k : AW M (kc + 1) (ks + N) (pc + 2) lv (.ref na :: st) (h_nw h na t N) K) : AW M kc ks pc lv (.int n :: st) h K := by
  intro l p e s m args below meth c dC dI cy A ad0 adV ad dom0 dom H locs ls hf hX hT hE hW hS hl ho hs
  have hK := hf.2.2.2.2.2.2.2.2.1.1
  have htc : (h_tys cy)[t]? = some (cy t, newarray.typeOf atype) := by
    match t, ht with
    | 0, _ => cases atype <;> first | rfl | cases hty
    | 1, _ => cases atype <;> first | rfl | cases hty
    | 2, _ => cases atype <;> first | rfl | cases hty
    | 3, _ => cases atype <;> first | rfl | cases hty
  have hpr : ∀ cA, va_RA s cA (newarray.typeOf atype) → s.vm.findClass ("[" ++ (newarray.typeOf atype).toString) = some cA := fun cA w => by cases atype <;> exact w
  refine va_newa (a0 := (N, h_ar ad (h_nw h na t N) na t)) hf.1 hf.2.1 (hf.2.2.2.2.2.2.2.1 _ hac) rfl hK hW.2.1 hW.2.2 hS hf.2.2.2.2.2.2.2.2.2 (fun cA => ?_) hn hN hb hkc hks hd (fun q cA H1 hK1 h1 h2 hS1 => ?_)
  · match t, ht with
    | 0, _ => cases atype <;> first | (unfold h_ar; rw [h_i_nw, if_pos rfl]; rfl) | cases hty
    | 1, _ => cases atype <;> first | (unfold h_ar; rw [h_i_nw, if_pos rfl]; rfl) | cases hty
    | 2, _ => cases atype <;> first | (unfold h_ar; rw [h_i_nw, if_pos rfl]; rfl) | cases hty
    | 3, _ => cases atype <;> first | (unfold h_ar; rw [h_l_nw, if_pos rfl]; rfl) | cases hty
  · have hcA : cA = cy t := by
      have e1 := hpr _ (hK1.2 5 (cA, newarray.typeOf atype) rfl).2
      have e2 := hpr _ (hK.2 t (cy t, newarray.typeOf atype) htc).2
      exact Option.some.inj (e1.symm.trans e2)
    subst hcA
    have har : h_ar (va_up ad na q) (h_nw h na t N) na t = h_ar ad (h_nw h na t N) na t := by
      match t, ht with
      | 0, _ => rfl
      | 1, _ => rfl
      | 2, _ => rfl
      | 3, _ => rfl
    have he : h_ce cy (va_up ad na q) (h_nw h na t N) na = .inl (cy t, N, h_ar ad (h_nw h na t N) na t) := by
      rw [h_ce_arr (t := t) (n := N) (by rw [h_sh_nw, if_pos rfl]) (by omega), har]
    obtain ⟨hW1, hE1⟩ := wd_nw hW hna hlt he h1 h2
    have hz := aw_on (l := l) (e := e) (below := below) hXs k hf hX hT hE hE1 hW1 hS1 hl ho (ok_c (fun z w => by cases w; exact Or.inl (List.mem_append_right _ (List.mem_singleton.mpr rfl))) (fun v hv => h_ok_mono hE1.2 (ok_t hs v hv)))
    rw [List.map_cons, cvs_same (ad := ad) (fun v hv z w => hE1.1 z (ok_t hs v hv z w))] at hz
    rw [show h_cv (va_up ad na q) (.ref na) = .ref q from congrArg Value.ref (va_up_at _ _ _)] at hz
    exact hz
theorem aw_newq {idx : Nat} {n : Int32} (na N : Nat) (hcl : Cond.classLink (mY M).cls idx "CountyWatch$Constable" ∈ lw_g) (hna : h_sh h na = none) (hlt : na < 1000) (hXs : xs_ M) (hn : ¬ n < 0) (hN : n.toNatClampNeg = N) (hb : N * 4 ≤ 536870912) (hkc : kc + 1 ≤ (mR M).cells) (hks : ks + N ≤ (mR M).slots) (hd : decode (mC M) pc = .ok (.anewarray idx, 3)) (k : AW M (kc + 1) (ks + N) (pc + 3) lv (.ref na :: st) (h_nw h na 4 N) K) : AW M kc ks pc lv (.int n :: st) h K := by
  intro l p e s m args below meth c dC dI cy A ad0 adV ad dom0 dom H locs ls hf hX hT hE hW hS hl ho hs
  have hK := hf.2.2.2.2.2.2.2.2.1.1
  refine va_newq hf.1 hf.2.1 hf.2.2.2.2.2.1 (hf.2.2.2.2.2.2.2.1 _ hcl) hf.2.2.2.2.2.2.2.2.1.2.2 hK hW.2.1 hW.2.2 hS hf.2.2.2.2.2.2.2.2.2 hn hN hb hkc hks hd (fun q cA H1 hK1 h1 h2 hS1 => ?_)
  have hcA : cA = cy 4 := by
    obtain ⟨_, _, _, _, _, e1⟩ := (hK1.2 5 (cA, .object "CountyWatch$Constable") rfl).2
    obtain ⟨_, _, _, _, _, e2⟩ := (hK.2 4 (cy 4, .object "CountyWatch$Constable") rfl).2
    exact Option.some.inj (e1.symm.trans e2)
  subst hcA
  have he : h_ce cy (va_up ad na q) (h_nw h na 4 N) na = .inl (cy 4, N, .inr (.inr (.inr (.inr (fun _ => none))))) := by
    rw [h_ce_arr (t := 4) (n := N) (by rw [h_sh_nw, if_pos rfl]) (by omega)]
    unfold h_ar
    rw [h_r_nw, if_pos rfl]
    rfl
  obtain ⟨hW1, hE1⟩ := wd_nw hW hna hlt he h1 h2
  have hz := aw_on (l := l) (e := e) (below := below) hXs k hf hX hT hE hE1 hW1 hS1 hl ho (ok_c (fun z w => by cases w; exact Or.inl (List.mem_append_right _ (List.mem_singleton.mpr rfl))) (fun v hv => h_ok_mono hE1.2 (ok_t hs v hv)))
  rw [List.map_cons, cvs_same (ad := ad) (fun v hv z w => hE1.1 z (ok_t hs v hv z w))] at hz
  rw [show h_cv (va_up ad na q) (.ref na) = .ref q from congrArg Value.ref (va_up_at _ _ _)] at hz
  exact hz
end AWC
end
section
/-! contracts -/
noncomputable def cp_ (dC : Nat → ClassId) (dI : Nat → Nat → Nat) (cy : Nat → ClassId) (ad adV : Nat → Nat) (dom : List Nat) (h : Hp_) (sz : Nat) (U : State) : Prop :=
  U.heap.size = sz ∧ va_P (dC, dI) kl_ (h_W cy ad h dom) U.heap ∧ va_D (fun _ => True) (h_W cy ad h dom) ∧ cx_ dC dI cy U ∧ st_ ad adV (va_A (h_W cy ad h dom) sz) U
noncomputable def Ct (M : Mc_) (vs : List Value) (h : Hp_) (K : Option Value → Hp_ → Prop) : Prop :=
  ∀ (l : Ln_) (dC : Nat → ClassId) (dI : Nat → Nat → Nat) (cy : Nat → ClassId) (ad adV : Nat → Nat) (dom : List Nat) (sz : Nat), (dom.Nodup ∧ (∀ a, h_sh h a ≠ none ↔ a ∈ dom) ∧ (∀ a ∈ dom, a < 1000) ∧ ∀ b k c, h_r h b k = some c → c ∈ dom ∨ 1000 ≤ c) → (∀ v ∈ vs, h_ok dom v) →
    Met l.1 (mY M) (Cond.code (mY M) (mC M) (mN M) (mT M) :: lw_g) (mR M) (va_Pc (vs.map (h_cv ad)) (cp_ dC dI cy ad adV dom h sz)) (qq_ K dC dI cy (va_A (h_W cy ad h dom) sz) ad dom) (mR M).cells (mR M).slots (va_A (h_W cy ad h dom) sz)
theorem lv_args_cv (ad : Nat → Nat) : ∀ (vs : List Value) (i : Nat), lv_args i (vs.map (h_cv ad)) = (lv_args i vs).map (fun q => (q.1, h_cv ad q.2))
  | [], _ => rfl
  | v :: vs, i => by
    simp only [List.map_cons, lv_args, cv_cat, lv_args_cv ad vs]
theorem lv_args_mem : ∀ {vs : List Value} {i : Nat} {q : Nat × Value}, q ∈ lv_args i vs → q.2 ∈ vs
  | [], _, q, h => by simp [lv_args] at h
  | v :: vs, i, q, h => by
    simp only [lv_args] at h
    rcases List.mem_cons.mp h with h | h
    · rw [h]; exact List.mem_cons_self
    · exact List.mem_cons_of_mem _ (lv_args_mem h)
theorem lg_sl_len (ad : Nat → Nat) : ∀ vs : List Value, (lg_sl (vs.map (h_cv ad))).length = (lg_sl vs).length
  | [] => rfl
  | v :: vs => by
    have ih := lg_sl_len ad vs
    simp only [lg_sl, List.map_cons, List.flatMap_cons, List.length_append, cv_cat] at ih ⊢
    rw [ih]
    split <;> rfl
theorem cx_moved {dC : Nat → ClassId} {dI : Nat → Nat → Nat} {cy : Nat → ClassId} {s U : State} (hW : s.WarmedH U.vm) (h : cx_ dC dI cy s) : cx_ dC dI cy U :=
  ⟨va_K.moved hW.alike h.1, fun w hw => va_Nw.warmM hW (h.2.1 w hw), va_AO.moved hW.alike h.2.2⟩
theorem Ct.of {M : Mc_} {vs : List Value} {h : Hp_} {K : Option Value → Hp_ → Prop} (hX : ∀ ad A s, mX M ad A s) (hy : plainName (mY M).cls = true) (hv : (lg_sl vs).length ≤ mN M) (k : AW M 0 0 0 (lv_args 0 vs) [] h K) : Ct M vs h K := by
  intro l dC dI cy ad adV dom sz hdm hok
  refine Met.ofW (cc := mC M) (maxL := mN M) (ret := mT M) hy rfl ?_
  intro p e s m args below meth c s₁ B hml hv0
  obtain ⟨rfl, hsz, hP, hD0, hcx, hst⟩ := hv0
  have hts := atoms_spec (ws := Cond.code (mY M) (mC M) (mN M) (mT M) :: lw_g) B.pre
  have hown : s.vm.findClass (mY M).cls = some m.cls := findClass_of_methodNamed B.named
  have hnm : meth.name = (mY M).name := (name_of_methodNamed B.named B.method).1
  subst hsz
  have hD := hD0.self (sz := s.heap.size)
  have hl := lv_entry (vs.map (h_cv ad)) (n := mN M) (by rw [lg_sl_len]; exact hv)
  rw [lg_entry_eq]
  generalize (lg_sl (vs.map (h_cv ad)) ++ List.replicate (mN M - (lg_sl (vs.map (h_cv ad))).length) Slot.unset).toArray = ls at hl ⊢
  rw [lv_args_cv] at hl
  exact k l p e s m _ below meth c dC dI cy (va_A (h_W cy ad h dom) s.heap.size) ad adV ad dom dom s.heap [] ls ⟨B.exec, B.bytes, hml, B.returns, B.notSynchronized, hown, hnm, fun w hw => hts w (List.mem_cons_of_mem _ hw), hcx, fun q hq => Or.inr hq⟩ (hX _ _ _) hst ⟨fun _ _ => rfl, fun _ ha => ha⟩ ⟨hdm, hP, hD⟩ va_S.rf hl (fun q hq => hok _ (lv_args_mem hq)) (fun v hv => by cases hv)
end
section
/-! calls -/
theorem cp_blind {dC : Nat → ClassId} {dI : Nat → Nat → Nat} {cy : Nat → ClassId} {ad adV : Nat → Nat} {dom : List Nat} {h : Hp_} {sz : Nat} {av : List Value} : FrameBlind (va_Pc av (cp_ dC dI cy ad adV dom h sz)) := by
  intro a U g mk hq
  obtain ⟨q0, q1, q2, q3, q4, q5⟩ := hq
  refine ⟨q0, q1, q2, q3, ⟨va_K.moved (u := U) (U := U.calling g mk a) (Vm.Alike.refl U.vm) q4.1, fun w hw => va_Nw.same rfl rfl (q4.2.1 w hw), va_AO.moved (u := U) (U := U.calling g mk a) (Vm.Alike.refl U.vm) q4.2.2⟩, tx_.moved (u := U) (U := U.calling g mk a) (Vm.Alike.refl U.vm) q5.1, fun r hr => vk_R.same rfl (q5.2 r hr)⟩
theorem cp_sub {dC : Nat → ClassId} {dI : Nat → Nat → Nat} {cy : Nat → ClassId} {A : Nat → Prop} {ad : Nat → Nat} {dom : List Nat} {h : Hp_} {H H0 : Heap} {locs : List Loc} (hA : ∀ q, H0.size ≤ q → A q) (hW : wd_ dC dI cy A ad dom h H) (hS : va_S A H0 H locs) : ∀ q, va_A (h_W cy ad h dom) H.size q → A q := by
  intro q hq
  rcases hq with ⟨k, e, hq⟩ | hq
  · exact hW.2.2.2 k (q, e) hq
  · exact hA q (Nat.le_trans hS.1 hq)
theorem cp_pre {y : MethodName} {cc : ByteArray} {nL : Nat} {ret : Option FieldType} {p : Program} {s : State} {m : MethodId} {args : Array Value} {meth : Method} {c : Code} {dC : Nat → ClassId} {dI : Nat → Nat → Nat} {cy : Nat → ClassId} {A : Nat → Prop} {adV ad : Nat → Nat} {dom : List Nat} {h : Hp_} {H : Heap} {locs : List Loc} (hf : fr_ y cc nL ret p s m args meth c dC dI cy A) (hT : st_ ad adV A s) (hW : wd_ dC dI cy A ad dom h H) (hS : va_S A s.heap H locs) {U : State} (hU : U.heap = H) (hWm : s.WarmedH U.vm) : cp_ dC dI cy ad adV dom h H.size U := by
  refine ⟨by rw [hU], by rw [hU]; exact hW.2.1, hW.2.2.weaken (fun _ _ _ _ => trivial), cx_moved hWm hf.2.2.2.2.2.2.2.2.1, ?_, fun r hr => vk_R.warm hWm (hT.2 r hr)⟩
  rw [hU]
  exact tx_.narrow (tx_.moved hWm.alike (tx_.kept hT.1 (fun a h1 h2 => hS.2.1 a h1 h2))) (cp_sub hf.2.2.2.2.2.2.2.2.2 hW hS)
theorem aw_back {M : Mc_} {kc ks mc ms pc : Nat} {lv : List (Nat × Value)} {rest st0 : List Value} {h : Hp_} {K K' : Option Value → Hp_ → Prop} (hXs : xs_ M)
    {l : Ln_} {p : Program} {e : Env} {s : State} {m : MethodId} {args a : Array Value} {below : List Frame} {meth : Method} {c : Code} {dC : Nat → ClassId} {dI : Nat → Nat → Nat} {cy : Nat → ClassId} {A : Nat → Prop} {ad0 adV ad : Nat → Nat} {dom0 dom : List Nat} {H : Heap} {locs : List Loc} {ls : Array Slot}
    (hf : fr_ (mY M) (mC M) (mN M) (mT M) p s m args meth c dC dI cy A) (hX : mX M ad A s) (hT : st_ ad adV A s) (hE : ex_ ad0 ad dom0 dom) (hW : wd_ dC dI cy A ad dom h H) (hS : va_S A s.heap H locs) (hl : lv_has ls (mN M) (lv.map (fun q => (q.1, h_cv ad q.2)))) (ho : ∀ q ∈ lv, h_ok dom q.2) (hs : ∀ v ∈ rest, h_ok dom v)
    (hr : va_Run p l.1 e (mR M) s m args below meth c H locs kc ks mc ms (F0 m pc ls st0) (rest.map (h_cv ad)) (qq_ K' dC dI cy (va_A (h_W cy ad h dom) H.size) ad dom a) (va_A (h_W cy ad h dom) H.size))
    (k : ∀ v h', K' v h' → AW M (kc + mc) (ks + ms) (pc + 3) lv (v.toList ++ rest) h' K) :
    W p l.1 e (mR M) s m args below meth c H locs kc ks (MQ below (qq_ K dC dI cy A ad0 dom0) args s (mR M).cells (mR M).slots A) (F0 m pc ls st0) := by
  intro T hT0 X
  obtain ⟨v, st₀, t, T', L, h0, X', hL, e1, e2, ⟨⟨v', h', ad', dom', hv, hK', hW', hov, hE'⟩, hz, hkp⟩, stp⟩ := hr T hT0 X
  cases hv
  rw [h0] at hz hkp
  have hAA := cp_sub hf.2.2.2.2.2.2.2.2.2 hW hS
  have hS1 : va_S A s.heap T'.heap (locs ++ L) := ⟨Nat.le_trans hS.1 (by rw [e1]; exact hz), fun q h1 h2 => by rw [e1, hkp q (Nat.lt_of_lt_of_le h1 hS.1) (fun z => h2 (hAA q z))]; exact hS.2.1 q h1 h2, fun q hq => by
      rcases List.mem_append.mp hq with z | z
      · exact hS.2.2 q z
      · exact hAA _ (hL q z)⟩
  have hW1 : wd_ dC dI cy A ad' dom' h' T'.heap := ⟨hW'.1, by rw [e1]; exact hW'.2.1, hW'.2.2.weaken (fun _ _ _ z => hAA _ z)⟩
  have hs1 : ∀ x ∈ v'.toList ++ rest, h_ok dom' x := by
    intro x hx
    rcases List.mem_append.mp hx with z | z
    · exact hov x (Option.mem_toList.mp z)
    · exact h_ok_mono hE'.2 (hs x z)
  have hz1 := aw_on (l := l) (e := e) (below := below) hXs (k v' h' hK') hf hX hT hE hE' hW1 hS1 hl ho hs1
  obtain ⟨t2, a1, b1⟩ := hz1 T' rfl X'
  refine ⟨t2, stp t2 ?_, b1⟩
  rw [List.map_append, cvs_same (ad := ad) (fun x hx z w => hE'.1 z (hs x hx z w))] at a1
  cases v' <;> exact a1
/-- what is known of a method that is called -/
noncomputable def cm_ (M : Mc_) (n : Nat) : Prop := Cond.code (mY M) (mC M) (mN M) (mT M) ∈ lw_g ∧ Cond.initialized (mY M).cls ∈ lw_g ∧ ((mY M).cls ≠ "java/lang/invoke/MethodHandle" ∧ (mY M).cls ≠ "java/lang/invoke/VarHandle") ∧ (parseMethodDescriptor (mY M).desc).map (fun d => d.parameters.length) = some n
theorem cb_ws {M : Mc_} {n : Nat} {s : State} {args : Array Value} (hts : ∀ w ∈ lw_g, w.before args s = true) (hm : cm_ M n) : ∀ w ∈ Cond.code (mY M) (mC M) (mN M) (mT M) :: lw_g, ∀ (a' : Array Value) (U : State), s.WarmedH U.vm → w.before a' U = true := by
  intro w hw a' U hWm
  have hw' : w ∈ lw_g := (List.mem_cons.mp hw).elim (fun e => e ▸ hm.1) id
  exact word_at hWm (good_of_word (List.mem_filter.mp hw').2) (hts w hw')
theorem cb_par {M : Mc_} {n : Nat} (hm : cm_ M n) : ∀ sig, parseMethodDescriptor (mY M).desc = some sig → n = sig.parameters.length := by
  intro sig h
  have h2 := hm.2.2.2
  rw [h] at h2
  exact (Option.some.inj h2).symm
theorem cb_ {M : Mc_} {n idx : Nat} {own : String} {R : Room} {s : State} {args : Array Value} (hts : ∀ w ∈ lw_g, w.before args s = true) (hm : cm_ M n) (hlk : Cond.methodLink own idx (mY M) ∈ lw_g) (hR : (mR M).frames + 1 ≤ R.frames ∧ 8 + (mN M + 11) + (mR M).locals ≤ R.locals) :
    CallB R s args own idx (mY M) (mC M) (mN M) (mT M) (Cond.code (mY M) (mC M) (mN M) (mT M) :: lw_g) (mR M) (mR M).cells (mR M).slots n :=
  ⟨rfl, rfl, hR.1, hR.2, cb_ws hts hm, List.mem_cons_self, hts _ hm.1, hts _ hm.2.1, hm.2.2.1, cb_par hm, hts _ hlk⟩
theorem cb_n {M : Mc_} {n idx : Nat} {own : String} {R : Room} {s : State} {args : Array Value} (hts : ∀ w ∈ lw_g, w.before args s = true) (hm : cm_ M n) (hlk : va_Nw (.methodLinkNest own idx (mY M) "CountyWatch") s) (hR : (mR M).frames + 1 ≤ R.frames ∧ 8 + (mN M + 11) + (mR M).locals ≤ R.locals) :
    va_CN R s args own idx (mY M) "CountyWatch" (mC M) (mN M) (mT M) (Cond.code (mY M) (mC M) (mN M) (mT M) :: lw_g) (mR M) (mR M).cells (mR M).slots n :=
  ⟨⟨rfl, rfl, hR.1, hR.2, cb_ws hts hm, List.mem_cons_self⟩, hts _ hm.1, hts _ hm.2.1, hm.2.2.1, cb_par hm, va_Nw.use rfl hlk⟩
section AWK
variable {M M' : Mc_} {kc ks pc : Nat} {lv : List (Nat × Value)} {vs rest : List Value} {h : Hp_} {K K' : Option Value → Hp_ → Prop} {n idx : Nat}
theorem cat_cv (ad : Nat → Nat) (rest : List Value) : (rest.map (h_cv ad)).map (fun v => v.category) = rest.map (fun v => v.category) := by
  rw [List.map_map]
  exact List.map_congr_left (fun v _ => cv_cat ad v)
theorem aw_callS (hd : decode (mC M) pc = .ok (.invokestatic idx, 3)) (hm : cm_ M' n) (hst : Cond.static (mY M') ∈ lw_g) (hlk : Cond.methodLink (mY M).cls idx (mY M') ∈ lw_g) (hn : vs.length = n) (hR : (mR M').frames + 1 ≤ (mR M).frames ∧ 8 + (mN M' + 11) + (mR M').locals ≤ (mR M).locals) (hc : (rest.map (fun v => v.category)).sum ≤ 8) (hk : kc + (mR M').cells ≤ (mR M).cells ∧ ks + (mR M').slots ≤ (mR M).slots) (hXs : xs_ M)
    (hC : Ct M' vs h K') (k : ∀ v h', K' v h' → AW M (kc + (mR M').cells) (ks + (mR M').slots) (pc + 3) lv (v.toList ++ rest) h' K) : AW M kc ks pc lv (vs.reverse ++ rest) h K := by
  intro l p e s m args below meth c dC dI cy A ad0 adV ad dom0 dom H locs ls hf hX hT hE hW hS hl ho hs
  have hov : ∀ v ∈ vs, h_ok dom v := fun v hv => hs v (List.mem_append_left _ (List.mem_reverse.mpr hv))
  refine aw_back (a := (vs.map (h_cv ad)).toArray) hXs hf hX hT hE hW hS hl ho (fun v hv => hs v (List.mem_append_right _ hv)) ?_ k
  exact va_runS (As := vs.map (h_cv ad)) ⟨hf.1, hf.2.1, hf.2.2.1, hf.2.2.2.2.2.1, hf.2.2.2.2.2.2.2.1⟩ (hC l dC dI cy ad adV dom H.size hW.1 hov) ⟨cb_ hf.2.2.2.2.2.2.2.1 hm hlk hR, hf.2.2.2.2.2.2.2.1 _ hst⟩ ⟨cp_blind, fun U hU hWm => ⟨rfl, cp_pre hf hT hW hS hU hWm⟩⟩ rfl (by rw [List.length_map]; exact hn) hl.1 (by rw [List.map_append, List.map_reverse]) (lv_room (by rw [cat_cv]; exact hc)) hd hk
theorem aw_callSN (hd : decode (mC M) pc = .ok (.invokestatic idx, 3)) (hm : cm_ M' n) (hst : Cond.static (mY M') ∈ lw_g) (hlk : ((mY M).cls, idx, mY M') ∈ h_nest) (hn : vs.length = n) (hR : (mR M').frames + 1 ≤ (mR M).frames ∧ 8 + (mN M' + 11) + (mR M').locals ≤ (mR M).locals) (hc : (rest.map (fun v => v.category)).sum ≤ 8) (hk : kc + (mR M').cells ≤ (mR M).cells ∧ ks + (mR M').slots ≤ (mR M).slots) (hXs : xs_ M)
    (hC : Ct M' vs h K') (k : ∀ v h', K' v h' → AW M (kc + (mR M').cells) (ks + (mR M').slots) (pc + 3) lv (v.toList ++ rest) h' K) : AW M kc ks pc lv (vs.reverse ++ rest) h K := by
  intro l p e s m args below meth c dC dI cy A ad0 adV ad dom0 dom H locs ls hf hX hT hE hW hS hl ho hs
  have hov : ∀ v ∈ vs, h_ok dom v := fun v hv => hs v (List.mem_append_left _ (List.mem_reverse.mpr hv))
  refine aw_back (a := (vs.map (h_cv ad)).toArray) hXs hf hX hT hE hW hS hl ho (fun v hv => hs v (List.mem_append_right _ hv)) ?_ k
  have hcb := cb_n (R := mR M) (s := s) (args := args) hf.2.2.2.2.2.2.2.1 hm (hf.2.2.2.2.2.2.2.2.1.2.1 _ hlk) hR
  exact va_runSN (As := vs.map (h_cv ad)) ⟨hf.1, hf.2.1, hf.2.2.1, hf.2.2.2.2.2.1, hf.2.2.2.2.2.2.2.1⟩ (hC l dC dI cy ad adV dom H.size hW.1 hov) ⟨hcb, hf.2.2.2.2.2.2.2.1 _ hst, trivial⟩ ⟨cp_blind, fun U hU hWm => ⟨rfl, cp_pre hf hT hW hS hU hWm⟩⟩ rfl (by rw [List.length_map]; exact hn) hl.1 (by rw [List.map_append, List.map_reverse]) (lv_room (by rw [cat_cv]; exact hc)) hd hk
theorem aw_callV {ci a N : Nat} {C : String} {T : u_T} (hd : decode (mC M) pc = .ok (.invokevirtual idx, 3)) (hm : cm_ M' n) (hkc : kc_ ci C T N) (hs0 : h_sh h a = some (ci + 10, N)) (hin : Cond.instanceMethod (mY M') ∈ lw_g) (hse : Cond.selects C (mY M') (mY M') ∈ lw_g) (hlk : Cond.methodLink (mY M).cls idx (mY M') ∈ lw_g) (hn : vs.length = n) (hR : (mR M').frames + 1 ≤ (mR M).frames ∧ 8 + (mN M' + 11) + (mR M').locals ≤ (mR M).locals) (hc : (rest.map (fun v => v.category)).sum ≤ 8) (hk : kc + (mR M').cells ≤ (mR M).cells ∧ ks + (mR M').slots ≤ (mR M).slots) (hXs : xs_ M)
    (hC : Ct M' (.ref a :: vs) h K') (k : ∀ v h', K' v h' → AW M (kc + (mR M').cells) (ks + (mR M').slots) (pc + 3) lv (v.toList ++ rest) h' K) : AW M kc ks pc lv (vs.reverse ++ .ref a :: rest) h K := by
  intro l p e s m args below meth c dC dI cy A ad0 adV ad dom0 dom H locs ls hf hX hT hE hW hS hl ho hs
  have hov : ∀ v ∈ Value.ref a :: vs, h_ok dom v := fun v hv => hs v (by
    rcases List.mem_cons.mp hv with z | z
    · exact List.mem_append_right _ (by rw [z]; exact List.mem_cons_self)
    · exact List.mem_append_left _ (List.mem_reverse.mpr z))
  obtain ⟨q, hq, hw⟩ := h_W_get (cy := cy) (ad := ad) (h := h) (wd_in hW hs0)
  rw [h_ce_obj hs0] at hw
  refine aw_back (a := (Value.ref (ad a) :: vs.map (h_cv ad)).toArray) hXs hf hX hT hE hW hS hl ho (fun v hv => hs v (List.mem_append_right _ (List.mem_cons_of_mem _ hv))) ?_ k
  exact va_runV (As := vs.map (h_cv ad)) ⟨hf.1, hf.2.1, hf.2.2.1, hf.2.2.2.2.2.1, hf.2.2.2.2.2.2.2.1⟩ (hC l dC dI cy ad adV dom H.size hW.1 hov) ⟨cb_ hf.2.2.2.2.2.2.2.1 hm hlk hR, hf.2.2.2.2.2.2.2.1 _ hin, hf.2.2.2.2.2.2.2.1 _ hse⟩ ⟨cp_blind, va_recv hf.2.2.2.2.2.2.2.2.1.1 hW.2.1 hkc.1 hw, fun U hU hWm => ⟨rfl, cp_pre hf hT hW hS hU hWm⟩⟩ rfl (by rw [List.length_map]; exact hn) hl.1 (by rw [List.map_append, List.map_reverse]; rfl) (lv_room (by rw [cat_cv]; exact hc)) hd hk
theorem aw_callI {a : Nat} (hd : decode (mC M) pc = .ok (.invokespecial idx, 3)) (hm : cm_ M' n) (hnm : (mY M').name = "<init>" ∧ mT M' = none) (hin : Cond.instanceMethod (mY M') ∈ lw_g) (hlk : Cond.methodLink (mY M).cls idx (mY M') ∈ lw_g) (hn : vs.length = n) (hR : (mR M').frames + 1 ≤ (mR M).frames ∧ 8 + (mN M' + 11) + (mR M').locals ≤ (mR M).locals) (hc : (rest.map (fun v => v.category)).sum ≤ 8) (hk : kc + (mR M').cells ≤ (mR M).cells ∧ ks + (mR M').slots ≤ (mR M).slots) (hXs : xs_ M)
    (hC : Ct M' (.ref a :: vs) h K') (k : ∀ v h', K' v h' → AW M (kc + (mR M').cells) (ks + (mR M').slots) (pc + 3) lv (v.toList ++ rest) h' K) : AW M kc ks pc lv (vs.reverse ++ .ref a :: rest) h K := by
  intro l p e s m args below meth c dC dI cy A ad0 adV ad dom0 dom H locs ls hf hX hT hE hW hS hl ho hs
  have hov : ∀ v ∈ Value.ref a :: vs, h_ok dom v := fun v hv => hs v (by
    rcases List.mem_cons.mp hv with z | z
    · exact List.mem_append_right _ (by rw [z]; exact List.mem_cons_self)
    · exact List.mem_append_left _ (List.mem_reverse.mpr z))
  refine aw_back (a := (Value.ref (ad a) :: vs.map (h_cv ad)).toArray) hXs hf hX hT hE hW hS hl ho (fun v hv => hs v (List.mem_append_right _ (List.mem_cons_of_mem _ hv))) ?_ k
  have hcb := cb_ (R := mR M) (s := s) (args := args) hf.2.2.2.2.2.2.2.1 hm hlk hR
  have hM := hC l dC dI cy ad adV dom H.size hW.1 hov
  rw [hnm.2] at hcb hM
  exact va_runI (As := vs.map (h_cv ad)) ⟨hf.1, hf.2.1, hf.2.2.1, hf.2.2.2.2.2.1, hf.2.2.2.2.2.2.2.1⟩ hM ⟨hcb, hnm.1, hf.2.2.2.2.2.2.2.1 _ hin⟩ ⟨cp_blind, fun U hU hWm => ⟨rfl, cp_pre hf hT hW hS hU hWm⟩⟩ rfl (by rw [List.length_map]; exact hn) hl.1 (by rw [List.map_append, List.map_reverse]; rfl) (lv_room (by rw [cat_cv]; exact hc)) hd hk
theorem aw_callIN {a : Nat} (hd : decode (mC M) pc = .ok (.invokespecial idx, 3)) (hm : cm_ M' n) (hnm : (mY M').name = "<init>" ∧ mT M' = none) (hin : Cond.instanceMethod (mY M') ∈ lw_g) (hlk : ((mY M).cls, idx, mY M') ∈ h_nest) (hn : vs.length = n) (hR : (mR M').frames + 1 ≤ (mR M).frames ∧ 8 + (mN M' + 11) + (mR M').locals ≤ (mR M).locals) (hc : (rest.map (fun v => v.category)).sum ≤ 8) (hk : kc + (mR M').cells ≤ (mR M).cells ∧ ks + (mR M').slots ≤ (mR M).slots) (hXs : xs_ M)
    (hC : Ct M' (.ref a :: vs) h K') (k : ∀ v h', K' v h' → AW M (kc + (mR M').cells) (ks + (mR M').slots) (pc + 3) lv (v.toList ++ rest) h' K) : AW M kc ks pc lv (vs.reverse ++ .ref a :: rest) h K := by
  intro l p e s m args below meth c dC dI cy A ad0 adV ad dom0 dom H locs ls hf hX hT hE hW hS hl ho hs
  have hov : ∀ v ∈ Value.ref a :: vs, h_ok dom v := fun v hv => hs v (by
    rcases List.mem_cons.mp hv with z | z
    · exact List.mem_append_right _ (by rw [z]; exact List.mem_cons_self)
    · exact List.mem_append_left _ (List.mem_reverse.mpr z))
  refine aw_back (a := (Value.ref (ad a) :: vs.map (h_cv ad)).toArray) hXs hf hX hT hE hW hS hl ho (fun v hv => hs v (List.mem_append_right _ (List.mem_cons_of_mem _ hv))) ?_ k
  have hcb := cb_n (R := mR M) (s := s) (args := args) hf.2.2.2.2.2.2.2.1 hm (hf.2.2.2.2.2.2.2.2.1.2.1 _ hlk) hR
  have hM := hC l dC dI cy ad adV dom H.size hW.1 hov
  rw [hnm.2] at hcb hM
  exact va_runIN (As := vs.map (h_cv ad)) ⟨hf.1, hf.2.1, hf.2.2.1, hf.2.2.2.2.2.1, hf.2.2.2.2.2.2.2.1⟩ hM ⟨hcb, hnm.1, hf.2.2.2.2.2.2.2.1 _ hin⟩ ⟨cp_blind, fun U hU hWm => ⟨rfl, cp_pre hf hT hW hS hU hWm⟩⟩ rfl (by rw [List.length_map]; exact hn) hl.1 (by rw [List.map_append, List.map_reverse]; rfl) (lv_room (by rw [cat_cv]; exact hc)) hd hk
theorem aw_objInit {a : Nat} (hd : decode (mC M) pc = .ok (.invokespecial idx, 3)) (hlk : Cond.methodLink (mY M).cls idx objectInit ∈ lw_g) (hin : Cond.instanceMethod objectInit ∈ lw_g) (hcd : Cond.code objectInit ⟨#[0xb1]⟩ 1 none ∈ lw_g) (hfr : 1 ≤ (mR M).frames) (hlo : (rest.map (fun v => v.category)).sum + 12 ≤ (mR M).locals) (k : AW M kc ks (pc + 3) lv rest h K) : AW M kc ks pc lv (.ref a :: rest) h K := by
  intro l p e s m args below meth c dC dI cy A ad0 adV ad dom0 dom H locs ls hf hX hT hE hW hS hl ho hs
  refine W.objInit hf.1 hf.2.1 hf.2.2.2.2.2.1 (hf.2.2.2.2.2.2.2.1 _ hlk) (hf.2.2.2.2.2.2.2.1 _ hin) (hf.2.2.2.2.2.2.2.1 _ hcd) rfl (hl.1.trans hf.2.2.1.symm) rfl hd hfr ?_ (k l p e s m args below meth c dC dI cy A ad0 adV ad dom0 dom H locs ls hf hX hT hE hW hS hl ho (ok_t hs))
  rw [cat_cv]
  exact Nat.le_trans (by simp [JFrame.monitorRoom]) hlo
end AWK
end
section
/-! contracts by what is answered -/
noncomputable def Ci (M : Mc_) (vs : List Value) (h : Hp_) (K : Int32 → Hp_ → Prop) : Prop := Ct M vs h (fun v h' => ∃ r, v = some (.int r) ∧ K r h')
noncomputable def Cv (M : Mc_) (vs : List Value) (h : Hp_) (K : Hp_ → Prop) : Prop := Ct M vs h (fun v h' => v = none ∧ K h')
noncomputable def Cr (M : Mc_) (vs : List Value) (h : Hp_) (K : Option Nat → Hp_ → Prop) : Prop := Ct M vs h (fun v h' => ∃ o, v = some (va_rf o) ∧ K o h')
theorem Met_mono {l : Launch} {y : MethodName} {ws : List Cond} {rm : Room} {Pc : Array Value → State → Prop} {Q1 Q2 : Array Value → State → Outcome → State → Prop} {mc ms : Nat} {free : Addr → Prop} (h : Met l y ws rm Pc Q1 mc ms free) (hQ : ∀ a s o t, Q1 a s o t → Q2 a s o t) : Met l y ws rm Pc Q2 mc ms free := by
  intro p e ha hc hk s m args below hf hp hP hT
  obtain ⟨k, o, h1, h2, h3, h4⟩ := h p e ha hc hk s m args below hf hp hP hT
  exact ⟨k, o, h1, h2, h3, hQ _ _ _ _ h4.1, h4.2⟩
theorem Ct.mono {M : Mc_} {vs : List Value} {h : Hp_} {K K' : Option Value → Hp_ → Prop} (hC : Ct M vs h K) (hK : ∀ v h', K v h' → K' v h') : Ct M vs h K' := by
  intro l dC dI cy ad adV dom sz hdm hok
  refine Met_mono (hC l dC dI cy ad adV dom sz hdm hok) (fun a s o t hq => ?_)
  obtain ⟨⟨v, h', ad', dom', e1, e2, e3⟩, e4⟩ := hq
  exact ⟨⟨v, h', ad', dom', e1, hK _ _ e2, e3⟩, e4⟩
theorem Ci.mono {M : Mc_} {vs : List Value} {h : Hp_} {K K' : Int32 → Hp_ → Prop} (hC : Ci M vs h K) (hK : ∀ r h', K r h' → K' r h') : Ci M vs h K' := Ct.mono hC (fun _ _ ⟨r, e, k⟩ => ⟨r, e, hK _ _ k⟩)
theorem Cv.mono {M : Mc_} {vs : List Value} {h : Hp_} {K K' : Hp_ → Prop} (hC : Cv M vs h K) (hK : ∀ h', K h' → K' h') : Cv M vs h K' := Ct.mono hC (fun _ _ ⟨e, k⟩ => ⟨e, hK _ k⟩)
theorem Cr.mono {M : Mc_} {vs : List Value} {h : Hp_} {K K' : Option Nat → Hp_ → Prop} (hC : Cr M vs h K) (hK : ∀ r h', K r h' → K' r h') : Cr M vs h K' := Ct.mono hC (fun _ _ ⟨r, e, k⟩ => ⟨r, e, hK _ _ k⟩)
theorem AW.mono {M : Mc_} {kc ks pc : Nat} {lv : List (Nat × Value)} {st : List Value} {h : Hp_} {K K' : Option Value → Hp_ → Prop} (hC : AW M kc ks pc lv st h K) (hK : ∀ v h', K v h' → K' v h') : AW M kc ks pc lv st h K' := by
  intro l p e s m args below meth c dC dI cy A ad0 adV ad dom0 dom H locs ls hf hX hT hE hW hS hl ho hs T hT0 X
  obtain ⟨t, h1, o, h2, h3, h4, h5⟩ := hC l p e s m args below meth c dC dI cy A ad0 adV ad dom0 dom H locs ls hf hX hT hE hW hS hl ho hs T hT0 X
  obtain ⟨⟨v, h', ad', dom', e1, e2, e3⟩, e4⟩ := h4
  exact ⟨t, h1, o, h2, h3, ⟨⟨v, h', ad', dom', e1, hK _ _ e2, e3⟩, e4⟩, h5⟩
/-- how a method stands to its caller: room, and the caller's cells -/
noncomputable def rr_ (M' M : Mc_) (kc ks : Nat) : Prop := ((mR M').frames + 1 ≤ (mR M).frames ∧ 8 + (mN M' + 11) + (mR M').locals ≤ (mR M).locals) ∧ kc + (mR M').cells ≤ (mR M).cells ∧ ks + (mR M').slots ≤ (mR M).slots
/-- a static method, an instance method: what the tables say of it -/
noncomputable def cS_ (M : Mc_) (n : Nat) : Prop := cm_ M n ∧ Cond.static (mY M) ∈ lw_g
noncomputable def cV_ (M : Mc_) (n : Nat) : Prop := cm_ M n ∧ Cond.instanceMethod (mY M) ∈ lw_g ∧ Cond.selects (mY M).cls (mY M) (mY M) ∈ lw_g
section AWL
variable {M M' : Mc_} {kc ks pc : Nat} {lv : List (Nat × Value)} {h : Hp_} {K : Option Value → Hp_ → Prop} {n idx : Nat}
theorem aw_Si (vs rest : List Value) (hd : decode (mC M) pc = .ok (.invokestatic idx, 3)) (hm : cS_ M' n) (hlk : Cond.methodLink (mY M).cls idx (mY M') ∈ lw_g) (hn : vs.length = n) (hR : rr_ M' M kc ks) (hc : (rest.map (fun v => v.category)).sum ≤ 8) (hXs : xs_ M) {K' : Int32 → Hp_ → Prop}
    (hC : Ci M' vs h K') (k : ∀ r h', K' r h' → AW M (kc + (mR M').cells) (ks + (mR M').slots) (pc + 3) lv (.int r :: rest) h' K) : AW M kc ks pc lv (vs.reverse ++ rest) h K :=
  aw_callS hd hm.1 hm.2 hlk hn hR.1 hc hR.2 hXs hC (fun _ _ ⟨r, e, w⟩ => e ▸ k r _ w)
theorem aw_SNi (vs rest : List Value) (hd : decode (mC M) pc = .ok (.invokestatic idx, 3)) (hm : cS_ M' n) (hlk : ((mY M).cls, idx, mY M') ∈ h_nest) (hn : vs.length = n) (hR : rr_ M' M kc ks) (hc : (rest.map (fun v => v.category)).sum ≤ 8) (hXs : xs_ M) {K' : Int32 → Hp_ → Prop}
    (hC : Ci M' vs h K') (k : ∀ r h', K' r h' → AW M (kc + (mR M').cells) (ks + (mR M').slots) (pc + 3) lv (.int r :: rest) h' K) : AW M kc ks pc lv (vs.reverse ++ rest) h K :=
  aw_callSN hd hm.1 hm.2 hlk hn hR.1 hc hR.2 hXs hC (fun _ _ ⟨r, e, w⟩ => e ▸ k r _ w)
theorem aw_Sv (vs rest : List Value) (hd : decode (mC M) pc = .ok (.invokestatic idx, 3)) (hm : cS_ M' n) (hlk : Cond.methodLink (mY M).cls idx (mY M') ∈ lw_g) (hn : vs.length = n) (hR : rr_ M' M kc ks) (hc : (rest.map (fun v => v.category)).sum ≤ 8) (hXs : xs_ M) {K' : Hp_ → Prop}
    (hC : Cv M' vs h K') (k : ∀ h', K' h' → AW M (kc + (mR M').cells) (ks + (mR M').slots) (pc + 3) lv rest h' K) : AW M kc ks pc lv (vs.reverse ++ rest) h K :=
  aw_callS hd hm.1 hm.2 hlk hn hR.1 hc hR.2 hXs hC (fun _ _ ⟨e, w⟩ => e ▸ k _ w)
theorem aw_Vi {ci N : Nat} {T : u_T} (a : Nat) (vs rest : List Value) (hd : decode (mC M) pc = .ok (.invokevirtual idx, 3)) (hm : cV_ M' n) (hkc : kc_ ci (mY M').cls T N) (hs0 : h_sh h a = some (ci + 10, N)) (hlk : Cond.methodLink (mY M).cls idx (mY M') ∈ lw_g) (hn : vs.length = n) (hR : rr_ M' M kc ks) (hc : (rest.map (fun v => v.category)).sum ≤ 8) (hXs : xs_ M) {K' : Int32 → Hp_ → Prop}
    (hC : Ci M' (.ref a :: vs) h K') (k : ∀ r h', K' r h' → AW M (kc + (mR M').cells) (ks + (mR M').slots) (pc + 3) lv (.int r :: rest) h' K) : AW M kc ks pc lv (vs.reverse ++ .ref a :: rest) h K :=
  aw_callV hd hm.1 hkc hs0 hm.2.1 hm.2.2 hlk hn hR.1 hc hR.2 hXs hC (fun _ _ ⟨r, e, w⟩ => e ▸ k r _ w)
theorem aw_Vv {ci N : Nat} {T : u_T} (a : Nat) (vs rest : List Value) (hd : decode (mC M) pc = .ok (.invokevirtual idx, 3)) (hm : cV_ M' n) (hkc : kc_ ci (mY M').cls T N) (hs0 : h_sh h a = some (ci + 10, N)) (hlk : Cond.methodLink (mY M).cls idx (mY M') ∈ lw_g) (hn : vs.length = n) (hR : rr_ M' M kc ks) (hc : (rest.map (fun v => v.category)).sum ≤ 8) (hXs : xs_ M) {K' : Hp_ → Prop}
    (hC : Cv M' (.ref a :: vs) h K') (k : ∀ h', K' h' → AW M (kc + (mR M').cells) (ks + (mR M').slots) (pc + 3) lv rest h' K) : AW M kc ks pc lv (vs.reverse ++ .ref a :: rest) h K :=
  aw_callV hd hm.1 hkc hs0 hm.2.1 hm.2.2 hlk hn hR.1 hc hR.2 hXs hC (fun _ _ ⟨e, w⟩ => e ▸ k _ w)
theorem aw_Vr {ci N : Nat} {T : u_T} (a : Nat) (vs rest : List Value) (hd : decode (mC M) pc = .ok (.invokevirtual idx, 3)) (hm : cV_ M' n) (hkc : kc_ ci (mY M').cls T N) (hs0 : h_sh h a = some (ci + 10, N)) (hlk : Cond.methodLink (mY M).cls idx (mY M') ∈ lw_g) (hn : vs.length = n) (hR : rr_ M' M kc ks) (hc : (rest.map (fun v => v.category)).sum ≤ 8) (hXs : xs_ M) {K' : Option Nat → Hp_ → Prop}
    (hC : Cr M' (.ref a :: vs) h K') (k1 : ∀ h', K' none h' → AW M (kc + (mR M').cells) (ks + (mR M').slots) (pc + 3) lv (.null :: rest) h' K) (k2 : ∀ b h', K' (some b) h' → AW M (kc + (mR M').cells) (ks + (mR M').slots) (pc + 3) lv (.ref b :: rest) h' K) : AW M kc ks pc lv (vs.reverse ++ .ref a :: rest) h K :=
  aw_callV hd hm.1 hkc hs0 hm.2.1 hm.2.2 hlk hn hR.1 hc hR.2 hXs hC (fun _ _ ⟨o, e, w⟩ => by
    subst e
    cases o with
    | none => exact k1 _ w
    | some b => exact k2 b _ w)
end AWL
/-- a truth value -/
noncomputable def bI (c : Prop) [Decidable c] : Int32 := if c then 1 else 0
theorem bI_0 {c : Prop} [Decidable c] : bI c = 0 ↔ ¬ c := by unfold bI; by_cases h : c <;> simp [h]
theorem bI_1 {c : Prop} [Decidable c] : bI c = 1 ↔ c := by unfold bI; by_cases h : c <;> simp [h]
theorem bI_n0 {c : Prop} [Decidable c] : ¬ bI c = 0 ↔ c := by rw [bI_0]; exact Decidable.not_not
theorem bI_nar (c : Prop) [Decidable c] : narrow .boolean (.int (bI c)) = .int (bI c) := by unfold bI; split <;> rfl
section AWB
variable {M : Mc_} {kc ks pc : Nat} {lv : List (Nat × Value)} {st : List Value} {h : Hp_} {K : Option Value → Hp_ → Prop}
theorem aw_ifb_eq {c : Prop} [Decidable c] {off : Int} {tgt : Nat} (hd : decode (mC M) pc = .ok (.ifCond .eq off, 3)) (ht : (pc : Int) + off = (tgt : Int)) (k1 : ¬ c → AW M kc ks tgt lv st h K) (k2 : c → AW M kc ks (pc + 3) lv st h K) : AW M kc ks pc lv (.int (bI c) :: st) h K := aw_if_eq hd ht (fun z => k1 (bI_0.mp z)) (fun z => k2 (bI_n0.mp z))
theorem aw_ifb_ne {c : Prop} [Decidable c] {off : Int} {tgt : Nat} (hd : decode (mC M) pc = .ok (.ifCond .ne off, 3)) (ht : (pc : Int) + off = (tgt : Int)) (k1 : c → AW M kc ks tgt lv st h K) (k2 : ¬ c → AW M kc ks (pc + 3) lv st h K) : AW M kc ks pc lv (.int (bI c) :: st) h K := aw_if_ne hd ht (fun z => k1 (bI_n0.mp z)) (fun z => k2 (bI_0.mp z))
end AWB
end
section
/-! where the cells of the class and of the reference lie: numbers, shapes, references that never change -/
noncomputable def shL : List (Nat × Nat × Nat) := [(0, 21, 16), (1, 22, 131), (10, 19, 2), (11, 18, 10), (12, 10, 4), (13, 20, 6), (14, 20, 6), (15, 4, 12), (16, 17, 12), (17, 14, 17), (18, 11, 16), (19, 13, 11), (20, 16, 20), (21, 15, 16), (30, 0, 256), (31, 0, 160), (32, 0, 150), (33, 0, 164), (34, 0, 1800), (35, 0, 12), (36, 0, 12), (37, 0, 20), (38, 0, 20), (39, 0, 20), (40, 0, 3280), (41, 0, 164), (42, 0, 20), (43, 0, 20), (44, 0, 20), (45, 0, 3280), (46, 0, 164), (47, 0, 400), (48, 0, 400), (49, 0, 400), (50, 0, 400), (51, 0, 400), (52, 0, 400), (53, 0, 400), (54, 0, 200), (55, 0, 200), (56, 0, 200), (57, 0, 80), (58, 0, 80), (59, 0, 80), (60, 0, 80), (61, 0, 80), (62, 0, 80), (63, 1, 80), (64, 0, 300), (65, 0, 300), (66, 0, 300), (67, 0, 300), (68, 0, 300), (69, 0, 300), (70, 0, 2700), (71, 0, 30), (72, 0, 30), (73, 0, 30), (74, 0, 10), (75, 0, 8), (76, 0, 200), (77, 0, 200), (78, 0, 16), (79, 0, 180), (80, 0, 180), (81, 0, 180), (82, 0, 8), (83, 0, 8), (84, 0, 30), (85, 0, 8), (86, 0, 8), (87, 0, 64), (88, 0, 2304), (89, 1, 2304), (90, 0, 8), (91, 0, 8), (92, 0, 8), (93, 0, 8), (94, 0, 8), (95, 3, 5), (96, 0, 5), (97, 0, 5), (98, 0, 4), (99, 0, 4), (100, 0, 4), (101, 0, 48), (102, 0, 3328), (103, 0, 12), (104, 0, 40), (105, 0, 40), (106, 0, 40), (107, 0, 40), (108, 0, 6), (109, 0, 168), (110, 0, 168), (111, 0, 600), (112, 0, 600), (113, 0, 600), (114, 0, 600), (115, 0, 48), (200, 0, 40), (201, 0, 40), (202, 0, 40), (203, 0, 16), (204, 0, 12), (205, 0, 12), (206, 0, 12), (207, 0, 12), (208, 0, 12), (209, 0, 12), (210, 0, 12), (211, 0, 12), (212, 0, 12), (213, 0, 12), (214, 0, 12), (215, 0, 12), (216, 0, 12), (217, 0, 12), (218, 0, 12), (219, 0, 12), (220, 2, 240012), (221, 0, 40), (222, 0, 40), (223, 0, 40), (224, 0, 40), (225, 0, 160), (226, 0, 560), (227, 0, 12), (228, 0, 1800), (229, 0, 1800), (230, 0, 1800), (231, 0, 22400), (232, 0, 40), (233, 0, 40), (234, 0, 40), (235, 0, 2), (236, 0, 128), (237, 0, 200), (238, 0, 400), (239, 0, 400), (240, 0, 400), (241, 0, 400), (242, 0, 400), (243, 0, 400), (244, 0, 400), (245, 0, 200), (246, 0, 200), (247, 0, 200), (248, 1, 12), (249, 0, 80), (250, 0, 80), (251, 0, 80), (252, 0, 80), (253, 0, 80), (254, 1, 80), (255, 0, 300), (256, 0, 300), (257, 0, 300), (258, 0, 300), (259, 0, 300), (260, 0, 300), (261, 0, 2700), (262, 0, 30), (263, 0, 30), (264, 0, 10), (265, 0, 8), (266, 0, 200), (267, 0, 200), (268, 0, 200), (269, 0, 200), (270, 1, 200), (271, 0, 16), (272, 1, 16), (273, 0, 180), (274, 0, 180), (275, 0, 180), (276, 0, 30), (277, 0, 30), (278, 0, 8), (279, 0, 8), (280, 0, 2304), (281, 0, 8), (282, 0, 8), (283, 0, 8), (284, 0, 5), (285, 0, 5), (286, 0, 5), (287, 0, 5), (288, 0, 4), (289, 0, 4), (290, 0, 4), (291, 0, 3328), (292, 0, 48), (293, 0, 372), (294, 0, 600), (295, 0, 600), (296, 0, 600), (297, 0, 600), (298, 0, 48), (299, 1, 48)]
noncomputable def rfL : List (Nat × Nat × Nat) := [(0, 1, 10), (0, 2, 11), (0, 3, 12), (0, 4, 13), (0, 5, 14), (0, 6, 15), (0, 8, 16), (0, 9, 17), (0, 10, 18), (0, 11, 19), (0, 12, 20), (0, 13, 21), (1, 2, 200), (1, 3, 201), (1, 4, 202), (1, 5, 203), (1, 8, 204), (1, 9, 205), (1, 10, 206), (1, 11, 207), (1, 12, 208), (1, 13, 209), (1, 14, 210), (1, 15, 211), (1, 16, 212), (1, 17, 213), (1, 18, 214), (1, 19, 215), (1, 20, 216), (1, 21, 217), (1, 22, 218), (1, 23, 219), (1, 24, 220), (1, 25, 221), (1, 26, 222), (1, 27, 223), (1, 28, 224), (1, 30, 225), (1, 31, 226), (1, 38, 227), (1, 39, 228), (1, 40, 229), (1, 41, 230), (1, 45, 231), (1, 46, 232), (1, 47, 233), (1, 48, 234), (1, 49, 235), (1, 50, 236), (1, 51, 237), (1, 53, 238), (1, 54, 239), (1, 55, 240), (1, 56, 241), (1, 57, 242), (1, 58, 243), (1, 59, 244), (1, 60, 245), (1, 61, 246), (1, 62, 247), (1, 65, 248), (1, 66, 249), (1, 67, 250), (1, 68, 251), (1, 69, 252), (1, 70, 253), (1, 71, 254), (1, 72, 255), (1, 73, 256), (1, 74, 257), (1, 75, 258), (1, 76, 259), (1, 77, 260), (1, 78, 261), (1, 81, 262), (1, 82, 263), (1, 83, 264), (1, 84, 265), (1, 85, 266), (1, 86, 267), (1, 87, 268), (1, 88, 269), (1, 89, 270), (1, 90, 271), (1, 91, 272), (1, 92, 273), (1, 93, 274), (1, 94, 275), (1, 95, 276), (1, 98, 277), (1, 99, 278), (1, 100, 279), (1, 104, 280), (1, 105, 281), (1, 106, 282), (1, 107, 283), (1, 109, 284), (1, 110, 285), (1, 111, 286), (1, 112, 287), (1, 116, 288), (1, 117, 289), (1, 118, 290), (1, 120, 291), (1, 121, 292), (1, 122, 293), (1, 123, 294), (1, 124, 295), (1, 125, 296), (1, 126, 297), (1, 128, 298), (1, 129, 299), (10, 0, 30), (11, 0, 31), (11, 5, 32), (11, 8, 33), (12, 0, 34), (12, 1, 35), (12, 2, 36), (13, 0, 37), (13, 1, 38), (13, 2, 39), (13, 3, 40), (13, 4, 41), (14, 0, 42), (14, 1, 43), (14, 2, 44), (14, 3, 45), (14, 4, 46), (16, 0, 47), (16, 1, 48), (16, 2, 49), (16, 3, 50), (16, 4, 51), (16, 5, 52), (16, 6, 53), (16, 8, 54), (16, 9, 55), (16, 10, 56), (17, 0, 57), (17, 1, 58), (17, 2, 59), (17, 3, 60), (17, 4, 61), (17, 5, 62), (17, 6, 63), (17, 9, 64), (17, 10, 65), (17, 11, 66), (17, 12, 67), (17, 13, 68), (17, 14, 69), (17, 15, 70), (18, 0, 71), (18, 1, 72), (18, 2, 73), (18, 4, 74), (18, 5, 75), (18, 6, 76), (18, 7, 77), (18, 9, 78), (18, 10, 79), (18, 11, 80), (18, 12, 81), (18, 13, 82), (18, 14, 83), (18, 15, 84), (19, 0, 85), (19, 1, 86), (19, 6, 87), (19, 7, 88), (19, 8, 89), (19, 9, 90), (19, 10, 91), (20, 0, 92), (20, 1, 93), (20, 2, 94), (20, 4, 95), (20, 5, 96), (20, 6, 97), (20, 13, 98), (20, 14, 99), (20, 15, 100), (20, 17, 101), (20, 18, 102), (20, 19, 103), (21, 0, 104), (21, 1, 105), (21, 2, 106), (21, 3, 107), (21, 5, 108), (21, 6, 109), (21, 7, 110), (21, 8, 111), (21, 9, 112), (21, 10, 113), (21, 11, 114), (21, 14, 115)]
noncomputable def Wf (h : Hp_) : Prop := (∀ q ∈ shL, h_sh h q.1 = some q.2) ∧ ∀ q ∈ rfL, h_r h q.1 q.2.1 = some q.2.2
noncomputable def shq_0 : List (Nat × Nat × Nat) := [(0, 21, 16), (1, 22, 131), (10, 19, 2), (11, 18, 10), (12, 10, 4), (13, 20, 6), (14, 20, 6), (15, 4, 12), (16, 17, 12), (17, 14, 17), (18, 11, 16), (19, 13, 11), (20, 16, 20), (21, 15, 16), (30, 0, 256), (31, 0, 160)]
noncomputable def shq_1 : List (Nat × Nat × Nat) := [(32, 0, 150), (33, 0, 164), (34, 0, 1800), (35, 0, 12), (36, 0, 12), (37, 0, 20), (38, 0, 20), (39, 0, 20), (40, 0, 3280), (41, 0, 164), (42, 0, 20), (43, 0, 20), (44, 0, 20), (45, 0, 3280), (46, 0, 164), (47, 0, 400)]
noncomputable def shq_2 : List (Nat × Nat × Nat) := [(48, 0, 400), (49, 0, 400), (50, 0, 400), (51, 0, 400), (52, 0, 400), (53, 0, 400), (54, 0, 200), (55, 0, 200), (56, 0, 200), (57, 0, 80), (58, 0, 80), (59, 0, 80), (60, 0, 80), (61, 0, 80), (62, 0, 80), (63, 1, 80)]
noncomputable def shq_3 : List (Nat × Nat × Nat) := [(64, 0, 300), (65, 0, 300), (66, 0, 300), (67, 0, 300), (68, 0, 300), (69, 0, 300), (70, 0, 2700), (71, 0, 30), (72, 0, 30), (73, 0, 30), (74, 0, 10), (75, 0, 8), (76, 0, 200), (77, 0, 200), (78, 0, 16), (79, 0, 180)]
noncomputable def shq_4 : List (Nat × Nat × Nat) := [(80, 0, 180), (81, 0, 180), (82, 0, 8), (83, 0, 8), (84, 0, 30), (85, 0, 8), (86, 0, 8), (87, 0, 64), (88, 0, 2304), (89, 1, 2304), (90, 0, 8), (91, 0, 8), (92, 0, 8), (93, 0, 8), (94, 0, 8), (95, 3, 5)]
noncomputable def shq_5 : List (Nat × Nat × Nat) := [(96, 0, 5), (97, 0, 5), (98, 0, 4), (99, 0, 4), (100, 0, 4), (101, 0, 48), (102, 0, 3328), (103, 0, 12), (104, 0, 40), (105, 0, 40), (106, 0, 40), (107, 0, 40), (108, 0, 6), (109, 0, 168), (110, 0, 168), (111, 0, 600)]
noncomputable def shq_6 : List (Nat × Nat × Nat) := [(112, 0, 600), (113, 0, 600), (114, 0, 600), (115, 0, 48), (200, 0, 40), (201, 0, 40), (202, 0, 40), (203, 0, 16), (204, 0, 12), (205, 0, 12), (206, 0, 12), (207, 0, 12), (208, 0, 12), (209, 0, 12), (210, 0, 12), (211, 0, 12)]
noncomputable def shq_7 : List (Nat × Nat × Nat) := [(212, 0, 12), (213, 0, 12), (214, 0, 12), (215, 0, 12), (216, 0, 12), (217, 0, 12), (218, 0, 12), (219, 0, 12), (220, 2, 240012), (221, 0, 40), (222, 0, 40), (223, 0, 40), (224, 0, 40), (225, 0, 160), (226, 0, 560), (227, 0, 12)]
noncomputable def shq_8 : List (Nat × Nat × Nat) := [(228, 0, 1800), (229, 0, 1800), (230, 0, 1800), (231, 0, 22400), (232, 0, 40), (233, 0, 40), (234, 0, 40), (235, 0, 2), (236, 0, 128), (237, 0, 200), (238, 0, 400), (239, 0, 400), (240, 0, 400), (241, 0, 400), (242, 0, 400), (243, 0, 400)]
noncomputable def shq_9 : List (Nat × Nat × Nat) := [(244, 0, 400), (245, 0, 200), (246, 0, 200), (247, 0, 200), (248, 1, 12), (249, 0, 80), (250, 0, 80), (251, 0, 80), (252, 0, 80), (253, 0, 80), (254, 1, 80), (255, 0, 300), (256, 0, 300), (257, 0, 300), (258, 0, 300), (259, 0, 300)]
noncomputable def shq_10 : List (Nat × Nat × Nat) := [(260, 0, 300), (261, 0, 2700), (262, 0, 30), (263, 0, 30), (264, 0, 10), (265, 0, 8), (266, 0, 200), (267, 0, 200), (268, 0, 200), (269, 0, 200), (270, 1, 200), (271, 0, 16), (272, 1, 16), (273, 0, 180), (274, 0, 180), (275, 0, 180)]
noncomputable def shq_11 : List (Nat × Nat × Nat) := [(276, 0, 30), (277, 0, 30), (278, 0, 8), (279, 0, 8), (280, 0, 2304), (281, 0, 8), (282, 0, 8), (283, 0, 8), (284, 0, 5), (285, 0, 5), (286, 0, 5), (287, 0, 5), (288, 0, 4), (289, 0, 4), (290, 0, 4), (291, 0, 3328)]
noncomputable def shq_12 : List (Nat × Nat × Nat) := [(292, 0, 48), (293, 0, 372), (294, 0, 600), (295, 0, 600), (296, 0, 600), (297, 0, 600), (298, 0, 48), (299, 1, 48)]
set_option maxRecDepth 100000 in
theorem shq_e : shL = shq_0 ++ (shq_1 ++ (shq_2 ++ (shq_3 ++ (shq_4 ++ (shq_5 ++ (shq_6 ++ (shq_7 ++ (shq_8 ++ (shq_9 ++ (shq_10 ++ (shq_11 ++ (shq_12)))))))))))) := rfl
theorem shqs_0 {x : Nat × Nat × Nat} (h : x ∈ shq_0) : x ∈ shL := by
  rw [shq_e]
  exact List.mem_append_left _ h
theorem shqs_1 {x : Nat × Nat × Nat} (h : x ∈ shq_1) : x ∈ shL := by
  rw [shq_e]
  exact List.mem_append_right _ (List.mem_append_left _ h)
theorem shqs_2 {x : Nat × Nat × Nat} (h : x ∈ shq_2) : x ∈ shL := by
  rw [shq_e]
  exact List.mem_append_right _ (List.mem_append_right _ (List.mem_append_left _ h))
theorem shqs_3 {x : Nat × Nat × Nat} (h : x ∈ shq_3) : x ∈ shL := by
  rw [shq_e]
  exact List.mem_append_right _ (List.mem_append_right _ (List.mem_append_right _ (List.mem_append_left _ h)))
theorem shqs_5 {x : Nat × Nat × Nat} (h : x ∈ shq_5) : x ∈ shL := by
  rw [shq_e]
  exact List.mem_append_right _ (List.mem_append_right _ (List.mem_append_right _ (List.mem_append_right _ (List.mem_append_right _ (List.mem_append_left _ h)))))
theorem shqs_6 {x : Nat × Nat × Nat} (h : x ∈ shq_6) : x ∈ shL := by
  rw [shq_e]
  exact List.mem_append_right _ (List.mem_append_right _ (List.mem_append_right _ (List.mem_append_right _ (List.mem_append_right _ (List.mem_append_right _ (List.mem_append_left _ h))))))
theorem shqs_7 {x : Nat × Nat × Nat} (h : x ∈ shq_7) : x ∈ shL := by
  rw [shq_e]
  exact List.mem_append_right _ (List.mem_append_right _ (List.mem_append_right _ (List.mem_append_right _ (List.mem_append_right _ (List.mem_append_right _ (List.mem_append_right _ (List.mem_append_left _ h)))))))
theorem shqs_8 {x : Nat × Nat × Nat} (h : x ∈ shq_8) : x ∈ shL := by
  rw [shq_e]
  exact List.mem_append_right _ (List.mem_append_right _ (List.mem_append_right _ (List.mem_append_right _ (List.mem_append_right _ (List.mem_append_right _ (List.mem_append_right _ (List.mem_append_right _ (List.mem_append_left _ h))))))))
theorem shqs_9 {x : Nat × Nat × Nat} (h : x ∈ shq_9) : x ∈ shL := by
  rw [shq_e]
  exact List.mem_append_right _ (List.mem_append_right _ (List.mem_append_right _ (List.mem_append_right _ (List.mem_append_right _ (List.mem_append_right _ (List.mem_append_right _ (List.mem_append_right _ (List.mem_append_right _ (List.mem_append_left _ h)))))))))
theorem shqs_10 {x : Nat × Nat × Nat} (h : x ∈ shq_10) : x ∈ shL := by
  rw [shq_e]
  exact List.mem_append_right _ (List.mem_append_right _ (List.mem_append_right _ (List.mem_append_right _ (List.mem_append_right _ (List.mem_append_right _ (List.mem_append_right _ (List.mem_append_right _ (List.mem_append_right _ (List.mem_append_right _ (List.mem_append_left _ h))))))))))
theorem shqs_11 {x : Nat × Nat × Nat} (h : x ∈ shq_11) : x ∈ shL := by
  rw [shq_e]
  exact List.mem_append_right _ (List.mem_append_right _ (List.mem_append_right _ (List.mem_append_right _ (List.mem_append_right _ (List.mem_append_right _ (List.mem_append_right _ (List.mem_append_right _ (List.mem_append_right _ (List.mem_append_right _ (List.mem_append_right _ (List.mem_append_left _ h)))))))))))
theorem shqs_12 {x : Nat × Nat × Nat} (h : x ∈ shq_12) : x ∈ shL := by
  rw [shq_e]
  exact List.mem_append_right _ (List.mem_append_right _ (List.mem_append_right _ (List.mem_append_right _ (List.mem_append_right _ (List.mem_append_right _ (List.mem_append_right _ (List.mem_append_right _ (List.mem_append_right _ (List.mem_append_right _ (List.mem_append_right _ (List.mem_append_right _ (h))))))))))))
theorem ws_0 {h : Hp_} (w : Wf h) : h_sh h 0 = some (21, 16) := w.1 (0, 21, 16) (shqs_0 (List.mem_of_getElem? (i := 0) rfl))
theorem ws_1 {h : Hp_} (w : Wf h) : h_sh h 1 = some (22, 131) := w.1 (1, 22, 131) (shqs_0 (List.mem_of_getElem? (i := 1) rfl))
theorem ws_10 {h : Hp_} (w : Wf h) : h_sh h 10 = some (19, 2) := w.1 (10, 19, 2) (shqs_0 (List.mem_of_getElem? (i := 2) rfl))
theorem ws_11 {h : Hp_} (w : Wf h) : h_sh h 11 = some (18, 10) := w.1 (11, 18, 10) (shqs_0 (List.mem_of_getElem? (i := 3) rfl))
theorem ws_12 {h : Hp_} (w : Wf h) : h_sh h 12 = some (10, 4) := w.1 (12, 10, 4) (shqs_0 (List.mem_of_getElem? (i := 4) rfl))
theorem ws_13 {h : Hp_} (w : Wf h) : h_sh h 13 = some (20, 6) := w.1 (13, 20, 6) (shqs_0 (List.mem_of_getElem? (i := 5) rfl))
theorem ws_14 {h : Hp_} (w : Wf h) : h_sh h 14 = some (20, 6) := w.1 (14, 20, 6) (shqs_0 (List.mem_of_getElem? (i := 6) rfl))
theorem ws_15 {h : Hp_} (w : Wf h) : h_sh h 15 = some (4, 12) := w.1 (15, 4, 12) (shqs_0 (List.mem_of_getElem? (i := 7) rfl))
theorem ws_16 {h : Hp_} (w : Wf h) : h_sh h 16 = some (17, 12) := w.1 (16, 17, 12) (shqs_0 (List.mem_of_getElem? (i := 8) rfl))
theorem ws_17 {h : Hp_} (w : Wf h) : h_sh h 17 = some (14, 17) := w.1 (17, 14, 17) (shqs_0 (List.mem_of_getElem? (i := 9) rfl))
theorem ws_18 {h : Hp_} (w : Wf h) : h_sh h 18 = some (11, 16) := w.1 (18, 11, 16) (shqs_0 (List.mem_of_getElem? (i := 10) rfl))
theorem ws_19 {h : Hp_} (w : Wf h) : h_sh h 19 = some (13, 11) := w.1 (19, 13, 11) (shqs_0 (List.mem_of_getElem? (i := 11) rfl))
theorem ws_20 {h : Hp_} (w : Wf h) : h_sh h 20 = some (16, 20) := w.1 (20, 16, 20) (shqs_0 (List.mem_of_getElem? (i := 12) rfl))
theorem ws_21 {h : Hp_} (w : Wf h) : h_sh h 21 = some (15, 16) := w.1 (21, 15, 16) (shqs_0 (List.mem_of_getElem? (i := 13) rfl))
theorem ws_30 {h : Hp_} (w : Wf h) : h_sh h 30 = some (0, 256) := w.1 (30, 0, 256) (shqs_0 (List.mem_of_getElem? (i := 14) rfl))
theorem ws_31 {h : Hp_} (w : Wf h) : h_sh h 31 = some (0, 160) := w.1 (31, 0, 160) (shqs_0 (List.mem_of_getElem? (i := 15) rfl))
theorem ws_32 {h : Hp_} (w : Wf h) : h_sh h 32 = some (0, 150) := w.1 (32, 0, 150) (shqs_1 (List.mem_of_getElem? (i := 0) rfl))
theorem ws_33 {h : Hp_} (w : Wf h) : h_sh h 33 = some (0, 164) := w.1 (33, 0, 164) (shqs_1 (List.mem_of_getElem? (i := 1) rfl))
theorem ws_34 {h : Hp_} (w : Wf h) : h_sh h 34 = some (0, 1800) := w.1 (34, 0, 1800) (shqs_1 (List.mem_of_getElem? (i := 2) rfl))
theorem ws_35 {h : Hp_} (w : Wf h) : h_sh h 35 = some (0, 12) := w.1 (35, 0, 12) (shqs_1 (List.mem_of_getElem? (i := 3) rfl))
theorem ws_36 {h : Hp_} (w : Wf h) : h_sh h 36 = some (0, 12) := w.1 (36, 0, 12) (shqs_1 (List.mem_of_getElem? (i := 4) rfl))
theorem ws_37 {h : Hp_} (w : Wf h) : h_sh h 37 = some (0, 20) := w.1 (37, 0, 20) (shqs_1 (List.mem_of_getElem? (i := 5) rfl))
theorem ws_38 {h : Hp_} (w : Wf h) : h_sh h 38 = some (0, 20) := w.1 (38, 0, 20) (shqs_1 (List.mem_of_getElem? (i := 6) rfl))
theorem ws_39 {h : Hp_} (w : Wf h) : h_sh h 39 = some (0, 20) := w.1 (39, 0, 20) (shqs_1 (List.mem_of_getElem? (i := 7) rfl))
theorem ws_40 {h : Hp_} (w : Wf h) : h_sh h 40 = some (0, 3280) := w.1 (40, 0, 3280) (shqs_1 (List.mem_of_getElem? (i := 8) rfl))
theorem ws_41 {h : Hp_} (w : Wf h) : h_sh h 41 = some (0, 164) := w.1 (41, 0, 164) (shqs_1 (List.mem_of_getElem? (i := 9) rfl))
theorem ws_42 {h : Hp_} (w : Wf h) : h_sh h 42 = some (0, 20) := w.1 (42, 0, 20) (shqs_1 (List.mem_of_getElem? (i := 10) rfl))
theorem ws_43 {h : Hp_} (w : Wf h) : h_sh h 43 = some (0, 20) := w.1 (43, 0, 20) (shqs_1 (List.mem_of_getElem? (i := 11) rfl))
theorem ws_44 {h : Hp_} (w : Wf h) : h_sh h 44 = some (0, 20) := w.1 (44, 0, 20) (shqs_1 (List.mem_of_getElem? (i := 12) rfl))
theorem ws_45 {h : Hp_} (w : Wf h) : h_sh h 45 = some (0, 3280) := w.1 (45, 0, 3280) (shqs_1 (List.mem_of_getElem? (i := 13) rfl))
theorem ws_47 {h : Hp_} (w : Wf h) : h_sh h 47 = some (0, 400) := w.1 (47, 0, 400) (shqs_1 (List.mem_of_getElem? (i := 15) rfl))
theorem ws_48 {h : Hp_} (w : Wf h) : h_sh h 48 = some (0, 400) := w.1 (48, 0, 400) (shqs_2 (List.mem_of_getElem? (i := 0) rfl))
theorem ws_49 {h : Hp_} (w : Wf h) : h_sh h 49 = some (0, 400) := w.1 (49, 0, 400) (shqs_2 (List.mem_of_getElem? (i := 1) rfl))
theorem ws_50 {h : Hp_} (w : Wf h) : h_sh h 50 = some (0, 400) := w.1 (50, 0, 400) (shqs_2 (List.mem_of_getElem? (i := 2) rfl))
theorem ws_51 {h : Hp_} (w : Wf h) : h_sh h 51 = some (0, 400) := w.1 (51, 0, 400) (shqs_2 (List.mem_of_getElem? (i := 3) rfl))
theorem ws_52 {h : Hp_} (w : Wf h) : h_sh h 52 = some (0, 400) := w.1 (52, 0, 400) (shqs_2 (List.mem_of_getElem? (i := 4) rfl))
theorem ws_53 {h : Hp_} (w : Wf h) : h_sh h 53 = some (0, 400) := w.1 (53, 0, 400) (shqs_2 (List.mem_of_getElem? (i := 5) rfl))
theorem ws_57 {h : Hp_} (w : Wf h) : h_sh h 57 = some (0, 80) := w.1 (57, 0, 80) (shqs_2 (List.mem_of_getElem? (i := 9) rfl))
theorem ws_58 {h : Hp_} (w : Wf h) : h_sh h 58 = some (0, 80) := w.1 (58, 0, 80) (shqs_2 (List.mem_of_getElem? (i := 10) rfl))
theorem ws_59 {h : Hp_} (w : Wf h) : h_sh h 59 = some (0, 80) := w.1 (59, 0, 80) (shqs_2 (List.mem_of_getElem? (i := 11) rfl))
theorem ws_60 {h : Hp_} (w : Wf h) : h_sh h 60 = some (0, 80) := w.1 (60, 0, 80) (shqs_2 (List.mem_of_getElem? (i := 12) rfl))
theorem ws_61 {h : Hp_} (w : Wf h) : h_sh h 61 = some (0, 80) := w.1 (61, 0, 80) (shqs_2 (List.mem_of_getElem? (i := 13) rfl))
theorem ws_62 {h : Hp_} (w : Wf h) : h_sh h 62 = some (0, 80) := w.1 (62, 0, 80) (shqs_2 (List.mem_of_getElem? (i := 14) rfl))
theorem ws_63 {h : Hp_} (w : Wf h) : h_sh h 63 = some (1, 80) := w.1 (63, 1, 80) (shqs_2 (List.mem_of_getElem? (i := 15) rfl))
theorem ws_64 {h : Hp_} (w : Wf h) : h_sh h 64 = some (0, 300) := w.1 (64, 0, 300) (shqs_3 (List.mem_of_getElem? (i := 0) rfl))
theorem ws_65 {h : Hp_} (w : Wf h) : h_sh h 65 = some (0, 300) := w.1 (65, 0, 300) (shqs_3 (List.mem_of_getElem? (i := 1) rfl))
theorem ws_66 {h : Hp_} (w : Wf h) : h_sh h 66 = some (0, 300) := w.1 (66, 0, 300) (shqs_3 (List.mem_of_getElem? (i := 2) rfl))
theorem ws_67 {h : Hp_} (w : Wf h) : h_sh h 67 = some (0, 300) := w.1 (67, 0, 300) (shqs_3 (List.mem_of_getElem? (i := 3) rfl))
theorem ws_68 {h : Hp_} (w : Wf h) : h_sh h 68 = some (0, 300) := w.1 (68, 0, 300) (shqs_3 (List.mem_of_getElem? (i := 4) rfl))
theorem ws_69 {h : Hp_} (w : Wf h) : h_sh h 69 = some (0, 300) := w.1 (69, 0, 300) (shqs_3 (List.mem_of_getElem? (i := 5) rfl))
theorem ws_70 {h : Hp_} (w : Wf h) : h_sh h 70 = some (0, 2700) := w.1 (70, 0, 2700) (shqs_3 (List.mem_of_getElem? (i := 6) rfl))
theorem ws_71 {h : Hp_} (w : Wf h) : h_sh h 71 = some (0, 30) := w.1 (71, 0, 30) (shqs_3 (List.mem_of_getElem? (i := 7) rfl))
theorem ws_72 {h : Hp_} (w : Wf h) : h_sh h 72 = some (0, 30) := w.1 (72, 0, 30) (shqs_3 (List.mem_of_getElem? (i := 8) rfl))
theorem ws_101 {h : Hp_} (w : Wf h) : h_sh h 101 = some (0, 48) := w.1 (101, 0, 48) (shqs_5 (List.mem_of_getElem? (i := 5) rfl))
theorem ws_102 {h : Hp_} (w : Wf h) : h_sh h 102 = some (0, 3328) := w.1 (102, 0, 3328) (shqs_5 (List.mem_of_getElem? (i := 6) rfl))
theorem ws_103 {h : Hp_} (w : Wf h) : h_sh h 103 = some (0, 12) := w.1 (103, 0, 12) (shqs_5 (List.mem_of_getElem? (i := 7) rfl))
theorem ws_104 {h : Hp_} (w : Wf h) : h_sh h 104 = some (0, 40) := w.1 (104, 0, 40) (shqs_5 (List.mem_of_getElem? (i := 8) rfl))
theorem ws_105 {h : Hp_} (w : Wf h) : h_sh h 105 = some (0, 40) := w.1 (105, 0, 40) (shqs_5 (List.mem_of_getElem? (i := 9) rfl))
theorem ws_106 {h : Hp_} (w : Wf h) : h_sh h 106 = some (0, 40) := w.1 (106, 0, 40) (shqs_5 (List.mem_of_getElem? (i := 10) rfl))
theorem ws_107 {h : Hp_} (w : Wf h) : h_sh h 107 = some (0, 40) := w.1 (107, 0, 40) (shqs_5 (List.mem_of_getElem? (i := 11) rfl))
theorem ws_200 {h : Hp_} (w : Wf h) : h_sh h 200 = some (0, 40) := w.1 (200, 0, 40) (shqs_6 (List.mem_of_getElem? (i := 4) rfl))
theorem ws_201 {h : Hp_} (w : Wf h) : h_sh h 201 = some (0, 40) := w.1 (201, 0, 40) (shqs_6 (List.mem_of_getElem? (i := 5) rfl))
theorem ws_202 {h : Hp_} (w : Wf h) : h_sh h 202 = some (0, 40) := w.1 (202, 0, 40) (shqs_6 (List.mem_of_getElem? (i := 6) rfl))
theorem ws_203 {h : Hp_} (w : Wf h) : h_sh h 203 = some (0, 16) := w.1 (203, 0, 16) (shqs_6 (List.mem_of_getElem? (i := 7) rfl))
theorem ws_204 {h : Hp_} (w : Wf h) : h_sh h 204 = some (0, 12) := w.1 (204, 0, 12) (shqs_6 (List.mem_of_getElem? (i := 8) rfl))
theorem ws_205 {h : Hp_} (w : Wf h) : h_sh h 205 = some (0, 12) := w.1 (205, 0, 12) (shqs_6 (List.mem_of_getElem? (i := 9) rfl))
theorem ws_206 {h : Hp_} (w : Wf h) : h_sh h 206 = some (0, 12) := w.1 (206, 0, 12) (shqs_6 (List.mem_of_getElem? (i := 10) rfl))
theorem ws_207 {h : Hp_} (w : Wf h) : h_sh h 207 = some (0, 12) := w.1 (207, 0, 12) (shqs_6 (List.mem_of_getElem? (i := 11) rfl))
theorem ws_208 {h : Hp_} (w : Wf h) : h_sh h 208 = some (0, 12) := w.1 (208, 0, 12) (shqs_6 (List.mem_of_getElem? (i := 12) rfl))
theorem ws_209 {h : Hp_} (w : Wf h) : h_sh h 209 = some (0, 12) := w.1 (209, 0, 12) (shqs_6 (List.mem_of_getElem? (i := 13) rfl))
theorem ws_210 {h : Hp_} (w : Wf h) : h_sh h 210 = some (0, 12) := w.1 (210, 0, 12) (shqs_6 (List.mem_of_getElem? (i := 14) rfl))
theorem ws_211 {h : Hp_} (w : Wf h) : h_sh h 211 = some (0, 12) := w.1 (211, 0, 12) (shqs_6 (List.mem_of_getElem? (i := 15) rfl))
theorem ws_212 {h : Hp_} (w : Wf h) : h_sh h 212 = some (0, 12) := w.1 (212, 0, 12) (shqs_7 (List.mem_of_getElem? (i := 0) rfl))
theorem ws_213 {h : Hp_} (w : Wf h) : h_sh h 213 = some (0, 12) := w.1 (213, 0, 12) (shqs_7 (List.mem_of_getElem? (i := 1) rfl))
theorem ws_214 {h : Hp_} (w : Wf h) : h_sh h 214 = some (0, 12) := w.1 (214, 0, 12) (shqs_7 (List.mem_of_getElem? (i := 2) rfl))
theorem ws_215 {h : Hp_} (w : Wf h) : h_sh h 215 = some (0, 12) := w.1 (215, 0, 12) (shqs_7 (List.mem_of_getElem? (i := 3) rfl))
theorem ws_216 {h : Hp_} (w : Wf h) : h_sh h 216 = some (0, 12) := w.1 (216, 0, 12) (shqs_7 (List.mem_of_getElem? (i := 4) rfl))
theorem ws_217 {h : Hp_} (w : Wf h) : h_sh h 217 = some (0, 12) := w.1 (217, 0, 12) (shqs_7 (List.mem_of_getElem? (i := 5) rfl))
theorem ws_218 {h : Hp_} (w : Wf h) : h_sh h 218 = some (0, 12) := w.1 (218, 0, 12) (shqs_7 (List.mem_of_getElem? (i := 6) rfl))
theorem ws_219 {h : Hp_} (w : Wf h) : h_sh h 219 = some (0, 12) := w.1 (219, 0, 12) (shqs_7 (List.mem_of_getElem? (i := 7) rfl))
theorem ws_220 {h : Hp_} (w : Wf h) : h_sh h 220 = some (2, 240012) := w.1 (220, 2, 240012) (shqs_7 (List.mem_of_getElem? (i := 8) rfl))
theorem ws_221 {h : Hp_} (w : Wf h) : h_sh h 221 = some (0, 40) := w.1 (221, 0, 40) (shqs_7 (List.mem_of_getElem? (i := 9) rfl))
theorem ws_222 {h : Hp_} (w : Wf h) : h_sh h 222 = some (0, 40) := w.1 (222, 0, 40) (shqs_7 (List.mem_of_getElem? (i := 10) rfl))
theorem ws_223 {h : Hp_} (w : Wf h) : h_sh h 223 = some (0, 40) := w.1 (223, 0, 40) (shqs_7 (List.mem_of_getElem? (i := 11) rfl))
theorem ws_224 {h : Hp_} (w : Wf h) : h_sh h 224 = some (0, 40) := w.1 (224, 0, 40) (shqs_7 (List.mem_of_getElem? (i := 12) rfl))
theorem ws_225 {h : Hp_} (w : Wf h) : h_sh h 225 = some (0, 160) := w.1 (225, 0, 160) (shqs_7 (List.mem_of_getElem? (i := 13) rfl))
theorem ws_226 {h : Hp_} (w : Wf h) : h_sh h 226 = some (0, 560) := w.1 (226, 0, 560) (shqs_7 (List.mem_of_getElem? (i := 14) rfl))
theorem ws_227 {h : Hp_} (w : Wf h) : h_sh h 227 = some (0, 12) := w.1 (227, 0, 12) (shqs_7 (List.mem_of_getElem? (i := 15) rfl))
theorem ws_228 {h : Hp_} (w : Wf h) : h_sh h 228 = some (0, 1800) := w.1 (228, 0, 1800) (shqs_8 (List.mem_of_getElem? (i := 0) rfl))
theorem ws_229 {h : Hp_} (w : Wf h) : h_sh h 229 = some (0, 1800) := w.1 (229, 0, 1800) (shqs_8 (List.mem_of_getElem? (i := 1) rfl))
theorem ws_230 {h : Hp_} (w : Wf h) : h_sh h 230 = some (0, 1800) := w.1 (230, 0, 1800) (shqs_8 (List.mem_of_getElem? (i := 2) rfl))
theorem ws_231 {h : Hp_} (w : Wf h) : h_sh h 231 = some (0, 22400) := w.1 (231, 0, 22400) (shqs_8 (List.mem_of_getElem? (i := 3) rfl))
theorem ws_232 {h : Hp_} (w : Wf h) : h_sh h 232 = some (0, 40) := w.1 (232, 0, 40) (shqs_8 (List.mem_of_getElem? (i := 4) rfl))
theorem ws_233 {h : Hp_} (w : Wf h) : h_sh h 233 = some (0, 40) := w.1 (233, 0, 40) (shqs_8 (List.mem_of_getElem? (i := 5) rfl))
theorem ws_234 {h : Hp_} (w : Wf h) : h_sh h 234 = some (0, 40) := w.1 (234, 0, 40) (shqs_8 (List.mem_of_getElem? (i := 6) rfl))
theorem ws_235 {h : Hp_} (w : Wf h) : h_sh h 235 = some (0, 2) := w.1 (235, 0, 2) (shqs_8 (List.mem_of_getElem? (i := 7) rfl))
theorem ws_236 {h : Hp_} (w : Wf h) : h_sh h 236 = some (0, 128) := w.1 (236, 0, 128) (shqs_8 (List.mem_of_getElem? (i := 8) rfl))
theorem ws_237 {h : Hp_} (w : Wf h) : h_sh h 237 = some (0, 200) := w.1 (237, 0, 200) (shqs_8 (List.mem_of_getElem? (i := 9) rfl))
theorem ws_238 {h : Hp_} (w : Wf h) : h_sh h 238 = some (0, 400) := w.1 (238, 0, 400) (shqs_8 (List.mem_of_getElem? (i := 10) rfl))
theorem ws_239 {h : Hp_} (w : Wf h) : h_sh h 239 = some (0, 400) := w.1 (239, 0, 400) (shqs_8 (List.mem_of_getElem? (i := 11) rfl))
theorem ws_240 {h : Hp_} (w : Wf h) : h_sh h 240 = some (0, 400) := w.1 (240, 0, 400) (shqs_8 (List.mem_of_getElem? (i := 12) rfl))
theorem ws_241 {h : Hp_} (w : Wf h) : h_sh h 241 = some (0, 400) := w.1 (241, 0, 400) (shqs_8 (List.mem_of_getElem? (i := 13) rfl))
theorem ws_242 {h : Hp_} (w : Wf h) : h_sh h 242 = some (0, 400) := w.1 (242, 0, 400) (shqs_8 (List.mem_of_getElem? (i := 14) rfl))
theorem ws_243 {h : Hp_} (w : Wf h) : h_sh h 243 = some (0, 400) := w.1 (243, 0, 400) (shqs_8 (List.mem_of_getElem? (i := 15) rfl))
theorem ws_244 {h : Hp_} (w : Wf h) : h_sh h 244 = some (0, 400) := w.1 (244, 0, 400) (shqs_9 (List.mem_of_getElem? (i := 0) rfl))
theorem ws_245 {h : Hp_} (w : Wf h) : h_sh h 245 = some (0, 200) := w.1 (245, 0, 200) (shqs_9 (List.mem_of_getElem? (i := 1) rfl))
theorem ws_246 {h : Hp_} (w : Wf h) : h_sh h 246 = some (0, 200) := w.1 (246, 0, 200) (shqs_9 (List.mem_of_getElem? (i := 2) rfl))
theorem ws_247 {h : Hp_} (w : Wf h) : h_sh h 247 = some (0, 200) := w.1 (247, 0, 200) (shqs_9 (List.mem_of_getElem? (i := 3) rfl))
theorem ws_248 {h : Hp_} (w : Wf h) : h_sh h 248 = some (1, 12) := w.1 (248, 1, 12) (shqs_9 (List.mem_of_getElem? (i := 4) rfl))
theorem ws_249 {h : Hp_} (w : Wf h) : h_sh h 249 = some (0, 80) := w.1 (249, 0, 80) (shqs_9 (List.mem_of_getElem? (i := 5) rfl))
theorem ws_250 {h : Hp_} (w : Wf h) : h_sh h 250 = some (0, 80) := w.1 (250, 0, 80) (shqs_9 (List.mem_of_getElem? (i := 6) rfl))
theorem ws_251 {h : Hp_} (w : Wf h) : h_sh h 251 = some (0, 80) := w.1 (251, 0, 80) (shqs_9 (List.mem_of_getElem? (i := 7) rfl))
theorem ws_252 {h : Hp_} (w : Wf h) : h_sh h 252 = some (0, 80) := w.1 (252, 0, 80) (shqs_9 (List.mem_of_getElem? (i := 8) rfl))
theorem ws_253 {h : Hp_} (w : Wf h) : h_sh h 253 = some (0, 80) := w.1 (253, 0, 80) (shqs_9 (List.mem_of_getElem? (i := 9) rfl))
theorem ws_254 {h : Hp_} (w : Wf h) : h_sh h 254 = some (1, 80) := w.1 (254, 1, 80) (shqs_9 (List.mem_of_getElem? (i := 10) rfl))
theorem ws_255 {h : Hp_} (w : Wf h) : h_sh h 255 = some (0, 300) := w.1 (255, 0, 300) (shqs_9 (List.mem_of_getElem? (i := 11) rfl))
theorem ws_256 {h : Hp_} (w : Wf h) : h_sh h 256 = some (0, 300) := w.1 (256, 0, 300) (shqs_9 (List.mem_of_getElem? (i := 12) rfl))
theorem ws_257 {h : Hp_} (w : Wf h) : h_sh h 257 = some (0, 300) := w.1 (257, 0, 300) (shqs_9 (List.mem_of_getElem? (i := 13) rfl))
theorem ws_258 {h : Hp_} (w : Wf h) : h_sh h 258 = some (0, 300) := w.1 (258, 0, 300) (shqs_9 (List.mem_of_getElem? (i := 14) rfl))
theorem ws_259 {h : Hp_} (w : Wf h) : h_sh h 259 = some (0, 300) := w.1 (259, 0, 300) (shqs_9 (List.mem_of_getElem? (i := 15) rfl))
theorem ws_260 {h : Hp_} (w : Wf h) : h_sh h 260 = some (0, 300) := w.1 (260, 0, 300) (shqs_10 (List.mem_of_getElem? (i := 0) rfl))
theorem ws_261 {h : Hp_} (w : Wf h) : h_sh h 261 = some (0, 2700) := w.1 (261, 0, 2700) (shqs_10 (List.mem_of_getElem? (i := 1) rfl))
theorem ws_262 {h : Hp_} (w : Wf h) : h_sh h 262 = some (0, 30) := w.1 (262, 0, 30) (shqs_10 (List.mem_of_getElem? (i := 2) rfl))
theorem ws_263 {h : Hp_} (w : Wf h) : h_sh h 263 = some (0, 30) := w.1 (263, 0, 30) (shqs_10 (List.mem_of_getElem? (i := 3) rfl))
theorem ws_281 {h : Hp_} (w : Wf h) : h_sh h 281 = some (0, 8) := w.1 (281, 0, 8) (shqs_11 (List.mem_of_getElem? (i := 5) rfl))
theorem ws_282 {h : Hp_} (w : Wf h) : h_sh h 282 = some (0, 8) := w.1 (282, 0, 8) (shqs_11 (List.mem_of_getElem? (i := 6) rfl))
theorem ws_283 {h : Hp_} (w : Wf h) : h_sh h 283 = some (0, 8) := w.1 (283, 0, 8) (shqs_11 (List.mem_of_getElem? (i := 7) rfl))
theorem ws_284 {h : Hp_} (w : Wf h) : h_sh h 284 = some (0, 5) := w.1 (284, 0, 5) (shqs_11 (List.mem_of_getElem? (i := 8) rfl))
theorem ws_285 {h : Hp_} (w : Wf h) : h_sh h 285 = some (0, 5) := w.1 (285, 0, 5) (shqs_11 (List.mem_of_getElem? (i := 9) rfl))
theorem ws_287 {h : Hp_} (w : Wf h) : h_sh h 287 = some (0, 5) := w.1 (287, 0, 5) (shqs_11 (List.mem_of_getElem? (i := 11) rfl))
theorem ws_291 {h : Hp_} (w : Wf h) : h_sh h 291 = some (0, 3328) := w.1 (291, 0, 3328) (shqs_11 (List.mem_of_getElem? (i := 15) rfl))
theorem ws_292 {h : Hp_} (w : Wf h) : h_sh h 292 = some (0, 48) := w.1 (292, 0, 48) (shqs_12 (List.mem_of_getElem? (i := 0) rfl))
theorem ws_293 {h : Hp_} (w : Wf h) : h_sh h 293 = some (0, 372) := w.1 (293, 0, 372) (shqs_12 (List.mem_of_getElem? (i := 1) rfl))
theorem ws_294 {h : Hp_} (w : Wf h) : h_sh h 294 = some (0, 600) := w.1 (294, 0, 600) (shqs_12 (List.mem_of_getElem? (i := 2) rfl))
theorem ws_295 {h : Hp_} (w : Wf h) : h_sh h 295 = some (0, 600) := w.1 (295, 0, 600) (shqs_12 (List.mem_of_getElem? (i := 3) rfl))
theorem ws_296 {h : Hp_} (w : Wf h) : h_sh h 296 = some (0, 600) := w.1 (296, 0, 600) (shqs_12 (List.mem_of_getElem? (i := 4) rfl))
theorem ws_297 {h : Hp_} (w : Wf h) : h_sh h 297 = some (0, 600) := w.1 (297, 0, 600) (shqs_12 (List.mem_of_getElem? (i := 5) rfl))
noncomputable def rfq_0 : List (Nat × Nat × Nat) := [(0, 1, 10), (0, 2, 11), (0, 3, 12), (0, 4, 13), (0, 5, 14), (0, 6, 15), (0, 8, 16), (0, 9, 17), (0, 10, 18), (0, 11, 19), (0, 12, 20), (0, 13, 21), (1, 2, 200), (1, 3, 201), (1, 4, 202), (1, 5, 203)]
noncomputable def rfq_1 : List (Nat × Nat × Nat) := [(1, 8, 204), (1, 9, 205), (1, 10, 206), (1, 11, 207), (1, 12, 208), (1, 13, 209), (1, 14, 210), (1, 15, 211), (1, 16, 212), (1, 17, 213), (1, 18, 214), (1, 19, 215), (1, 20, 216), (1, 21, 217), (1, 22, 218), (1, 23, 219)]
noncomputable def rfq_2 : List (Nat × Nat × Nat) := [(1, 24, 220), (1, 25, 221), (1, 26, 222), (1, 27, 223), (1, 28, 224), (1, 30, 225), (1, 31, 226), (1, 38, 227), (1, 39, 228), (1, 40, 229), (1, 41, 230), (1, 45, 231), (1, 46, 232), (1, 47, 233), (1, 48, 234), (1, 49, 235)]
noncomputable def rfq_3 : List (Nat × Nat × Nat) := [(1, 50, 236), (1, 51, 237), (1, 53, 238), (1, 54, 239), (1, 55, 240), (1, 56, 241), (1, 57, 242), (1, 58, 243), (1, 59, 244), (1, 60, 245), (1, 61, 246), (1, 62, 247), (1, 65, 248), (1, 66, 249), (1, 67, 250), (1, 68, 251)]
noncomputable def rfq_4 : List (Nat × Nat × Nat) := [(1, 69, 252), (1, 70, 253), (1, 71, 254), (1, 72, 255), (1, 73, 256), (1, 74, 257), (1, 75, 258), (1, 76, 259), (1, 77, 260), (1, 78, 261), (1, 81, 262), (1, 82, 263), (1, 83, 264), (1, 84, 265), (1, 85, 266), (1, 86, 267)]
noncomputable def rfq_5 : List (Nat × Nat × Nat) := [(1, 87, 268), (1, 88, 269), (1, 89, 270), (1, 90, 271), (1, 91, 272), (1, 92, 273), (1, 93, 274), (1, 94, 275), (1, 95, 276), (1, 98, 277), (1, 99, 278), (1, 100, 279), (1, 104, 280), (1, 105, 281), (1, 106, 282), (1, 107, 283)]
noncomputable def rfq_6 : List (Nat × Nat × Nat) := [(1, 109, 284), (1, 110, 285), (1, 111, 286), (1, 112, 287), (1, 116, 288), (1, 117, 289), (1, 118, 290), (1, 120, 291), (1, 121, 292), (1, 122, 293), (1, 123, 294), (1, 124, 295), (1, 125, 296), (1, 126, 297), (1, 128, 298), (1, 129, 299)]
noncomputable def rfq_7 : List (Nat × Nat × Nat) := [(10, 0, 30), (11, 0, 31), (11, 5, 32), (11, 8, 33), (12, 0, 34), (12, 1, 35), (12, 2, 36), (13, 0, 37), (13, 1, 38), (13, 2, 39), (13, 3, 40), (13, 4, 41), (14, 0, 42), (14, 1, 43), (14, 2, 44), (14, 3, 45)]
noncomputable def rfq_8 : List (Nat × Nat × Nat) := [(14, 4, 46), (16, 0, 47), (16, 1, 48), (16, 2, 49), (16, 3, 50), (16, 4, 51), (16, 5, 52), (16, 6, 53), (16, 8, 54), (16, 9, 55), (16, 10, 56), (17, 0, 57), (17, 1, 58), (17, 2, 59), (17, 3, 60), (17, 4, 61)]
noncomputable def rfq_9 : List (Nat × Nat × Nat) := [(17, 5, 62), (17, 6, 63), (17, 9, 64), (17, 10, 65), (17, 11, 66), (17, 12, 67), (17, 13, 68), (17, 14, 69), (17, 15, 70), (18, 0, 71), (18, 1, 72), (18, 2, 73), (18, 4, 74), (18, 5, 75), (18, 6, 76), (18, 7, 77)]
noncomputable def rfq_10 : List (Nat × Nat × Nat) := [(18, 9, 78), (18, 10, 79), (18, 11, 80), (18, 12, 81), (18, 13, 82), (18, 14, 83), (18, 15, 84), (19, 0, 85), (19, 1, 86), (19, 6, 87), (19, 7, 88), (19, 8, 89), (19, 9, 90), (19, 10, 91), (20, 0, 92), (20, 1, 93)]
noncomputable def rfq_11 : List (Nat × Nat × Nat) := [(20, 2, 94), (20, 4, 95), (20, 5, 96), (20, 6, 97), (20, 13, 98), (20, 14, 99), (20, 15, 100), (20, 17, 101), (20, 18, 102), (20, 19, 103), (21, 0, 104), (21, 1, 105), (21, 2, 106), (21, 3, 107), (21, 5, 108), (21, 6, 109)]
noncomputable def rfq_12 : List (Nat × Nat × Nat) := [(21, 7, 110), (21, 8, 111), (21, 9, 112), (21, 10, 113), (21, 11, 114), (21, 14, 115)]
set_option maxRecDepth 100000 in
theorem rfq_e : rfL = rfq_0 ++ (rfq_1 ++ (rfq_2 ++ (rfq_3 ++ (rfq_4 ++ (rfq_5 ++ (rfq_6 ++ (rfq_7 ++ (rfq_8 ++ (rfq_9 ++ (rfq_10 ++ (rfq_11 ++ (rfq_12)))))))))))) := rfl
theorem rfqs_0 {x : Nat × Nat × Nat} (h : x ∈ rfq_0) : x ∈ rfL := by
  rw [rfq_e]
  exact List.mem_append_left _ h
theorem rfqs_1 {x : Nat × Nat × Nat} (h : x ∈ rfq_1) : x ∈ rfL := by
  rw [rfq_e]
  exact List.mem_append_right _ (List.mem_append_left _ h)
theorem rfqs_2 {x : Nat × Nat × Nat} (h : x ∈ rfq_2) : x ∈ rfL := by
  rw [rfq_e]
  exact List.mem_append_right _ (List.mem_append_right _ (List.mem_append_left _ h))
theorem rfqs_3 {x : Nat × Nat × Nat} (h : x ∈ rfq_3) : x ∈ rfL := by
  rw [rfq_e]
  exact List.mem_append_right _ (List.mem_append_right _ (List.mem_append_right _ (List.mem_append_left _ h)))
theorem rfqs_4 {x : Nat × Nat × Nat} (h : x ∈ rfq_4) : x ∈ rfL := by
  rw [rfq_e]
  exact List.mem_append_right _ (List.mem_append_right _ (List.mem_append_right _ (List.mem_append_right _ (List.mem_append_left _ h))))
theorem rfqs_5 {x : Nat × Nat × Nat} (h : x ∈ rfq_5) : x ∈ rfL := by
  rw [rfq_e]
  exact List.mem_append_right _ (List.mem_append_right _ (List.mem_append_right _ (List.mem_append_right _ (List.mem_append_right _ (List.mem_append_left _ h)))))
theorem rfqs_6 {x : Nat × Nat × Nat} (h : x ∈ rfq_6) : x ∈ rfL := by
  rw [rfq_e]
  exact List.mem_append_right _ (List.mem_append_right _ (List.mem_append_right _ (List.mem_append_right _ (List.mem_append_right _ (List.mem_append_right _ (List.mem_append_left _ h))))))
theorem rfqs_7 {x : Nat × Nat × Nat} (h : x ∈ rfq_7) : x ∈ rfL := by
  rw [rfq_e]
  exact List.mem_append_right _ (List.mem_append_right _ (List.mem_append_right _ (List.mem_append_right _ (List.mem_append_right _ (List.mem_append_right _ (List.mem_append_right _ (List.mem_append_left _ h)))))))
theorem rfqs_8 {x : Nat × Nat × Nat} (h : x ∈ rfq_8) : x ∈ rfL := by
  rw [rfq_e]
  exact List.mem_append_right _ (List.mem_append_right _ (List.mem_append_right _ (List.mem_append_right _ (List.mem_append_right _ (List.mem_append_right _ (List.mem_append_right _ (List.mem_append_right _ (List.mem_append_left _ h))))))))
theorem rfqs_9 {x : Nat × Nat × Nat} (h : x ∈ rfq_9) : x ∈ rfL := by
  rw [rfq_e]
  exact List.mem_append_right _ (List.mem_append_right _ (List.mem_append_right _ (List.mem_append_right _ (List.mem_append_right _ (List.mem_append_right _ (List.mem_append_right _ (List.mem_append_right _ (List.mem_append_right _ (List.mem_append_left _ h)))))))))
theorem rfqs_11 {x : Nat × Nat × Nat} (h : x ∈ rfq_11) : x ∈ rfL := by
  rw [rfq_e]
  exact List.mem_append_right _ (List.mem_append_right _ (List.mem_append_right _ (List.mem_append_right _ (List.mem_append_right _ (List.mem_append_right _ (List.mem_append_right _ (List.mem_append_right _ (List.mem_append_right _ (List.mem_append_right _ (List.mem_append_right _ (List.mem_append_left _ h)))))))))))
theorem wr_0_1 {h : Hp_} (w : Wf h) : h_r h 0 1 = some 10 := w.2 (0, 1, 10) (rfqs_0 (List.mem_of_getElem? (i := 0) rfl))
theorem wr_0_2 {h : Hp_} (w : Wf h) : h_r h 0 2 = some 11 := w.2 (0, 2, 11) (rfqs_0 (List.mem_of_getElem? (i := 1) rfl))
theorem wr_0_3 {h : Hp_} (w : Wf h) : h_r h 0 3 = some 12 := w.2 (0, 3, 12) (rfqs_0 (List.mem_of_getElem? (i := 2) rfl))
theorem wr_0_4 {h : Hp_} (w : Wf h) : h_r h 0 4 = some 13 := w.2 (0, 4, 13) (rfqs_0 (List.mem_of_getElem? (i := 3) rfl))
theorem wr_0_5 {h : Hp_} (w : Wf h) : h_r h 0 5 = some 14 := w.2 (0, 5, 14) (rfqs_0 (List.mem_of_getElem? (i := 4) rfl))
theorem wr_0_6 {h : Hp_} (w : Wf h) : h_r h 0 6 = some 15 := w.2 (0, 6, 15) (rfqs_0 (List.mem_of_getElem? (i := 5) rfl))
theorem wr_0_8 {h : Hp_} (w : Wf h) : h_r h 0 8 = some 16 := w.2 (0, 8, 16) (rfqs_0 (List.mem_of_getElem? (i := 6) rfl))
theorem wr_0_9 {h : Hp_} (w : Wf h) : h_r h 0 9 = some 17 := w.2 (0, 9, 17) (rfqs_0 (List.mem_of_getElem? (i := 7) rfl))
theorem wr_0_10 {h : Hp_} (w : Wf h) : h_r h 0 10 = some 18 := w.2 (0, 10, 18) (rfqs_0 (List.mem_of_getElem? (i := 8) rfl))
theorem wr_0_13 {h : Hp_} (w : Wf h) : h_r h 0 13 = some 21 := w.2 (0, 13, 21) (rfqs_0 (List.mem_of_getElem? (i := 11) rfl))
theorem wr_1_2 {h : Hp_} (w : Wf h) : h_r h 1 2 = some 200 := w.2 (1, 2, 200) (rfqs_0 (List.mem_of_getElem? (i := 12) rfl))
theorem wr_1_3 {h : Hp_} (w : Wf h) : h_r h 1 3 = some 201 := w.2 (1, 3, 201) (rfqs_0 (List.mem_of_getElem? (i := 13) rfl))
theorem wr_1_4 {h : Hp_} (w : Wf h) : h_r h 1 4 = some 202 := w.2 (1, 4, 202) (rfqs_0 (List.mem_of_getElem? (i := 14) rfl))
theorem wr_1_5 {h : Hp_} (w : Wf h) : h_r h 1 5 = some 203 := w.2 (1, 5, 203) (rfqs_0 (List.mem_of_getElem? (i := 15) rfl))
theorem wr_1_8 {h : Hp_} (w : Wf h) : h_r h 1 8 = some 204 := w.2 (1, 8, 204) (rfqs_1 (List.mem_of_getElem? (i := 0) rfl))
theorem wr_1_9 {h : Hp_} (w : Wf h) : h_r h 1 9 = some 205 := w.2 (1, 9, 205) (rfqs_1 (List.mem_of_getElem? (i := 1) rfl))
theorem wr_1_10 {h : Hp_} (w : Wf h) : h_r h 1 10 = some 206 := w.2 (1, 10, 206) (rfqs_1 (List.mem_of_getElem? (i := 2) rfl))
theorem wr_1_11 {h : Hp_} (w : Wf h) : h_r h 1 11 = some 207 := w.2 (1, 11, 207) (rfqs_1 (List.mem_of_getElem? (i := 3) rfl))
theorem wr_1_12 {h : Hp_} (w : Wf h) : h_r h 1 12 = some 208 := w.2 (1, 12, 208) (rfqs_1 (List.mem_of_getElem? (i := 4) rfl))
theorem wr_1_13 {h : Hp_} (w : Wf h) : h_r h 1 13 = some 209 := w.2 (1, 13, 209) (rfqs_1 (List.mem_of_getElem? (i := 5) rfl))
theorem wr_1_14 {h : Hp_} (w : Wf h) : h_r h 1 14 = some 210 := w.2 (1, 14, 210) (rfqs_1 (List.mem_of_getElem? (i := 6) rfl))
theorem wr_1_15 {h : Hp_} (w : Wf h) : h_r h 1 15 = some 211 := w.2 (1, 15, 211) (rfqs_1 (List.mem_of_getElem? (i := 7) rfl))
theorem wr_1_16 {h : Hp_} (w : Wf h) : h_r h 1 16 = some 212 := w.2 (1, 16, 212) (rfqs_1 (List.mem_of_getElem? (i := 8) rfl))
theorem wr_1_17 {h : Hp_} (w : Wf h) : h_r h 1 17 = some 213 := w.2 (1, 17, 213) (rfqs_1 (List.mem_of_getElem? (i := 9) rfl))
theorem wr_1_18 {h : Hp_} (w : Wf h) : h_r h 1 18 = some 214 := w.2 (1, 18, 214) (rfqs_1 (List.mem_of_getElem? (i := 10) rfl))
theorem wr_1_19 {h : Hp_} (w : Wf h) : h_r h 1 19 = some 215 := w.2 (1, 19, 215) (rfqs_1 (List.mem_of_getElem? (i := 11) rfl))
theorem wr_1_20 {h : Hp_} (w : Wf h) : h_r h 1 20 = some 216 := w.2 (1, 20, 216) (rfqs_1 (List.mem_of_getElem? (i := 12) rfl))
theorem wr_1_21 {h : Hp_} (w : Wf h) : h_r h 1 21 = some 217 := w.2 (1, 21, 217) (rfqs_1 (List.mem_of_getElem? (i := 13) rfl))
theorem wr_1_22 {h : Hp_} (w : Wf h) : h_r h 1 22 = some 218 := w.2 (1, 22, 218) (rfqs_1 (List.mem_of_getElem? (i := 14) rfl))
theorem wr_1_23 {h : Hp_} (w : Wf h) : h_r h 1 23 = some 219 := w.2 (1, 23, 219) (rfqs_1 (List.mem_of_getElem? (i := 15) rfl))
theorem wr_1_24 {h : Hp_} (w : Wf h) : h_r h 1 24 = some 220 := w.2 (1, 24, 220) (rfqs_2 (List.mem_of_getElem? (i := 0) rfl))
theorem wr_1_25 {h : Hp_} (w : Wf h) : h_r h 1 25 = some 221 := w.2 (1, 25, 221) (rfqs_2 (List.mem_of_getElem? (i := 1) rfl))
theorem wr_1_26 {h : Hp_} (w : Wf h) : h_r h 1 26 = some 222 := w.2 (1, 26, 222) (rfqs_2 (List.mem_of_getElem? (i := 2) rfl))
theorem wr_1_27 {h : Hp_} (w : Wf h) : h_r h 1 27 = some 223 := w.2 (1, 27, 223) (rfqs_2 (List.mem_of_getElem? (i := 3) rfl))
theorem wr_1_28 {h : Hp_} (w : Wf h) : h_r h 1 28 = some 224 := w.2 (1, 28, 224) (rfqs_2 (List.mem_of_getElem? (i := 4) rfl))
theorem wr_1_30 {h : Hp_} (w : Wf h) : h_r h 1 30 = some 225 := w.2 (1, 30, 225) (rfqs_2 (List.mem_of_getElem? (i := 5) rfl))
theorem wr_1_31 {h : Hp_} (w : Wf h) : h_r h 1 31 = some 226 := w.2 (1, 31, 226) (rfqs_2 (List.mem_of_getElem? (i := 6) rfl))
theorem wr_1_38 {h : Hp_} (w : Wf h) : h_r h 1 38 = some 227 := w.2 (1, 38, 227) (rfqs_2 (List.mem_of_getElem? (i := 7) rfl))
theorem wr_1_39 {h : Hp_} (w : Wf h) : h_r h 1 39 = some 228 := w.2 (1, 39, 228) (rfqs_2 (List.mem_of_getElem? (i := 8) rfl))
theorem wr_1_40 {h : Hp_} (w : Wf h) : h_r h 1 40 = some 229 := w.2 (1, 40, 229) (rfqs_2 (List.mem_of_getElem? (i := 9) rfl))
theorem wr_1_41 {h : Hp_} (w : Wf h) : h_r h 1 41 = some 230 := w.2 (1, 41, 230) (rfqs_2 (List.mem_of_getElem? (i := 10) rfl))
theorem wr_1_45 {h : Hp_} (w : Wf h) : h_r h 1 45 = some 231 := w.2 (1, 45, 231) (rfqs_2 (List.mem_of_getElem? (i := 11) rfl))
theorem wr_1_46 {h : Hp_} (w : Wf h) : h_r h 1 46 = some 232 := w.2 (1, 46, 232) (rfqs_2 (List.mem_of_getElem? (i := 12) rfl))
theorem wr_1_47 {h : Hp_} (w : Wf h) : h_r h 1 47 = some 233 := w.2 (1, 47, 233) (rfqs_2 (List.mem_of_getElem? (i := 13) rfl))
theorem wr_1_48 {h : Hp_} (w : Wf h) : h_r h 1 48 = some 234 := w.2 (1, 48, 234) (rfqs_2 (List.mem_of_getElem? (i := 14) rfl))
theorem wr_1_49 {h : Hp_} (w : Wf h) : h_r h 1 49 = some 235 := w.2 (1, 49, 235) (rfqs_2 (List.mem_of_getElem? (i := 15) rfl))
theorem wr_1_50 {h : Hp_} (w : Wf h) : h_r h 1 50 = some 236 := w.2 (1, 50, 236) (rfqs_3 (List.mem_of_getElem? (i := 0) rfl))
theorem wr_1_51 {h : Hp_} (w : Wf h) : h_r h 1 51 = some 237 := w.2 (1, 51, 237) (rfqs_3 (List.mem_of_getElem? (i := 1) rfl))
theorem wr_1_53 {h : Hp_} (w : Wf h) : h_r h 1 53 = some 238 := w.2 (1, 53, 238) (rfqs_3 (List.mem_of_getElem? (i := 2) rfl))
theorem wr_1_54 {h : Hp_} (w : Wf h) : h_r h 1 54 = some 239 := w.2 (1, 54, 239) (rfqs_3 (List.mem_of_getElem? (i := 3) rfl))
theorem wr_1_55 {h : Hp_} (w : Wf h) : h_r h 1 55 = some 240 := w.2 (1, 55, 240) (rfqs_3 (List.mem_of_getElem? (i := 4) rfl))
theorem wr_1_56 {h : Hp_} (w : Wf h) : h_r h 1 56 = some 241 := w.2 (1, 56, 241) (rfqs_3 (List.mem_of_getElem? (i := 5) rfl))
theorem wr_1_57 {h : Hp_} (w : Wf h) : h_r h 1 57 = some 242 := w.2 (1, 57, 242) (rfqs_3 (List.mem_of_getElem? (i := 6) rfl))
theorem wr_1_58 {h : Hp_} (w : Wf h) : h_r h 1 58 = some 243 := w.2 (1, 58, 243) (rfqs_3 (List.mem_of_getElem? (i := 7) rfl))
theorem wr_1_59 {h : Hp_} (w : Wf h) : h_r h 1 59 = some 244 := w.2 (1, 59, 244) (rfqs_3 (List.mem_of_getElem? (i := 8) rfl))
theorem wr_1_60 {h : Hp_} (w : Wf h) : h_r h 1 60 = some 245 := w.2 (1, 60, 245) (rfqs_3 (List.mem_of_getElem? (i := 9) rfl))
theorem wr_1_61 {h : Hp_} (w : Wf h) : h_r h 1 61 = some 246 := w.2 (1, 61, 246) (rfqs_3 (List.mem_of_getElem? (i := 10) rfl))
theorem wr_1_62 {h : Hp_} (w : Wf h) : h_r h 1 62 = some 247 := w.2 (1, 62, 247) (rfqs_3 (List.mem_of_getElem? (i := 11) rfl))
theorem wr_1_65 {h : Hp_} (w : Wf h) : h_r h 1 65 = some 248 := w.2 (1, 65, 248) (rfqs_3 (List.mem_of_getElem? (i := 12) rfl))
theorem wr_1_66 {h : Hp_} (w : Wf h) : h_r h 1 66 = some 249 := w.2 (1, 66, 249) (rfqs_3 (List.mem_of_getElem? (i := 13) rfl))
theorem wr_1_67 {h : Hp_} (w : Wf h) : h_r h 1 67 = some 250 := w.2 (1, 67, 250) (rfqs_3 (List.mem_of_getElem? (i := 14) rfl))
theorem wr_1_68 {h : Hp_} (w : Wf h) : h_r h 1 68 = some 251 := w.2 (1, 68, 251) (rfqs_3 (List.mem_of_getElem? (i := 15) rfl))
theorem wr_1_69 {h : Hp_} (w : Wf h) : h_r h 1 69 = some 252 := w.2 (1, 69, 252) (rfqs_4 (List.mem_of_getElem? (i := 0) rfl))
theorem wr_1_70 {h : Hp_} (w : Wf h) : h_r h 1 70 = some 253 := w.2 (1, 70, 253) (rfqs_4 (List.mem_of_getElem? (i := 1) rfl))
theorem wr_1_71 {h : Hp_} (w : Wf h) : h_r h 1 71 = some 254 := w.2 (1, 71, 254) (rfqs_4 (List.mem_of_getElem? (i := 2) rfl))
theorem wr_1_72 {h : Hp_} (w : Wf h) : h_r h 1 72 = some 255 := w.2 (1, 72, 255) (rfqs_4 (List.mem_of_getElem? (i := 3) rfl))
theorem wr_1_73 {h : Hp_} (w : Wf h) : h_r h 1 73 = some 256 := w.2 (1, 73, 256) (rfqs_4 (List.mem_of_getElem? (i := 4) rfl))
theorem wr_1_74 {h : Hp_} (w : Wf h) : h_r h 1 74 = some 257 := w.2 (1, 74, 257) (rfqs_4 (List.mem_of_getElem? (i := 5) rfl))
theorem wr_1_75 {h : Hp_} (w : Wf h) : h_r h 1 75 = some 258 := w.2 (1, 75, 258) (rfqs_4 (List.mem_of_getElem? (i := 6) rfl))
theorem wr_1_76 {h : Hp_} (w : Wf h) : h_r h 1 76 = some 259 := w.2 (1, 76, 259) (rfqs_4 (List.mem_of_getElem? (i := 7) rfl))
theorem wr_1_77 {h : Hp_} (w : Wf h) : h_r h 1 77 = some 260 := w.2 (1, 77, 260) (rfqs_4 (List.mem_of_getElem? (i := 8) rfl))
theorem wr_1_78 {h : Hp_} (w : Wf h) : h_r h 1 78 = some 261 := w.2 (1, 78, 261) (rfqs_4 (List.mem_of_getElem? (i := 9) rfl))
theorem wr_1_81 {h : Hp_} (w : Wf h) : h_r h 1 81 = some 262 := w.2 (1, 81, 262) (rfqs_4 (List.mem_of_getElem? (i := 10) rfl))
theorem wr_1_82 {h : Hp_} (w : Wf h) : h_r h 1 82 = some 263 := w.2 (1, 82, 263) (rfqs_4 (List.mem_of_getElem? (i := 11) rfl))
theorem wr_1_105 {h : Hp_} (w : Wf h) : h_r h 1 105 = some 281 := w.2 (1, 105, 281) (rfqs_5 (List.mem_of_getElem? (i := 13) rfl))
theorem wr_1_106 {h : Hp_} (w : Wf h) : h_r h 1 106 = some 282 := w.2 (1, 106, 282) (rfqs_5 (List.mem_of_getElem? (i := 14) rfl))
theorem wr_1_107 {h : Hp_} (w : Wf h) : h_r h 1 107 = some 283 := w.2 (1, 107, 283) (rfqs_5 (List.mem_of_getElem? (i := 15) rfl))
theorem wr_1_109 {h : Hp_} (w : Wf h) : h_r h 1 109 = some 284 := w.2 (1, 109, 284) (rfqs_6 (List.mem_of_getElem? (i := 0) rfl))
theorem wr_1_110 {h : Hp_} (w : Wf h) : h_r h 1 110 = some 285 := w.2 (1, 110, 285) (rfqs_6 (List.mem_of_getElem? (i := 1) rfl))
theorem wr_1_112 {h : Hp_} (w : Wf h) : h_r h 1 112 = some 287 := w.2 (1, 112, 287) (rfqs_6 (List.mem_of_getElem? (i := 3) rfl))
theorem wr_1_120 {h : Hp_} (w : Wf h) : h_r h 1 120 = some 291 := w.2 (1, 120, 291) (rfqs_6 (List.mem_of_getElem? (i := 7) rfl))
theorem wr_1_121 {h : Hp_} (w : Wf h) : h_r h 1 121 = some 292 := w.2 (1, 121, 292) (rfqs_6 (List.mem_of_getElem? (i := 8) rfl))
theorem wr_1_122 {h : Hp_} (w : Wf h) : h_r h 1 122 = some 293 := w.2 (1, 122, 293) (rfqs_6 (List.mem_of_getElem? (i := 9) rfl))
theorem wr_1_123 {h : Hp_} (w : Wf h) : h_r h 1 123 = some 294 := w.2 (1, 123, 294) (rfqs_6 (List.mem_of_getElem? (i := 10) rfl))
theorem wr_1_124 {h : Hp_} (w : Wf h) : h_r h 1 124 = some 295 := w.2 (1, 124, 295) (rfqs_6 (List.mem_of_getElem? (i := 11) rfl))
theorem wr_1_125 {h : Hp_} (w : Wf h) : h_r h 1 125 = some 296 := w.2 (1, 125, 296) (rfqs_6 (List.mem_of_getElem? (i := 12) rfl))
theorem wr_1_126 {h : Hp_} (w : Wf h) : h_r h 1 126 = some 297 := w.2 (1, 126, 297) (rfqs_6 (List.mem_of_getElem? (i := 13) rfl))
theorem wr_10_0 {h : Hp_} (w : Wf h) : h_r h 10 0 = some 30 := w.2 (10, 0, 30) (rfqs_7 (List.mem_of_getElem? (i := 0) rfl))
theorem wr_11_0 {h : Hp_} (w : Wf h) : h_r h 11 0 = some 31 := w.2 (11, 0, 31) (rfqs_7 (List.mem_of_getElem? (i := 1) rfl))
theorem wr_11_5 {h : Hp_} (w : Wf h) : h_r h 11 5 = some 32 := w.2 (11, 5, 32) (rfqs_7 (List.mem_of_getElem? (i := 2) rfl))
theorem wr_11_8 {h : Hp_} (w : Wf h) : h_r h 11 8 = some 33 := w.2 (11, 8, 33) (rfqs_7 (List.mem_of_getElem? (i := 3) rfl))
theorem wr_12_0 {h : Hp_} (w : Wf h) : h_r h 12 0 = some 34 := w.2 (12, 0, 34) (rfqs_7 (List.mem_of_getElem? (i := 4) rfl))
theorem wr_12_1 {h : Hp_} (w : Wf h) : h_r h 12 1 = some 35 := w.2 (12, 1, 35) (rfqs_7 (List.mem_of_getElem? (i := 5) rfl))
theorem wr_12_2 {h : Hp_} (w : Wf h) : h_r h 12 2 = some 36 := w.2 (12, 2, 36) (rfqs_7 (List.mem_of_getElem? (i := 6) rfl))
theorem wr_13_0 {h : Hp_} (w : Wf h) : h_r h 13 0 = some 37 := w.2 (13, 0, 37) (rfqs_7 (List.mem_of_getElem? (i := 7) rfl))
theorem wr_13_1 {h : Hp_} (w : Wf h) : h_r h 13 1 = some 38 := w.2 (13, 1, 38) (rfqs_7 (List.mem_of_getElem? (i := 8) rfl))
theorem wr_13_2 {h : Hp_} (w : Wf h) : h_r h 13 2 = some 39 := w.2 (13, 2, 39) (rfqs_7 (List.mem_of_getElem? (i := 9) rfl))
theorem wr_13_3 {h : Hp_} (w : Wf h) : h_r h 13 3 = some 40 := w.2 (13, 3, 40) (rfqs_7 (List.mem_of_getElem? (i := 10) rfl))
theorem wr_13_4 {h : Hp_} (w : Wf h) : h_r h 13 4 = some 41 := w.2 (13, 4, 41) (rfqs_7 (List.mem_of_getElem? (i := 11) rfl))
theorem wr_14_0 {h : Hp_} (w : Wf h) : h_r h 14 0 = some 42 := w.2 (14, 0, 42) (rfqs_7 (List.mem_of_getElem? (i := 12) rfl))
theorem wr_14_1 {h : Hp_} (w : Wf h) : h_r h 14 1 = some 43 := w.2 (14, 1, 43) (rfqs_7 (List.mem_of_getElem? (i := 13) rfl))
theorem wr_14_2 {h : Hp_} (w : Wf h) : h_r h 14 2 = some 44 := w.2 (14, 2, 44) (rfqs_7 (List.mem_of_getElem? (i := 14) rfl))
theorem wr_14_3 {h : Hp_} (w : Wf h) : h_r h 14 3 = some 45 := w.2 (14, 3, 45) (rfqs_7 (List.mem_of_getElem? (i := 15) rfl))
theorem wr_16_0 {h : Hp_} (w : Wf h) : h_r h 16 0 = some 47 := w.2 (16, 0, 47) (rfqs_8 (List.mem_of_getElem? (i := 1) rfl))
theorem wr_16_1 {h : Hp_} (w : Wf h) : h_r h 16 1 = some 48 := w.2 (16, 1, 48) (rfqs_8 (List.mem_of_getElem? (i := 2) rfl))
theorem wr_16_2 {h : Hp_} (w : Wf h) : h_r h 16 2 = some 49 := w.2 (16, 2, 49) (rfqs_8 (List.mem_of_getElem? (i := 3) rfl))
theorem wr_16_3 {h : Hp_} (w : Wf h) : h_r h 16 3 = some 50 := w.2 (16, 3, 50) (rfqs_8 (List.mem_of_getElem? (i := 4) rfl))
theorem wr_16_4 {h : Hp_} (w : Wf h) : h_r h 16 4 = some 51 := w.2 (16, 4, 51) (rfqs_8 (List.mem_of_getElem? (i := 5) rfl))
theorem wr_16_5 {h : Hp_} (w : Wf h) : h_r h 16 5 = some 52 := w.2 (16, 5, 52) (rfqs_8 (List.mem_of_getElem? (i := 6) rfl))
theorem wr_16_6 {h : Hp_} (w : Wf h) : h_r h 16 6 = some 53 := w.2 (16, 6, 53) (rfqs_8 (List.mem_of_getElem? (i := 7) rfl))
theorem wr_17_0 {h : Hp_} (w : Wf h) : h_r h 17 0 = some 57 := w.2 (17, 0, 57) (rfqs_8 (List.mem_of_getElem? (i := 11) rfl))
theorem wr_17_1 {h : Hp_} (w : Wf h) : h_r h 17 1 = some 58 := w.2 (17, 1, 58) (rfqs_8 (List.mem_of_getElem? (i := 12) rfl))
theorem wr_17_2 {h : Hp_} (w : Wf h) : h_r h 17 2 = some 59 := w.2 (17, 2, 59) (rfqs_8 (List.mem_of_getElem? (i := 13) rfl))
theorem wr_17_3 {h : Hp_} (w : Wf h) : h_r h 17 3 = some 60 := w.2 (17, 3, 60) (rfqs_8 (List.mem_of_getElem? (i := 14) rfl))
theorem wr_17_4 {h : Hp_} (w : Wf h) : h_r h 17 4 = some 61 := w.2 (17, 4, 61) (rfqs_8 (List.mem_of_getElem? (i := 15) rfl))
theorem wr_17_5 {h : Hp_} (w : Wf h) : h_r h 17 5 = some 62 := w.2 (17, 5, 62) (rfqs_9 (List.mem_of_getElem? (i := 0) rfl))
theorem wr_17_6 {h : Hp_} (w : Wf h) : h_r h 17 6 = some 63 := w.2 (17, 6, 63) (rfqs_9 (List.mem_of_getElem? (i := 1) rfl))
theorem wr_17_9 {h : Hp_} (w : Wf h) : h_r h 17 9 = some 64 := w.2 (17, 9, 64) (rfqs_9 (List.mem_of_getElem? (i := 2) rfl))
theorem wr_17_10 {h : Hp_} (w : Wf h) : h_r h 17 10 = some 65 := w.2 (17, 10, 65) (rfqs_9 (List.mem_of_getElem? (i := 3) rfl))
theorem wr_17_11 {h : Hp_} (w : Wf h) : h_r h 17 11 = some 66 := w.2 (17, 11, 66) (rfqs_9 (List.mem_of_getElem? (i := 4) rfl))
theorem wr_17_12 {h : Hp_} (w : Wf h) : h_r h 17 12 = some 67 := w.2 (17, 12, 67) (rfqs_9 (List.mem_of_getElem? (i := 5) rfl))
theorem wr_17_13 {h : Hp_} (w : Wf h) : h_r h 17 13 = some 68 := w.2 (17, 13, 68) (rfqs_9 (List.mem_of_getElem? (i := 6) rfl))
theorem wr_17_14 {h : Hp_} (w : Wf h) : h_r h 17 14 = some 69 := w.2 (17, 14, 69) (rfqs_9 (List.mem_of_getElem? (i := 7) rfl))
theorem wr_17_15 {h : Hp_} (w : Wf h) : h_r h 17 15 = some 70 := w.2 (17, 15, 70) (rfqs_9 (List.mem_of_getElem? (i := 8) rfl))
theorem wr_18_0 {h : Hp_} (w : Wf h) : h_r h 18 0 = some 71 := w.2 (18, 0, 71) (rfqs_9 (List.mem_of_getElem? (i := 9) rfl))
theorem wr_18_1 {h : Hp_} (w : Wf h) : h_r h 18 1 = some 72 := w.2 (18, 1, 72) (rfqs_9 (List.mem_of_getElem? (i := 10) rfl))
theorem wr_20_17 {h : Hp_} (w : Wf h) : h_r h 20 17 = some 101 := w.2 (20, 17, 101) (rfqs_11 (List.mem_of_getElem? (i := 7) rfl))
theorem wr_20_18 {h : Hp_} (w : Wf h) : h_r h 20 18 = some 102 := w.2 (20, 18, 102) (rfqs_11 (List.mem_of_getElem? (i := 8) rfl))
theorem wr_20_19 {h : Hp_} (w : Wf h) : h_r h 20 19 = some 103 := w.2 (20, 19, 103) (rfqs_11 (List.mem_of_getElem? (i := 9) rfl))
theorem wr_21_0 {h : Hp_} (w : Wf h) : h_r h 21 0 = some 104 := w.2 (21, 0, 104) (rfqs_11 (List.mem_of_getElem? (i := 10) rfl))
theorem wr_21_1 {h : Hp_} (w : Wf h) : h_r h 21 1 = some 105 := w.2 (21, 1, 105) (rfqs_11 (List.mem_of_getElem? (i := 11) rfl))
theorem wr_21_2 {h : Hp_} (w : Wf h) : h_r h 21 2 = some 106 := w.2 (21, 2, 106) (rfqs_11 (List.mem_of_getElem? (i := 12) rfl))
theorem wr_21_3 {h : Hp_} (w : Wf h) : h_r h 21 3 = some 107 := w.2 (21, 3, 107) (rfqs_11 (List.mem_of_getElem? (i := 13) rfl))
theorem Wf.im {h : Hp_} (w : Wf h) (a k : Nat) (x : Int32) : Wf (h_im h a k x) := w
theorem Wf.lm {h : Hp_} (w : Wf h) (a k : Nat) (x : Int64) : Wf (h_lm h a k x) := w
theorem Wf.iw {h : Hp_} (w : Wf h) (a : Nat) (f : Nat → Int32) : Wf (h_iw h a f) := w
end
