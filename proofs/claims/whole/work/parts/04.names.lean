def RX0 : String := "CryGorge$Century"
def TX0 : u_T := fun k => match k with
  | 0 => ("CryGorge$Century", "land", "LCryGorge$Land;", true)
  | 1 => ("CryGorge$Century", "seasons", "LCryGorge$Seasons;", true)
  | 2 => ("CryGorge$Century", "seed", "I", false)
  | 3 => ("CryGorge$Century", "loosed", "I", false)
  | _ => ("CryGorge$Century", "bared", "I", false)
def tyX0 : Nat → FieldType := fun k => match k with
  | 0 => .object "CryGorge$Land"
  | 1 => .object "CryGorge$Seasons"
  | 2 => .int
  | 3 => .int
  | _ => .int
theorem nmX0 : ∀ a, a < 5 → ∀ b, b < 5 → a ≠ b → (TX0 a).2.1 ≠ (TX0 b).2.1 := by decide +kernel
theorem tyX0_ok : ∀ k, k < 5 → parseFieldDescriptor (TX0 k).2.2.1 = some (tyX0 k) := by decide +kernel
def RX1 : String := "CryGorge$Guesses"
def TX1 : u_T := fun k => match k with
  | 0 => ("CryGorge$Guesses", "land", "LCryGorge$Land;", true)
  | 1 => ("CryGorge$Guesses", "seasons", "LCryGorge$Seasons;", true)
  | 2 => ("CryGorge$Guesses", "alone", "LCryGorge$State;", true)
  | 3 => ("CryGorge$Guesses", "cryOf", "[I", true)
  | 4 => ("CryGorge$Guesses", "bayOf", "[I", true)
  | 5 => ("CryGorge$Guesses", "strengthOf", "[I", true)
  | 6 => ("CryGorge$Guesses", "heardAlike", "[I", true)
  | 7 => ("CryGorge$Guesses", "many", "I", false)
  | 8 => ("CryGorge$Guesses", "bestAge", "I", false)
  | _ => ("CryGorge$Guesses", "fewestLeft", "I", false)
def tyX1 : Nat → FieldType := fun k => match k with
  | 0 => .object "CryGorge$Land"
  | 1 => .object "CryGorge$Seasons"
  | 2 => .object "CryGorge$State"
  | 3 => .array .int
  | 4 => .array .int
  | 5 => .array .int
  | 6 => .array .int
  | 7 => .int
  | 8 => .int
  | _ => .int
theorem nmX1 : ∀ a, a < 10 → ∀ b, b < 10 → a ≠ b → (TX1 a).2.1 ≠ (TX1 b).2.1 := by decide +kernel
theorem tyX1_ok : ∀ k, k < 10 → parseFieldDescriptor (TX1 k).2.2.1 = some (tyX1 k) := by decide +kernel
def RX2 : String := "CryGorge$Heard"
def TX2 : u_T := fun k => match k with
  | 0 => ("CryGorge$Heard", "ages", "[I", true)
  | 1 => ("CryGorge$Heard", "strengths", "[I", true)
  | _ => ("CryGorge$Heard", "size", "I", false)
def tyX2 : Nat → FieldType := fun k => match k with
  | 0 => .array .int
  | 1 => .array .int
  | _ => .int
theorem nmX2 : ∀ a, a < 3 → ∀ b, b < 3 → a ≠ b → (TX2 a).2.1 ≠ (TX2 b).2.1 := by decide +kernel
theorem tyX2_ok : ∀ k, k < 3 → parseFieldDescriptor (TX2 k).2.2.1 = some (tyX2 k) := by decide +kernel
def RX3 : String := "CryGorge$History"
def TX3 : u_T := fun k => match k with
  | 0 => ("CryGorge$History", "before", "[I", true)
  | 1 => ("CryGorge$History", "saved", "[I", true)
  | 2 => ("CryGorge$History", "savedWorks", "[I", true)
  | 3 => ("CryGorge$History", "works", "I", false)
  | 4 => ("CryGorge$History", "images", "I", false)
  | _ => ("CryGorge$History", "refused", "I", false)
def tyX3 : Nat → FieldType := fun k => match k with
  | 0 => .array .int
  | 1 => .array .int
  | 2 => .array .int
  | 3 => .int
  | 4 => .int
  | _ => .int
theorem nmX3 : ∀ a, a < 6 → ∀ b, b < 6 → a ≠ b → (TX3 a).2.1 ≠ (TX3 b).2.1 := by decide +kernel
theorem tyX3_ok : ∀ k, k < 6 → parseFieldDescriptor (TX3 k).2.2.1 = some (tyX3 k) := by decide +kernel
def RX4 : String := "CryGorge$Land"
def TX4 : u_T := fun k => match k with
  | 0 => ("CryGorge$Land", "fade", "[I", true)
  | 1 => ("CryGorge$Land", "holds", "[I", true)
  | 2 => ("CryGorge$Land", "pitch", "[I", true)
  | 3 => ("CryGorge$Land", "strength", "[I", true)
  | 4 => ("CryGorge$Land", "path", "[[I", true)
  | 5 => ("CryGorge$Land", "distance", "[[I", true)
  | 6 => ("CryGorge$Land", "bays", "I", false)
  | 7 => ("CryGorge$Land", "cries", "I", false)
  | 8 => ("CryGorge$Land", "term", "I", false)
  | _ => ("CryGorge$Land", "felt", "I", false)
def tyX4 : Nat → FieldType := fun k => match k with
  | 0 => .array .int
  | 1 => .array .int
  | 2 => .array .int
  | 3 => .array .int
  | 4 => .array (.array .int)
  | 5 => .array (.array .int)
  | 6 => .int
  | 7 => .int
  | 8 => .int
  | _ => .int
theorem nmX4 : ∀ a, a < 10 → ∀ b, b < 10 → a ≠ b → (TX4 a).2.1 ≠ (TX4 b).2.1 := by decide +kernel
theorem tyX4_ok : ∀ k, k < 10 → parseFieldDescriptor (TX4 k).2.2.1 = some (tyX4 k) := by decide +kernel
def RX5 : String := "CryGorge$Law"
def TX5 : u_T := fun k => match k with
  | 0 => ("CryGorge$Law", "given", "[I", true)
  | 1 => ("CryGorge$Law", "kinds", "[I", true)
  | 2 => ("CryGorge$Law", "values", "[I", true)
  | 3 => ("CryGorge$Law", "pile", "[I", true)
  | _ => ("CryGorge$Law", "size", "I", false)
def tyX5 : Nat → FieldType := fun k => match k with
  | 0 => .array .int
  | 1 => .array .int
  | 2 => .array .int
  | 3 => .array .int
  | _ => .int
theorem nmX5 : ∀ a, a < 5 → ∀ b, b < 5 → a ≠ b → (TX5 a).2.1 ≠ (TX5 b).2.1 := by decide +kernel
theorem tyX5_ok : ∀ k, k < 5 → parseFieldDescriptor (TX5 k).2.2.1 = some (tyX5 k) := by decide +kernel
def RX6 : String := "CryGorge$Planner"
def TX6 : u_T := fun k => match k with
  | 0 => ("CryGorge$Planner", "land", "LCryGorge$Land;", true)
  | 1 => ("CryGorge$Planner", "seasons", "LCryGorge$Seasons;", true)
  | 2 => ("CryGorge$Planner", "loss", "[I", true)
  | 3 => ("CryGorge$Planner", "tried", "[I", true)
  | 4 => ("CryGorge$Planner", "best", "[I", true)
  | 5 => ("CryGorge$Planner", "kept", "[I", true)
  | 6 => ("CryGorge$Planner", "many", "I", false)
  | _ => ("CryGorge$Planner", "least", "I", false)
def tyX6 : Nat → FieldType := fun k => match k with
  | 0 => .object "CryGorge$Land"
  | 1 => .object "CryGorge$Seasons"
  | 2 => .array .int
  | 3 => .array .int
  | 4 => .array .int
  | 5 => .array .int
  | 6 => .int
  | _ => .int
theorem nmX6 : ∀ a, a < 8 → ∀ b, b < 8 → a ≠ b → (TX6 a).2.1 ≠ (TX6 b).2.1 := by decide +kernel
theorem tyX6_ok : ∀ k, k < 8 → parseFieldDescriptor (TX6 k).2.2.1 = some (tyX6 k) := by decide +kernel
def RX7 : String := "CryGorge$Reader"
def TX7 : u_T := fun k => match k with
  | 0 => ("CryGorge$Reader", "text", "[B", true)
  | 1 => ("CryGorge$Reader", "length", "I", false)
  | 2 => ("CryGorge$Reader", "at", "I", false)
  | 3 => ("CryGorge$Reader", "piece", "I", false)
  | 4 => ("CryGorge$Reader", "open", "I", false)
  | 5 => ("CryGorge$Reader", "kind", "I", false)
  | _ => ("CryGorge$Reader", "place", "I", false)
def tyX7 : Nat → FieldType := fun k => match k with
  | 0 => .array .byte
  | 1 => .int
  | 2 => .int
  | 3 => .int
  | 4 => .int
  | 5 => .int
  | _ => .int
theorem nmX7 : ∀ a, a < 7 → ∀ b, b < 7 → a ≠ b → (TX7 a).2.1 ≠ (TX7 b).2.1 := by decide +kernel
theorem tyX7_ok : ∀ k, k < 7 → parseFieldDescriptor (TX7 k).2.2.1 = some (tyX7 k) := by decide +kernel
def RX8 : String := "CryGorge$Seasons"
def TX8 : u_T := fun k => match k with
  | 0 => ("CryGorge$Seasons", "land", "LCryGorge$Land;", true)
  | 1 => ("CryGorge$Seasons", "rule", "LCryGorge$Law;", true)
  | _ => ("CryGorge$Seasons", "losses", "[I", true)
def tyX8 : Nat → FieldType := fun k => match k with
  | 0 => .object "CryGorge$Land"
  | 1 => .object "CryGorge$Law"
  | _ => .array .int
theorem nmX8 : ∀ a, a < 3 → ∀ b, b < 3 → a ≠ b → (TX8 a).2.1 ≠ (TX8 b).2.1 := by decide +kernel
theorem tyX8_ok : ∀ k, k < 3 → parseFieldDescriptor (TX8 k).2.2.1 = some (tyX8 k) := by decide +kernel
def RX9 : String := "CryGorge$State"
def TX9 : u_T := fun k => match k with
  | 0 => ("CryGorge$State", "land", "LCryGorge$Land;", true)
  | 1 => ("CryGorge$State", "strength", "[I", true)
  | 2 => ("CryGorge$State", "age", "[I", true)
  | 3 => ("CryGorge$State", "place", "[I", true)
  | 4 => ("CryGorge$State", "felted", "I", false)
  | 5 => ("CryGorge$State", "feltLeft", "I", false)
  | _ => ("CryGorge$State", "year", "I", false)
def tyX9 : Nat → FieldType := fun k => match k with
  | 0 => .object "CryGorge$Land"
  | 1 => .array .int
  | 2 => .array .int
  | 3 => .array .int
  | 4 => .int
  | 5 => .int
  | _ => .int
theorem nmX9 : ∀ a, a < 7 → ∀ b, b < 7 → a ≠ b → (TX9 a).2.1 ≠ (TX9 b).2.1 := by decide +kernel
theorem tyX9_ok : ∀ k, k < 7 → parseFieldDescriptor (TX9 k).2.2.1 = some (tyX9 k) := by decide +kernel
def RX10 : String := "CryGorge$Work"
def TX10 : u_T := fun k => match k with
  | 0 => ("CryGorge$Work", "kinds", "[I", true)
  | 1 => ("CryGorge$Work", "firsts", "[I", true)
  | 2 => ("CryGorge$Work", "seconds", "[I", true)
  | 3 => ("CryGorge$Work", "left", "[I", true)
  | 4 => ("CryGorge$Work", "size", "I", false)
  | 5 => ("CryGorge$Work", "done", "I", false)
  | _ => ("CryGorge$Work", "refused", "I", false)
def tyX10 : Nat → FieldType := fun k => match k with
  | 0 => .array .int
  | 1 => .array .int
  | 2 => .array .int
  | 3 => .array .int
  | 4 => .int
  | 5 => .int
  | _ => .int
theorem nmX10 : ∀ a, a < 7 → ∀ b, b < 7 → a ≠ b → (TX10 a).2.1 ≠ (TX10 b).2.1 := by decide +kernel
theorem tyX10_ok : ∀ k, k < 7 → parseFieldDescriptor (TX10 k).2.2.1 = some (tyX10 k) := by decide +kernel
def RX11 : String := "CryGorge"
def TX11 : u_T := fun k => match k with
  | 0 => ("CryGorge", "tape", "[B", true)
  | 1 => ("CryGorge", "reader", "LCryGorge$Reader;", true)
  | 2 => ("CryGorge", "land", "LCryGorge$Land;", true)
  | 3 => ("CryGorge", "readLand", "LCryGorge$Land;", true)
  | 4 => ("CryGorge", "rule", "LCryGorge$Law;", true)
  | 5 => ("CryGorge", "readRule", "LCryGorge$Law;", true)
  | 6 => ("CryGorge", "lines", "LCryGorge$Heard;", true)
  | 7 => ("CryGorge", "readLines", "LCryGorge$Heard;", true)
  | 8 => ("CryGorge", "keeping", "LCryGorge$Work;", true)
  | 9 => ("CryGorge", "seasons", "LCryGorge$Seasons;", true)
  | 10 => ("CryGorge", "now", "LCryGorge$State;", true)
  | 11 => ("CryGorge", "trial", "LCryGorge$State;", true)
  | 12 => ("CryGorge", "history", "LCryGorge$History;", true)
  | 13 => ("CryGorge", "planner", "LCryGorge$Planner;", true)
  | 14 => ("CryGorge", "guesses", "LCryGorge$Guesses;", true)
  | 15 => ("CryGorge", "fate", "LCryGorge$Century;", true)
  | 16 => ("CryGorge", "tapeSize", "I", false)
  | 17 => ("CryGorge", "faultPlace", "I", false)
  | 18 => ("CryGorge", "noSuchCalls", "I", false)
  | _ => ("CryGorge", "illegalCalls", "I", false)
def tyX11 : Nat → FieldType := fun k => match k with
  | 0 => .array .byte
  | 1 => .object "CryGorge$Reader"
  | 2 => .object "CryGorge$Land"
  | 3 => .object "CryGorge$Land"
  | 4 => .object "CryGorge$Law"
  | 5 => .object "CryGorge$Law"
  | 6 => .object "CryGorge$Heard"
  | 7 => .object "CryGorge$Heard"
  | 8 => .object "CryGorge$Work"
  | 9 => .object "CryGorge$Seasons"
  | 10 => .object "CryGorge$State"
  | 11 => .object "CryGorge$State"
  | 12 => .object "CryGorge$History"
  | 13 => .object "CryGorge$Planner"
  | 14 => .object "CryGorge$Guesses"
  | 15 => .object "CryGorge$Century"
  | 16 => .int
  | 17 => .int
  | 18 => .int
  | _ => .int
theorem nmX11 : ∀ a, a < 20 → ∀ b, b < 20 → a ≠ b → (TX11 a).2.1 ≠ (TX11 b).2.1 := by decide +kernel
theorem tyX11_ok : ∀ k, k < 20 → parseFieldDescriptor (TX11 k).2.2.1 = some (tyX11 k) := by decide +kernel
def RX12 : String := "CryGorgeModel"
def TX12 : u_T := fun k => match k with
  | 0 => ("CryGorgeModel", "thrown", "I", false)
  | 1 => ("CryGorgeModel", "tape", "I", false)
  | 2 => ("CryGorgeModel", "size", "I", false)
  | 3 => ("CryGorgeModel", "place", "I", false)
  | 4 => ("CryGorgeModel", "at", "I", false)
  | 5 => ("CryGorgeModel", "fault", "I", false)
  | 6 => ("CryGorgeModel", "faultAt", "I", false)
  | 7 => ("CryGorgeModel", "clauses", "I", false)
  | 8 => ("CryGorgeModel", "open", "I", false)
  | 9 => ("CryGorgeModel", "fed", "[I", true)
  | 10 => ("CryGorgeModel", "refused", "[I", true)
  | 11 => ("CryGorgeModel", "readTold", "[I", true)
  | 12 => ("CryGorgeModel", "told", "[I", true)
  | 13 => ("CryGorgeModel", "readBay", "[[I", true)
  | 14 => ("CryGorgeModel", "bay", "[[I", true)
  | 15 => ("CryGorgeModel", "readCry", "[[I", true)
  | 16 => ("CryGorgeModel", "cry", "[[I", true)
  | 17 => ("CryGorgeModel", "readPath", "[[I", true)
  | 18 => ("CryGorgeModel", "path", "[[I", true)
  | 19 => ("CryGorgeModel", "far", "[[I", true)
  | 20 => ("CryGorgeModel", "lawMany", "I", false)
  | 21 => ("CryGorgeModel", "readLawMany", "I", false)
  | 22 => ("CryGorgeModel", "law", "[[I", true)
  | 23 => ("CryGorgeModel", "readLaw", "[[I", true)
  | 24 => ("CryGorgeModel", "line", "[[I", true)
  | 25 => ("CryGorgeModel", "readLine", "[[I", true)
  | 26 => ("CryGorgeModel", "stack", "[I", true)
  | 27 => ("CryGorgeModel", "known", "[I", true)
  | 28 => ("CryGorgeModel", "step", "[[I", true)
  | 29 => ("CryGorgeModel", "steps", "I", false)
  | 30 => ("CryGorgeModel", "now", "[I", true)
  | 31 => ("CryGorgeModel", "trial", "[I", true)
  | 32 => ("CryGorgeModel", "lost", "[I", true)
  | 33 => ("CryGorgeModel", "before", "[[I", true)
  | 34 => ("CryGorgeModel", "kept", "[[I", true)
  | 35 => ("CryGorgeModel", "lines", "I", false)
  | 36 => ("CryGorgeModel", "works", "I", false)
  | 37 => ("CryGorgeModel", "refusedSteps", "I", false)
  | 38 => ("CryGorgeModel", "images", "I", false)
  | 39 => ("CryGorgeModel", "spot", "I", false)
  | 40 => ("CryGorgeModel", "begun", "I", false)
  | 41 => ("CryGorgeModel", "doneSteps", "I", false)
  | 42 => ("CryGorgeModel", "bestAt", "[I", true)
  | 43 => ("CryGorgeModel", "leastLost", "I", false)
  | 44 => ("CryGorgeModel", "times", "[I", true)
  | 45 => ("CryGorgeModel", "heardAt", "[[I", true)
  | 46 => ("CryGorgeModel", "walked", "[[I", true)
  | 47 => ("CryGorgeModel", "lots", "I", false)
  | 48 => ("CryGorgeModel", "loosed", "I", false)
  | _ => ("CryGorgeModel", "bared", "I", false)
def tyX12 : Nat → FieldType := fun k => match k with
  | 0 => .int
  | 1 => .int
  | 2 => .int
  | 3 => .int
  | 4 => .int
  | 5 => .int
  | 6 => .int
  | 7 => .int
  | 8 => .int
  | 9 => .array .int
  | 10 => .array .int
  | 11 => .array .int
  | 12 => .array .int
  | 13 => .array (.array .int)
  | 14 => .array (.array .int)
  | 15 => .array (.array .int)
  | 16 => .array (.array .int)
  | 17 => .array (.array .int)
  | 18 => .array (.array .int)
  | 19 => .array (.array .int)
  | 20 => .int
  | 21 => .int
  | 22 => .array (.array .int)
  | 23 => .array (.array .int)
  | 24 => .array (.array .int)
  | 25 => .array (.array .int)
  | 26 => .array .int
  | 27 => .array .int
  | 28 => .array (.array .int)
  | 29 => .int
  | 30 => .array .int
  | 31 => .array .int
  | 32 => .array .int
  | 33 => .array (.array .int)
  | 34 => .array (.array .int)
  | 35 => .int
  | 36 => .int
  | 37 => .int
  | 38 => .int
  | 39 => .int
  | 40 => .int
  | 41 => .int
  | 42 => .array .int
  | 43 => .int
  | 44 => .array .int
  | 45 => .array (.array .int)
  | 46 => .array (.array .int)
  | 47 => .int
  | 48 => .int
  | _ => .int
theorem nmX12 : ∀ a, a < 50 → ∀ b, b < 50 → a ≠ b → (TX12 a).2.1 ≠ (TX12 b).2.1 := by decide +kernel
theorem tyX12_ok : ∀ k, k < 50 → parseFieldDescriptor (TX12 k).2.2.1 = some (tyX12 k) := by decide +kernel
abbrev vwCl : List vw_C := [(RX0, TX0, 5), (RX1, TX1, 10), (RX2, TX2, 3), (RX3, TX3, 6), (RX4, TX4, 10), (RX5, TX5, 5), (RX6, TX6, 8), (RX7, TX7, 7), (RX8, TX8, 3), (RX9, TX9, 7), (RX10, TX10, 7), (RX11, TX11, 20), (RX12, TX12, 50)]
