def RX0 : String := "NamelessPost$Carrier"
def TX0 : u_T := fun k => match k with
  | 0 => ("NamelessPost$Carrier", "state", "LNamelessPost$State;", true)
  | 1 => ("NamelessPost$Carrier", "past", "LNamelessPost$Past;", true)
  | 2 => ("NamelessPost$Carrier", "ways", "LNamelessPost$Ways;", true)
  | 3 => ("NamelessPost$Carrier", "fitter", "LNamelessPost$Fitter;", true)
  | 4 => ("NamelessPost$Carrier", "how", "I", false)
  | 5 => ("NamelessPost$Carrier", "whom", "I", false)
  | 6 => ("NamelessPost$Carrier", "teller", "I", false)
  | 7 => ("NamelessPost$Carrier", "asked", "I", false)
  | 8 => ("NamelessPost$Carrier", "openers", "I", false)
  | 9 => ("NamelessPost$Carrier", "nexts", "I", false)
  | 10 => ("NamelessPost$Carrier", "firstTwo", "I", false)
  | 11 => ("NamelessPost$Carrier", "secondTwo", "I", false)
  | _ => ("NamelessPost$Carrier", "askedWith", "[I", true)
def tyX0 : Nat → FieldType := fun k => match k with
  | 0 => .object "NamelessPost$State"
  | 1 => .object "NamelessPost$Past"
  | 2 => .object "NamelessPost$Ways"
  | 3 => .object "NamelessPost$Fitter"
  | 4 => .int
  | 5 => .int
  | 6 => .int
  | 7 => .int
  | 8 => .int
  | 9 => .int
  | 10 => .int
  | 11 => .int
  | _ => .array .int
theorem nmX0 : ∀ a, a < 13 → ∀ b, b < 13 → a ≠ b → (TX0 a).2.1 ≠ (TX0 b).2.1 := by decide +kernel
theorem tyX0_ok : ∀ k, k < 13 → parseFieldDescriptor (TX0 k).2.2.1 = some (tyX0 k) := by decide +kernel
def RX1 : String := "NamelessPost$Cover"
def TX1 : u_T := fun k => match k with
  | 0 => ("NamelessPost$Cover", "number", "I", true)
  | 1 => ("NamelessPost$Cover", "signs", "[I", true)
  | 2 => ("NamelessPost$Cover", "only", "Z", true)
  | _ => ("NamelessPost$Cover", "then", "Z", true)
def tyX1 : Nat → FieldType := fun k => match k with
  | 0 => .int
  | 1 => .array .int
  | 2 => .boolean
  | _ => .boolean
theorem nmX1 : ∀ a, a < 4 → ∀ b, b < 4 → a ≠ b → (TX1 a).2.1 ≠ (TX1 b).2.1 := by decide +kernel
theorem tyX1_ok : ∀ k, k < 4 → parseFieldDescriptor (TX1 k).2.2.1 = some (tyX1 k) := by decide +kernel
def RX2 : String := "NamelessPost$CoverReader"
def TX2 : u_T := fun k => match k with
  | 0 => ("NamelessPost$CoverReader", "text", "[I", false)
  | 1 => ("NamelessPost$CoverReader", "length", "I", false)
  | 2 => ("NamelessPost$CoverReader", "start", "I", false)
  | 3 => ("NamelessPost$CoverReader", "stop", "I", false)
  | 4 => ("NamelessPost$CoverReader", "fault", "I", false)
  | 5 => ("NamelessPost$CoverReader", "facts", "I", false)
  | 6 => ("NamelessPost$CoverReader", "only", "Z", false)
  | 7 => ("NamelessPost$CoverReader", "then", "Z", false)
  | 8 => ("NamelessPost$CoverReader", "signs", "[I", true)
  | _ => ("NamelessPost$CoverReader", "size", "I", false)
def tyX2 : Nat → FieldType := fun k => match k with
  | 0 => .array .int
  | 1 => .int
  | 2 => .int
  | 3 => .int
  | 4 => .int
  | 5 => .int
  | 6 => .boolean
  | 7 => .boolean
  | 8 => .array .int
  | _ => .int
theorem nmX2 : ∀ a, a < 10 → ∀ b, b < 10 → a ≠ b → (TX2 a).2.1 ≠ (TX2 b).2.1 := by decide +kernel
theorem tyX2_ok : ∀ k, k < 10 → parseFieldDescriptor (TX2 k).2.2.1 = some (tyX2 k) := by decide +kernel
def RX3 : String := "NamelessPost$Fitter"
def TX3 : u_T := fun k => match k with
  | 0 => ("NamelessPost$Fitter", "stack", "[I", true)
  | 1 => ("NamelessPost$Fitter", "keys", "[I", true)
  | 2 => ("NamelessPost$Fitter", "answers", "[I", true)
  | _ => ("NamelessPost$Fitter", "keepsAny", "Z", false)
def tyX3 : Nat → FieldType := fun k => match k with
  | 0 => .array .int
  | 1 => .array .int
  | 2 => .array .int
  | _ => .boolean
theorem nmX3 : ∀ a, a < 4 → ∀ b, b < 4 → a ≠ b → (TX3 a).2.1 ≠ (TX3 b).2.1 := by decide +kernel
theorem tyX3_ok : ∀ k, k < 4 → parseFieldDescriptor (TX3 k).2.2.1 = some (tyX3 k) := by decide +kernel
def RX4 : String := "NamelessPost$HitSearch"
def TX4 : u_T := fun k => match k with
  | 0 => ("NamelessPost$HitSearch", "sets", "[I", true)
  | 1 => ("NamelessPost$HitSearch", "size", "I", false)
  | 2 => ("NamelessPost$HitSearch", "price", "[I", true)
  | 3 => ("NamelessPost$HitSearch", "single", "I", false)
  | 4 => ("NamelessPost$HitSearch", "hopeless", "Z", false)
  | 5 => ("NamelessPost$HitSearch", "best", "I", false)
  | 6 => ("NamelessPost$HitSearch", "bestPrice", "I", false)
  | _ => ("NamelessPost$HitSearch", "bestWords", "I", false)
def tyX4 : Nat → FieldType := fun k => match k with
  | 0 => .array .int
  | 1 => .int
  | 2 => .array .int
  | 3 => .int
  | 4 => .boolean
  | 5 => .int
  | 6 => .int
  | _ => .int
theorem nmX4 : ∀ a, a < 8 → ∀ b, b < 8 → a ≠ b → (TX4 a).2.1 ≠ (TX4 b).2.1 := by decide +kernel
theorem tyX4_ok : ∀ k, k < 8 → parseFieldDescriptor (TX4 k).2.2.1 = some (tyX4 k) := by decide +kernel
def RX5 : String := "NamelessPost$Letter"
def TX5 : u_T := fun k => match k with
  | 0 => ("NamelessPost$Letter", "text", "LNamelessPost$Cover;", false)
  | 1 => ("NamelessPost$Letter", "sender", "I", false)
  | 2 => ("NamelessPost$Letter", "person", "I", false)
  | 3 => ("NamelessPost$Letter", "from", "I", false)
  | 4 => ("NamelessPost$Letter", "sent", "I", false)
  | 5 => ("NamelessPost$Letter", "status", "I", false)
  | 6 => ("NamelessPost$Letter", "place", "I", false)
  | 7 => ("NamelessPost$Letter", "day", "I", false)
  | 8 => ("NamelessPost$Letter", "opener", "I", false)
  | 9 => ("NamelessPost$Letter", "visited", "I", false)
  | 10 => ("NamelessPost$Letter", "goings", "I", false)
  | _ => ("NamelessPost$Letter", "asked", "I", false)
def tyX5 : Nat → FieldType := fun k => match k with
  | 0 => .object "NamelessPost$Cover"
  | 1 => .int
  | 2 => .int
  | 3 => .int
  | 4 => .int
  | 5 => .int
  | 6 => .int
  | 7 => .int
  | 8 => .int
  | 9 => .int
  | 10 => .int
  | _ => .int
theorem nmX5 : ∀ a, a < 12 → ∀ b, b < 12 → a ≠ b → (TX5 a).2.1 ≠ (TX5 b).2.1 := by decide +kernel
theorem tyX5_ok : ∀ k, k < 12 → parseFieldDescriptor (TX5 k).2.2.1 = some (tyX5 k) := by decide +kernel
def RX6 : String := "NamelessPost$Past"
def TX6 : u_T := fun k => match k with
  | 0 => ("NamelessPost$Past", "state", "LNamelessPost$State;", true)
  | 1 => ("NamelessPost$Past", "made", "[LNamelessPost$Snapshot;", true)
  | _ => ("NamelessPost$Past", "last", "I", false)
def tyX6 : Nat → FieldType := fun k => match k with
  | 0 => .object "NamelessPost$State"
  | 1 => .array (.object "NamelessPost$Snapshot")
  | _ => .int
theorem nmX6 : ∀ a, a < 3 → ∀ b, b < 3 → a ≠ b → (TX6 a).2.1 ≠ (TX6 b).2.1 := by decide +kernel
theorem tyX6_ok : ∀ k, k < 3 → parseFieldDescriptor (TX6 k).2.2.1 = some (tyX6 k) := by decide +kernel
def RX7 : String := "NamelessPost$Snapshot"
def TX7 : u_T := fun k => match k with
  | 0 => ("NamelessPost$Snapshot", "done", "I", true)
  | 1 => ("NamelessPost$Snapshot", "marked", "[I", true)
  | 2 => ("NamelessPost$Snapshot", "tied", "[I", true)
  | 3 => ("NamelessPost$Snapshot", "placeOf", "[I", true)
  | _ => ("NamelessPost$Snapshot", "at", "[I", true)
def tyX7 : Nat → FieldType := fun k => match k with
  | 0 => .int
  | 1 => .array .int
  | 2 => .array .int
  | 3 => .array .int
  | _ => .array .int
theorem nmX7 : ∀ a, a < 5 → ∀ b, b < 5 → a ≠ b → (TX7 a).2.1 ≠ (TX7 b).2.1 := by decide +kernel
theorem tyX7_ok : ∀ k, k < 5 → parseFieldDescriptor (TX7 k).2.2.1 = some (tyX7 k) := by decide +kernel
def RX8 : String := "NamelessPost$State"
def TX8 : u_T := fun k => match k with
  | 0 => ("NamelessPost$State", "people", "I", false)
  | 1 => ("NamelessPost$State", "start", "[I", true)
  | 2 => ("NamelessPost$State", "roads", "I", false)
  | 3 => ("NamelessPost$State", "roadDays", "[I", true)
  | 4 => ("NamelessPost$State", "changes", "I", false)
  | 5 => ("NamelessPost$State", "change", "[I", true)
  | 6 => ("NamelessPost$State", "known", "[I", true)
  | 7 => ("NamelessPost$State", "worths", "[I", true)
  | 8 => ("NamelessPost$State", "letters", "I", false)
  | 9 => ("NamelessPost$State", "post", "[LNamelessPost$Letter;", true)
  | 10 => ("NamelessPost$State", "now", "I", false)
  | 11 => ("NamelessPost$State", "wayLength", "I", false)
  | _ => ("NamelessPost$State", "way", "[I", true)
def tyX8 : Nat → FieldType := fun k => match k with
  | 0 => .int
  | 1 => .array .int
  | 2 => .int
  | 3 => .array .int
  | 4 => .int
  | 5 => .array .int
  | 6 => .array .int
  | 7 => .array .int
  | 8 => .int
  | 9 => .array (.object "NamelessPost$Letter")
  | 10 => .int
  | 11 => .int
  | _ => .array .int
theorem nmX8 : ∀ a, a < 13 → ∀ b, b < 13 → a ≠ b → (TX8 a).2.1 ≠ (TX8 b).2.1 := by decide +kernel
theorem tyX8_ok : ∀ k, k < 13 → parseFieldDescriptor (TX8 k).2.2.1 = some (tyX8 k) := by decide +kernel
def RX9 : String := "NamelessPost$SureSearch"
def TX9 : u_T := fun k => match k with
  | 0 => ("NamelessPost$SureSearch", "reached", "[I", true)
  | 1 => ("NamelessPost$SureSearch", "openers", "[I", true)
  | 2 => ("NamelessPost$SureSearch", "nexts", "[I", true)
  | 3 => ("NamelessPost$SureSearch", "safe", "[I", true)
  | _ => ("NamelessPost$SureSearch", "soonest", "[I", true)
def tyX9 : Nat → FieldType := fun k => match k with
  | 0 => .array .int
  | 1 => .array .int
  | 2 => .array .int
  | 3 => .array .int
  | _ => .array .int
theorem nmX9 : ∀ a, a < 5 → ∀ b, b < 5 → a ≠ b → (TX9 a).2.1 ≠ (TX9 b).2.1 := by decide +kernel
theorem tyX9_ok : ∀ k, k < 5 → parseFieldDescriptor (TX9 k).2.2.1 = some (tyX9 k) := by decide +kernel
def RX10 : String := "NamelessPost$Ways"
def TX10 : u_T := fun k => match k with
  | 0 => ("NamelessPost$Ways", "length", "[I", true)
  | _ => ("NamelessPost$Ways", "next", "[I", true)
def tyX10 : Nat → FieldType := fun k => match k with
  | 0 => .array .int
  | _ => .array .int
theorem nmX10 : ∀ a, a < 2 → ∀ b, b < 2 → a ≠ b → (TX10 a).2.1 ≠ (TX10 b).2.1 := by decide +kernel
theorem tyX10_ok : ∀ k, k < 2 → parseFieldDescriptor (TX10 k).2.2.1 = some (tyX10 k) := by decide +kernel
def RX11 : String := "NamelessPost"
def TX11 : u_T := fun k => match k with
  | 0 => ("NamelessPost", "state", "LNamelessPost$State;", true)
  | 1 => ("NamelessPost", "past", "LNamelessPost$Past;", true)
  | 2 => ("NamelessPost", "ways", "LNamelessPost$Ways;", true)
  | 3 => ("NamelessPost", "fitter", "LNamelessPost$Fitter;", true)
  | 4 => ("NamelessPost", "carrier", "LNamelessPost$Carrier;", true)
  | 5 => ("NamelessPost", "sureSearch", "LNamelessPost$SureSearch;", true)
  | 6 => ("NamelessPost", "hitSearch", "LNamelessPost$HitSearch;", true)
  | 7 => ("NamelessPost", "coverReader", "LNamelessPost$CoverReader;", true)
  | 8 => ("NamelessPost", "trip", "LNamelessPost$Letter;", true)
  | 9 => ("NamelessPost", "covers", "[LNamelessPost$Cover;", true)
  | 10 => ("NamelessPost", "coverCount", "I", false)
  | 11 => ("NamelessPost", "tape", "[I", true)
  | 12 => ("NamelessPost", "tapeLength", "I", false)
  | 13 => ("NamelessPost", "images", "[LNamelessPost$State;", true)
  | 14 => ("NamelessPost", "nextPlace", "[I", true)
  | _ => ("NamelessPost", "openedBy", "[I", true)
def tyX11 : Nat → FieldType := fun k => match k with
  | 0 => .object "NamelessPost$State"
  | 1 => .object "NamelessPost$Past"
  | 2 => .object "NamelessPost$Ways"
  | 3 => .object "NamelessPost$Fitter"
  | 4 => .object "NamelessPost$Carrier"
  | 5 => .object "NamelessPost$SureSearch"
  | 6 => .object "NamelessPost$HitSearch"
  | 7 => .object "NamelessPost$CoverReader"
  | 8 => .object "NamelessPost$Letter"
  | 9 => .array (.object "NamelessPost$Cover")
  | 10 => .int
  | 11 => .array .int
  | 12 => .int
  | 13 => .array (.object "NamelessPost$State")
  | 14 => .array .int
  | _ => .array .int
theorem nmX11 : ∀ a, a < 16 → ∀ b, b < 16 → a ≠ b → (TX11 a).2.1 ≠ (TX11 b).2.1 := by decide +kernel
theorem tyX11_ok : ∀ k, k < 16 → parseFieldDescriptor (TX11 k).2.2.1 = some (tyX11 k) := by decide +kernel
def RX12 : String := "NamelessPostModel"
def TX12 : u_T := fun k => match k with
  | 0 => ("NamelessPostModel", "thrown", "I", false)
  | 1 => ("NamelessPostModel", "scalar", "[I", true)
  | 2 => ("NamelessPostModel", "home", "[I", true)
  | 3 => ("NamelessPostModel", "known", "[I", true)
  | 4 => ("NamelessPostModel", "worths", "[I", true)
  | 5 => ("NamelessPostModel", "way", "[I", true)
  | 6 => ("NamelessPostModel", "roadOne", "[I", true)
  | 7 => ("NamelessPostModel", "roadOther", "[I", true)
  | 8 => ("NamelessPostModel", "roadDays", "[I", true)
  | 9 => ("NamelessPostModel", "changeDay", "[I", true)
  | 10 => ("NamelessPostModel", "changeKind", "[I", true)
  | 11 => ("NamelessPostModel", "changeWho", "[I", true)
  | 12 => ("NamelessPostModel", "changeWhat", "[I", true)
  | 13 => ("NamelessPostModel", "changeOther", "[I", true)
  | 14 => ("NamelessPostModel", "changeIs", "[I", true)
  | 15 => ("NamelessPostModel", "letterFrom", "[I", true)
  | 16 => ("NamelessPostModel", "letterCover", "[I", true)
  | 17 => ("NamelessPostModel", "letterFor", "[I", true)
  | 18 => ("NamelessPostModel", "letterSent", "[I", true)
  | 19 => ("NamelessPostModel", "letterState", "[I", true)
  | 20 => ("NamelessPostModel", "letterAt", "[I", true)
  | 21 => ("NamelessPostModel", "letterDay", "[I", true)
  | 22 => ("NamelessPostModel", "letterBy", "[I", true)
  | 23 => ("NamelessPostModel", "letterWas", "[I", true)
  | 24 => ("NamelessPostModel", "marked", "[I", true)
  | 25 => ("NamelessPostModel", "tied", "[I", true)
  | 26 => ("NamelessPostModel", "placed", "[I", true)
  | 27 => ("NamelessPostModel", "byDay", "[I", true)
  | 28 => ("NamelessPostModel", "far", "[I", true)
  | 29 => ("NamelessPostModel", "taped", "I", false)
  | 30 => ("NamelessPostModel", "p", "I", false)
  | 31 => ("NamelessPostModel", "fault", "I", false)
  | 32 => ("NamelessPostModel", "slot", "I", false)
  | 33 => ("NamelessPostModel", "covers", "I", false)
  | 34 => ("NamelessPostModel", "entries", "I", false)
  | 35 => ("NamelessPostModel", "deep", "I", false)
  | 36 => ("NamelessPostModel", "tieDeep", "I", false)
  | 37 => ("NamelessPostModel", "counted", "I", false)
  | 38 => ("NamelessPostModel", "opened", "I", false)
  | 39 => ("NamelessPostModel", "tape", "[B", true)
  | 40 => ("NamelessPostModel", "sort", "[I", true)
  | 41 => ("NamelessPostModel", "number", "[I", true)
  | 42 => ("NamelessPostModel", "long0", "[I", true)
  | 43 => ("NamelessPostModel", "open", "[I", true)
  | 44 => ("NamelessPostModel", "openTie", "[I", true)
  | 45 => ("NamelessPostModel", "stack", "[I", true)
  | 46 => ("NamelessPostModel", "isOnly", "[Z", true)
  | 47 => ("NamelessPostModel", "isThen", "[Z", true)
  | 48 => ("NamelessPostModel", "opener", "I", false)
  | 49 => ("NamelessPostModel", "next", "I", false)
  | 50 => ("NamelessPostModel", "teller", "I", false)
  | 51 => ("NamelessPostModel", "soon", "[I", true)
  | 52 => ("NamelessPostModel", "isSure", "[Z", true)
  | 53 => ("NamelessPostModel", "goesTo", "[I", true)
  | 54 => ("NamelessPostModel", "holding", "[I", true)
  | 55 => ("NamelessPostModel", "isApart", "[Z", true)
  | 56 => ("NamelessPostModel", "endState", "I", false)
  | 57 => ("NamelessPostModel", "endBy", "I", false)
  | 58 => ("NamelessPostModel", "endDay", "I", false)
  | 59 => ("NamelessPostModel", "endPlace", "I", false)
  | 60 => ("NamelessPostModel", "goings", "I", false)
  | 61 => ("NamelessPostModel", "needMany", "I", false)
  | 62 => ("NamelessPostModel", "needOne", "I", false)
  | 63 => ("NamelessPostModel", "needOther", "I", false)
  | 64 => ("NamelessPostModel", "images", "[I", true)
  | 65 => ("NamelessPostModel", "isMade", "[Z", true)
  | 66 => ("NamelessPostModel", "imageAt", "I", false)
  | _ => ("NamelessPostModel", "goesBack", "Z", false)
def tyX12 : Nat → FieldType := fun k => match k with
  | 0 => .int
  | 1 => .array .int
  | 2 => .array .int
  | 3 => .array .int
  | 4 => .array .int
  | 5 => .array .int
  | 6 => .array .int
  | 7 => .array .int
  | 8 => .array .int
  | 9 => .array .int
  | 10 => .array .int
  | 11 => .array .int
  | 12 => .array .int
  | 13 => .array .int
  | 14 => .array .int
  | 15 => .array .int
  | 16 => .array .int
  | 17 => .array .int
  | 18 => .array .int
  | 19 => .array .int
  | 20 => .array .int
  | 21 => .array .int
  | 22 => .array .int
  | 23 => .array .int
  | 24 => .array .int
  | 25 => .array .int
  | 26 => .array .int
  | 27 => .array .int
  | 28 => .array .int
  | 29 => .int
  | 30 => .int
  | 31 => .int
  | 32 => .int
  | 33 => .int
  | 34 => .int
  | 35 => .int
  | 36 => .int
  | 37 => .int
  | 38 => .int
  | 39 => .array .byte
  | 40 => .array .int
  | 41 => .array .int
  | 42 => .array .int
  | 43 => .array .int
  | 44 => .array .int
  | 45 => .array .int
  | 46 => .array .boolean
  | 47 => .array .boolean
  | 48 => .int
  | 49 => .int
  | 50 => .int
  | 51 => .array .int
  | 52 => .array .boolean
  | 53 => .array .int
  | 54 => .array .int
  | 55 => .array .boolean
  | 56 => .int
  | 57 => .int
  | 58 => .int
  | 59 => .int
  | 60 => .int
  | 61 => .int
  | 62 => .int
  | 63 => .int
  | 64 => .array .int
  | 65 => .array .boolean
  | 66 => .int
  | _ => .boolean
theorem nmX12 : ∀ a, a < 68 → ∀ b, b < 68 → a ≠ b → (TX12 a).2.1 ≠ (TX12 b).2.1 := by decide +kernel
theorem tyX12_ok : ∀ k, k < 68 → parseFieldDescriptor (TX12 k).2.2.1 = some (tyX12 k) := by decide +kernel
