/-! NAMES (printed by the kit): classes, fields, methods -/
def RX0 : String := "ForthHouse$Chip"
def TX0 : u_T := fun k => match k with
  | 0 => ("ForthHouse$Chip", "words", "[I", true)
  | 1 => ("ForthHouse$Chip", "length", "I", false)
  | 2 => ("ForthHouse$Chip", "space", "LForthHouse$Space;", true)
  | 3 => ("ForthHouse$Chip", "rows", "LForthHouse$Task;", true)
  | 4 => ("ForthHouse$Chip", "state", "I", false)
  | 5 => ("ForthHouse$Chip", "fault", "I", false)
  | 6 => ("ForthHouse$Chip", "done", "I", false)
  | 7 => ("ForthHouse$Chip", "places", "[I", true)
  | 8 => ("ForthHouse$Chip", "starts", "[I", true)
  | 9 => ("ForthHouse$Chip", "queue", "[I", true)
  | _ => ("ForthHouse$Chip", "met", "I", false)
def tyX0 : Nat → FieldType := fun k => match k with
  | 0 => .array .int
  | 1 => .int
  | 2 => .object "ForthHouse$Space"
  | 3 => .object "ForthHouse$Task"
  | 4 => .int
  | 5 => .int
  | 6 => .int
  | 7 => .array .int
  | 8 => .array .int
  | 9 => .array .int
  | _ => .int
theorem nmX0 : ∀ a, a < 11 → ∀ b, b < 11 → a ≠ b → (TX0 a).2.1 ≠ (TX0 b).2.1 := by decide +kernel
theorem tyX0_ok : ∀ k, k < 11 → parseFieldDescriptor (TX0 k).2.2.1 = some (tyX0 k) := by decide +kernel
def RX1 : String := "ForthHouse$Forth"
def TX1 : u_T := fun k => match k with
  | 0 => ("ForthHouse$Forth", "space", "LForthHouse$Space;", true)
  | 1 => ("ForthHouse$Forth", "words", "LForthHouse$Words;", true)
  | 2 => ("ForthHouse$Forth", "items", "LForthHouse$Items;", true)
  | 3 => ("ForthHouse$Forth", "texts", "LForthHouse$Texts;", true)
  | 4 => ("ForthHouse$Forth", "making", "LForthHouse$Making;", true)
  | 5 => ("ForthHouse$Forth", "lists", "LForthHouse$Lists;", true)
  | 6 => ("ForthHouse$Forth", "sink", "LForthHouse$Sink;", true)
  | 7 => ("ForthHouse$Forth", "judge", "LForthHouse$Judge;", true)
  | 8 => ("ForthHouse$Forth", "tasks", "[LForthHouse$Task;", true)
  | 9 => ("ForthHouse$Forth", "at", "I", false)
  | 10 => ("ForthHouse$Forth", "steps", "I", false)
  | 11 => ("ForthHouse$Forth", "thrownCode", "I", false)
  | 12 => ("ForthHouse$Forth", "thrownIn", "I", false)
  | 13 => ("ForthHouse$Forth", "thrownTexts", "I", false)
  | 14 => ("ForthHouse$Forth", "todo", "I", false)
  | 15 => ("ForthHouse$Forth", "direct", "Z", false)
  | 16 => ("ForthHouse$Forth", "ended", "I", false)
  | _ => ("ForthHouse$Forth", "outside", "Z", false)
def tyX1 : Nat → FieldType := fun k => match k with
  | 0 => .object "ForthHouse$Space"
  | 1 => .object "ForthHouse$Words"
  | 2 => .object "ForthHouse$Items"
  | 3 => .object "ForthHouse$Texts"
  | 4 => .object "ForthHouse$Making"
  | 5 => .object "ForthHouse$Lists"
  | 6 => .object "ForthHouse$Sink"
  | 7 => .object "ForthHouse$Judge"
  | 8 => .array (.object "ForthHouse$Task")
  | 9 => .int
  | 10 => .int
  | 11 => .int
  | 12 => .int
  | 13 => .int
  | 14 => .int
  | 15 => .boolean
  | 16 => .int
  | _ => .boolean
theorem nmX1 : ∀ a, a < 18 → ∀ b, b < 18 → a ≠ b → (TX1 a).2.1 ≠ (TX1 b).2.1 := by decide +kernel
theorem tyX1_ok : ∀ k, k < 18 → parseFieldDescriptor (TX1 k).2.2.1 = some (tyX1 k) := by decide +kernel
def RX2 : String := "ForthHouse$Items"
def TX2 : u_T := fun k => match k with
  | 0 => ("ForthHouse$Items", "kinds", "[B", true)
  | 1 => ("ForthHouse$Items", "numbers", "[I", true)
  | _ => ("ForthHouse$Items", "total", "I", false)
def tyX2 : Nat → FieldType := fun k => match k with
  | 0 => .array .byte
  | 1 => .array .int
  | _ => .int
theorem nmX2 : ∀ a, a < 3 → ∀ b, b < 3 → a ≠ b → (TX2 a).2.1 ≠ (TX2 b).2.1 := by decide +kernel
theorem tyX2_ok : ∀ k, k < 3 → parseFieldDescriptor (TX2 k).2.2.1 = some (tyX2 k) := by decide +kernel
def RX3 : String := "ForthHouse$Judge"
def TX3 : u_T := fun k => match k with
  | 0 => ("ForthHouse$Judge", "words", "LForthHouse$Words;", true)
  | 1 => ("ForthHouse$Judge", "items", "LForthHouse$Items;", true)
  | 2 => ("ForthHouse$Judge", "desk", "LForthHouse$Task;", true)
  | 3 => ("ForthHouse$Judge", "heights", "[I", true)
  | 4 => ("ForthHouse$Judge", "returns", "[I", true)
  | 5 => ("ForthHouse$Judge", "loops", "[I", true)
  | 6 => ("ForthHouse$Judge", "seen", "[B", true)
  | 7 => ("ForthHouse$Judge", "token", "I", false)
  | 8 => ("ForthHouse$Judge", "first", "I", false)
  | 9 => ("ForthHouse$Judge", "end", "I", false)
  | 10 => ("ForthHouse$Judge", "low", "I", false)
  | 11 => ("ForthHouse$Judge", "result", "I", false)
  | 12 => ("ForthHouse$Judge", "spot", "I", false)
  | 13 => ("ForthHouse$Judge", "lowest", "I", false)
  | 14 => ("ForthHouse$Judge", "exitHeight", "I", false)
  | 15 => ("ForthHouse$Judge", "exits", "Z", false)
  | 16 => ("ForthHouse$Judge", "selfMet", "Z", false)
  | 17 => ("ForthHouse$Judge", "selfKnown", "Z", false)
  | 18 => ("ForthHouse$Judge", "selfIn", "I", false)
  | _ => ("ForthHouse$Judge", "selfOut", "I", false)
def tyX3 : Nat → FieldType := fun k => match k with
  | 0 => .object "ForthHouse$Words"
  | 1 => .object "ForthHouse$Items"
  | 2 => .object "ForthHouse$Task"
  | 3 => .array .int
  | 4 => .array .int
  | 5 => .array .int
  | 6 => .array .byte
  | 7 => .int
  | 8 => .int
  | 9 => .int
  | 10 => .int
  | 11 => .int
  | 12 => .int
  | 13 => .int
  | 14 => .int
  | 15 => .boolean
  | 16 => .boolean
  | 17 => .boolean
  | 18 => .int
  | _ => .int
theorem nmX3 : ∀ a, a < 20 → ∀ b, b < 20 → a ≠ b → (TX3 a).2.1 ≠ (TX3 b).2.1 := by decide +kernel
theorem tyX3_ok : ∀ k, k < 20 → parseFieldDescriptor (TX3 k).2.2.1 = some (tyX3 k) := by decide +kernel
def RX4 : String := "ForthHouse$Lists"
def TX4 : u_T := fun k => match k with
  | 0 => ("ForthHouse$Lists", "order", "[I", true)
  | 1 => ("ForthHouse$Lists", "orderCount", "I", false)
  | 2 => ("ForthHouse$Lists", "total", "I", false)
  | 3 => ("ForthHouse$Lists", "current", "I", false)
  | 4 => ("ForthHouse$Lists", "markers", "I", false)
  | 5 => ("ForthHouse$Lists", "markItems", "[I", true)
  | 6 => ("ForthHouse$Lists", "markLists", "[I", true)
  | 7 => ("ForthHouse$Lists", "markHeres", "[I", true)
  | 8 => ("ForthHouse$Lists", "markLatest", "[I", true)
  | 9 => ("ForthHouse$Lists", "markCurrents", "[I", true)
  | 10 => ("ForthHouse$Lists", "markCounts", "[I", true)
  | _ => ("ForthHouse$Lists", "markOrders", "[I", true)
def tyX4 : Nat → FieldType := fun k => match k with
  | 0 => .array .int
  | 1 => .int
  | 2 => .int
  | 3 => .int
  | 4 => .int
  | 5 => .array .int
  | 6 => .array .int
  | 7 => .array .int
  | 8 => .array .int
  | 9 => .array .int
  | 10 => .array .int
  | _ => .array .int
theorem nmX4 : ∀ a, a < 12 → ∀ b, b < 12 → a ≠ b → (TX4 a).2.1 ≠ (TX4 b).2.1 := by decide +kernel
theorem tyX4_ok : ∀ k, k < 12 → parseFieldDescriptor (TX4 k).2.2.1 = some (tyX4 k) := by decide +kernel
def RX5 : String := "ForthHouse$Making"
def TX5 : u_T := fun k => match k with
  | 0 => ("ForthHouse$Making", "items", "LForthHouse$Items;", true)
  | 1 => ("ForthHouse$Making", "compiling", "Z", false)
  | 2 => ("ForthHouse$Making", "nameless", "Z", false)
  | 3 => ("ForthHouse$Making", "latestBefore", "I", false)
  | 4 => ("ForthHouse$Making", "open", "I", false)
  | 5 => ("ForthHouse$Making", "tokens", "[I", true)
  | 6 => ("ForthHouse$Making", "bases", "[I", true)
  | 7 => ("ForthHouse$Making", "overs", "[I", true)
  | 8 => ("ForthHouse$Making", "marks", "[I", true)
  | 9 => ("ForthHouse$Making", "localCounts", "[I", true)
  | 10 => ("ForthHouse$Making", "localLengths", "[B", true)
  | 11 => ("ForthHouse$Making", "localNames", "[B", true)
  | 12 => ("ForthHouse$Making", "pairs", "I", false)
  | 13 => ("ForthHouse$Making", "pairKinds", "[I", true)
  | _ => ("ForthHouse$Making", "pairPlaces", "[I", true)
def tyX5 : Nat → FieldType := fun k => match k with
  | 0 => .object "ForthHouse$Items"
  | 1 => .boolean
  | 2 => .boolean
  | 3 => .int
  | 4 => .int
  | 5 => .array .int
  | 6 => .array .int
  | 7 => .array .int
  | 8 => .array .int
  | 9 => .array .int
  | 10 => .array .byte
  | 11 => .array .byte
  | 12 => .int
  | 13 => .array .int
  | _ => .array .int
theorem nmX5 : ∀ a, a < 15 → ∀ b, b < 15 → a ≠ b → (TX5 a).2.1 ≠ (TX5 b).2.1 := by decide +kernel
theorem tyX5_ok : ∀ k, k < 15 → parseFieldDescriptor (TX5 k).2.2.1 = some (tyX5 k) := by decide +kernel
def RX6 : String := "ForthHouse$Sink"
def TX6 : u_T := fun k => match k with
  | 0 => ("ForthHouse$Sink", "bytes", "[B", true)
  | 1 => ("ForthHouse$Sink", "total", "I", false)
  | 2 => ("ForthHouse$Sink", "digits", "[B", true)
  | 3 => ("ForthHouse$Sink", "noted", "I", false)
  | 4 => ("ForthHouse$Sink", "kept", "[I", true)
  | 5 => ("ForthHouse$Sink", "keptCount", "I", false)
  | 6 => ("ForthHouse$Sink", "good", "I", false)
  | _ => ("ForthHouse$Sink", "bad", "I", false)
def tyX6 : Nat → FieldType := fun k => match k with
  | 0 => .array .byte
  | 1 => .int
  | 2 => .array .byte
  | 3 => .int
  | 4 => .array .int
  | 5 => .int
  | 6 => .int
  | _ => .int
theorem nmX6 : ∀ a, a < 8 → ∀ b, b < 8 → a ≠ b → (TX6 a).2.1 ≠ (TX6 b).2.1 := by decide +kernel
theorem tyX6_ok : ∀ k, k < 8 → parseFieldDescriptor (TX6 k).2.2.1 = some (tyX6 k) := by decide +kernel
def RX7 : String := "ForthHouse$Space"
def TX7 : u_T := fun k => match k with
  | 0 => ("ForthHouse$Space", "bytes", "[B", true)
  | 1 => ("ForthHouse$Space", "cellBytes", "I", false)
  | 2 => ("ForthHouse$Space", "choices", "I", false)
  | 3 => ("ForthHouse$Space", "here", "I", false)
  | _ => ("ForthHouse$Space", "picture", "I", false)
def tyX7 : Nat → FieldType := fun k => match k with
  | 0 => .array .byte
  | 1 => .int
  | 2 => .int
  | 3 => .int
  | _ => .int
theorem nmX7 : ∀ a, a < 5 → ∀ b, b < 5 → a ≠ b → (TX7 a).2.1 ≠ (TX7 b).2.1 := by decide +kernel
theorem tyX7_ok : ∀ k, k < 5 → parseFieldDescriptor (TX7 k).2.2.1 = some (tyX7 k) := by decide +kernel
def RX8 : String := "ForthHouse$Task"
def TX8 : u_T := fun k => match k with
  | 0 => ("ForthHouse$Task", "space", "LForthHouse$Space;", true)
  | 1 => ("ForthHouse$Task", "data", "[I", true)
  | 2 => ("ForthHouse$Task", "returns", "[I", true)
  | 3 => ("ForthHouse$Task", "loops", "[I", true)
  | 4 => ("ForthHouse$Task", "locals", "[I", true)
  | 5 => ("ForthHouse$Task", "frames", "[I", true)
  | 6 => ("ForthHouse$Task", "box", "[I", true)
  | 7 => ("ForthHouse$Task", "dataCount", "I", false)
  | 8 => ("ForthHouse$Task", "returnCount", "I", false)
  | 9 => ("ForthHouse$Task", "loopCount", "I", false)
  | 10 => ("ForthHouse$Task", "localCount", "I", false)
  | 11 => ("ForthHouse$Task", "frameCount", "I", false)
  | 12 => ("ForthHouse$Task", "boxCount", "I", false)
  | 13 => ("ForthHouse$Task", "place", "I", false)
  | 14 => ("ForthHouse$Task", "state", "I", false)
  | 15 => ("ForthHouse$Task", "code", "I", false)
  | 16 => ("ForthHouse$Task", "token", "I", false)
  | _ => ("ForthHouse$Task", "takes", "Z", false)
def tyX8 : Nat → FieldType := fun k => match k with
  | 0 => .object "ForthHouse$Space"
  | 1 => .array .int
  | 2 => .array .int
  | 3 => .array .int
  | 4 => .array .int
  | 5 => .array .int
  | 6 => .array .int
  | 7 => .int
  | 8 => .int
  | 9 => .int
  | 10 => .int
  | 11 => .int
  | 12 => .int
  | 13 => .int
  | 14 => .int
  | 15 => .int
  | 16 => .int
  | _ => .boolean
theorem nmX8 : ∀ a, a < 18 → ∀ b, b < 18 → a ≠ b → (TX8 a).2.1 ≠ (TX8 b).2.1 := by decide +kernel
theorem tyX8_ok : ∀ k, k < 18 → parseFieldDescriptor (TX8 k).2.2.1 = some (tyX8 k) := by decide +kernel
def RX9 : String := "ForthHouse$Texts"
def TX9 : u_T := fun k => match k with
  | 0 => ("ForthHouse$Texts", "space", "LForthHouse$Space;", true)
  | 1 => ("ForthHouse$Texts", "main", "[B", true)
  | 2 => ("ForthHouse$Texts", "blocks", "[B", true)
  | 3 => ("ForthHouse$Texts", "kinds", "[I", true)
  | 4 => ("ForthHouse$Texts", "places", "[I", true)
  | 5 => ("ForthHouse$Texts", "lengths", "[I", true)
  | 6 => ("ForthHouse$Texts", "waits", "[I", true)
  | 7 => ("ForthHouse$Texts", "read", "[B", true)
  | 8 => ("ForthHouse$Texts", "readLength", "I", false)
  | 9 => ("ForthHouse$Texts", "mainLength", "I", false)
  | 10 => ("ForthHouse$Texts", "nested", "I", false)
  | 11 => ("ForthHouse$Texts", "live", "Z", false)
  | 12 => ("ForthHouse$Texts", "source", "[B", false)
  | 13 => ("ForthHouse$Texts", "from", "I", false)
  | _ => ("ForthHouse$Texts", "length", "I", false)
def tyX9 : Nat → FieldType := fun k => match k with
  | 0 => .object "ForthHouse$Space"
  | 1 => .array .byte
  | 2 => .array .byte
  | 3 => .array .int
  | 4 => .array .int
  | 5 => .array .int
  | 6 => .array .int
  | 7 => .array .byte
  | 8 => .int
  | 9 => .int
  | 10 => .int
  | 11 => .boolean
  | 12 => .array .byte
  | 13 => .int
  | _ => .int
theorem nmX9 : ∀ a, a < 15 → ∀ b, b < 15 → a ≠ b → (TX9 a).2.1 ≠ (TX9 b).2.1 := by decide +kernel
theorem tyX9_ok : ∀ k, k < 15 → parseFieldDescriptor (TX9 k).2.2.1 = some (tyX9 k) := by decide +kernel
def RX10 : String := "ForthHouse$Words"
def TX10 : u_T := fun k => match k with
  | 0 => ("ForthHouse$Words", "kinds", "[B", true)
  | 1 => ("ForthHouse$Words", "flags", "[B", true)
  | 2 => ("ForthHouse$Words", "lists", "[B", true)
  | 3 => ("ForthHouse$Words", "values", "[I", true)
  | 4 => ("ForthHouse$Words", "sizes", "[I", true)
  | 5 => ("ForthHouse$Words", "does", "[I", true)
  | 6 => ("ForthHouse$Words", "nameLengths", "[B", true)
  | 7 => ("ForthHouse$Words", "names", "[B", true)
  | 8 => ("ForthHouse$Words", "effects", "[B", true)
  | 9 => ("ForthHouse$Words", "ins", "[I", true)
  | 10 => ("ForthHouse$Words", "outs", "[I", true)
  | 11 => ("ForthHouse$Words", "spots", "[I", true)
  | 12 => ("ForthHouse$Words", "total", "I", false)
  | _ => ("ForthHouse$Words", "latest", "I", false)
def tyX10 : Nat → FieldType := fun k => match k with
  | 0 => .array .byte
  | 1 => .array .byte
  | 2 => .array .byte
  | 3 => .array .int
  | 4 => .array .int
  | 5 => .array .int
  | 6 => .array .byte
  | 7 => .array .byte
  | 8 => .array .byte
  | 9 => .array .int
  | 10 => .array .int
  | 11 => .array .int
  | 12 => .int
  | _ => .int
theorem nmX10 : ∀ a, a < 14 → ∀ b, b < 14 → a ≠ b → (TX10 a).2.1 ≠ (TX10 b).2.1 := by decide +kernel
theorem tyX10_ok : ∀ k, k < 14 → parseFieldDescriptor (TX10 k).2.2.1 = some (tyX10 k) := by decide +kernel
def RX11 : String := "ForthHouse"
def TX11 : u_T := fun k => match k with
  | 0 => ("ForthHouse", "tape", "[B", true)
  | 1 => ("ForthHouse", "tapeLength", "I", false)
  | 2 => ("ForthHouse", "systems", "[LForthHouse$Forth;", true)
  | 3 => ("ForthHouse", "systemCount", "I", false)
  | 4 => ("ForthHouse", "images", "[LForthHouse$Forth;", true)
  | 5 => ("ForthHouse", "kept", "[Z", true)
  | _ => ("ForthHouse", "board", "LForthHouse$Chip;", true)
def tyX11 : Nat → FieldType := fun k => match k with
  | 0 => .array .byte
  | 1 => .int
  | 2 => .array (.object "ForthHouse$Forth")
  | 3 => .int
  | 4 => .array (.object "ForthHouse$Forth")
  | 5 => .array .boolean
  | _ => .object "ForthHouse$Chip"
theorem nmX11 : ∀ a, a < 7 → ∀ b, b < 7 → a ≠ b → (TX11 a).2.1 ≠ (TX11 b).2.1 := by decide +kernel
theorem tyX11_ok : ∀ k, k < 7 → parseFieldDescriptor (TX11 k).2.2.1 = some (tyX11 k) := by decide +kernel
def RX12 : String := "ForthHouseModel"
def TX12 : u_T := fun k => match k with
  | 0 => ("ForthHouseModel", "m", "[I", true)
  | 1 => ("ForthHouseModel", "tape", "[B", true)
  | 2 => ("ForthHouseModel", "taped", "I", false)
  | 3 => ("ForthHouseModel", "b", "I", false)
  | 4 => ("ForthHouseModel", "t", "I", false)
  | 5 => ("ForthHouseModel", "cell", "I", false)
  | 6 => ("ForthHouseModel", "code", "I", false)
  | 7 => ("ForthHouseModel", "places", "[I", true)
  | 8 => ("ForthHouseModel", "effects", "[I", true)
  | 9 => ("ForthHouseModel", "read", "[I", true)
  | 10 => ("ForthHouseModel", "readSize", "I", false)
  | 11 => ("ForthHouseModel", "left", "Z", false)
  | 12 => ("ForthHouseModel", "low", "J", false)
  | 13 => ("ForthHouseModel", "more", "J", false)
  | 14 => ("ForthHouseModel", "isDouble", "Z", false)
  | 15 => ("ForthHouseModel", "heights", "[I", true)
  | 16 => ("ForthHouseModel", "seen", "[I", true)
  | 17 => ("ForthHouseModel", "from", "I", false)
  | 18 => ("ForthHouseModel", "behind", "I", false)
  | 19 => ("ForthHouseModel", "verdict", "I", false)
  | 20 => ("ForthHouseModel", "place", "I", false)
  | 21 => ("ForthHouseModel", "least", "I", false)
  | 22 => ("ForthHouseModel", "given", "I", false)
  | 23 => ("ForthHouseModel", "exits", "Z", false)
  | 24 => ("ForthHouseModel", "itself", "Z", false)
  | 25 => ("ForthHouseModel", "led", "[Z", true)
  | 26 => ("ForthHouseModel", "chip", "[I", true)
  | 27 => ("ForthHouseModel", "chipSize", "I", false)
  | 28 => ("ForthHouseModel", "chipAt", "I", false)
  | 29 => ("ForthHouseModel", "chipCode", "I", false)
  | 30 => ("ForthHouseModel", "chipDone", "I", false)
  | 31 => ("ForthHouseModel", "chipEnded", "Z", false)
  | 32 => ("ForthHouseModel", "parts", "[I", true)
  | 33 => ("ForthHouseModel", "partAt", "[I", true)
  | _ => ("ForthHouseModel", "partMany", "I", false)
def tyX12 : Nat → FieldType := fun k => match k with
  | 0 => .array .int
  | 1 => .array .byte
  | 2 => .int
  | 3 => .int
  | 4 => .int
  | 5 => .int
  | 6 => .int
  | 7 => .array .int
  | 8 => .array .int
  | 9 => .array .int
  | 10 => .int
  | 11 => .boolean
  | 12 => .long
  | 13 => .long
  | 14 => .boolean
  | 15 => .array .int
  | 16 => .array .int
  | 17 => .int
  | 18 => .int
  | 19 => .int
  | 20 => .int
  | 21 => .int
  | 22 => .int
  | 23 => .boolean
  | 24 => .boolean
  | 25 => .array .boolean
  | 26 => .array .int
  | 27 => .int
  | 28 => .int
  | 29 => .int
  | 30 => .int
  | 31 => .boolean
  | 32 => .array .int
  | 33 => .array .int
  | _ => .int
theorem nmX12 : ∀ a, a < 35 → ∀ b, b < 35 → a ≠ b → (TX12 a).2.1 ≠ (TX12 b).2.1 := by decide +kernel
theorem tyX12_ok : ∀ k, k < 35 → parseFieldDescriptor (TX12 k).2.2.1 = some (tyX12 k) := by decide +kernel
def RJx145de : String := "java/io/Serializable"
def RJx9f9b0 : String := "java/lang/CharSequence"
def RJxb160c : String := "java/lang/Comparable"
def RJ9 : String := "java/lang/Math"
def RJ0 : String := "java/lang/String"
def RJ1 : String := "java/lang/StringLatin1"
def RJ2 : String := "java/lang/StringUTF16"
def RJ10 : String := "java/lang/System"
def RJxfd54e : String := "java/lang/constant/Constable"
def RJx3cf43 : String := "java/lang/constant/ConstantDesc"
def RJ7 : String := "java/util/Arrays"
def RJ3 : String := "jdk/internal/util/Preconditions"
def RL : String := "ForthHouseLaw"
abbrev cX0_init : ByteArray := prog_2_method_1_code
abbrev cX0_holds : ByteArray := prog_2_method_2_code
abbrev cX0_make : ByteArray := prog_2_method_3_code
abbrev cX0_meet : ByteArray := prog_2_method_4_code
abbrev cX0_plan : ByteArray := prog_2_method_5_code
abbrev cX0_width : ByteArray := prog_2_method_6_code
abbrev cX0_isOnChip : ByteArray := prog_2_method_7_code
abbrev cX0_layDefinition : ByteArray := prog_2_method_8_code
abbrev cX0_layWord : ByteArray := prog_2_method_9_code
abbrev cX0_layCell : ByteArray := prog_2_method_10_code
abbrev cX0_lay : ByteArray := prog_2_method_11_code
abbrev cX0_receive : ByteArray := prog_2_method_12_code
abbrev cX0_run : ByteArray := prog_2_method_13_code
abbrev cX0_step : ByteArray := prog_2_method_14_code
abbrev cX0_end : ByteArray := prog_2_method_15_code
abbrev cX0_tell : ByteArray := prog_2_method_16_code
abbrev cX1_init : ByteArray := prog_3_method_1_code
abbrev cX1_begin : ByteArray := prog_3_method_2_code
abbrev cX1_become : ByteArray := prog_3_method_3_code
abbrev cX1_isLike : ByteArray := prog_3_method_4_code
abbrev cX1_figure : ByteArray := prog_3_method_5_code
abbrev cX1_tokenOf : ByteArray := prog_3_method_6_code
abbrev cX1_othersEnded : ByteArray := prog_3_method_7_code
abbrev cX1_isAtRest : ByteArray := prog_3_method_8_code
abbrev cX1_hasText : ByteArray := prog_3_method_9_code
abbrev cX1_hand : ByteArray := prog_3_method_10_code
abbrev cX1_run : ByteArray := prog_3_method_11_code
abbrev cX1_step : ByteArray := prog_3_method_12_code
abbrev cX1_ask : ByteArray := prog_3_method_13_code
abbrev cX1_beginTask : ByteArray := prog_3_method_14_code
abbrev cX1_take : ByteArray := prog_3_method_15_code
abbrev cX1_takeFromBox : ByteArray := prog_3_method_16_code
abbrev cX1_endCatch : ByteArray := prog_3_method_17_code
abbrev cX1_itemStep : ByteArray := prog_3_method_18_code
abbrev cX1_does : ByteArray := prog_3_method_19_code
abbrev cX1_abort : ByteArray := prog_3_method_20_code
abbrev cX1_putOut : ByteArray := prog_3_method_21_code
abbrev cX1_textStep : ByteArray := prog_3_method_22_code
abbrev cX1_endText : ByteArray := prog_3_method_23_code
abbrev cX1_takeNumber : ByteArray := prog_3_method_24_code
abbrev cX1_digitOf : ByteArray := prog_3_method_25_code
abbrev cX1_leave : ByteArray := prog_3_method_26_code
abbrev cX1_unwind : ByteArray := prog_3_method_27_code
abbrev cX1_throwOut : ByteArray := prog_3_method_28_code
abbrev cX1_endTask : ByteArray := prog_3_method_29_code
abbrev cX1_handOn : ByteArray := prog_3_method_30_code
abbrev cX1_perform : ByteArray := prog_3_method_31_code
abbrev cX1_offer : ByteArray := prog_3_method_32_code
abbrev cX1_doCreated : ByteArray := prog_3_method_33_code
abbrev cX1_goBack : ByteArray := prog_3_method_34_code
abbrev cX1_printing : ByteArray := prog_3_method_35_code
abbrev cX1_print : ByteArray := prog_3_method_36_code
abbrev cX1_sharp : ByteArray := prog_3_method_37_code
abbrev cX1_defining : ByteArray := prog_3_method_38_code
abbrev cX1_readFor : ByteArray := prog_3_method_39_code
abbrev cX1_beginDefinition : ByteArray := prog_3_method_40_code
abbrev cX1_endDefinition : ByteArray := prog_3_method_41_code
abbrev cX1_finish : ByteArray := prog_3_method_42_code
abbrev cX1_beginQuotation : ByteArray := prog_3_method_43_code
abbrev cX1_endQuotation : ByteArray := prog_3_method_44_code
abbrev cX1_addDoes : ByteArray := prog_3_method_45_code
abbrev cX1_makeValue : ByteArray := prog_3_method_46_code
abbrev cX1_makeWord : ByteArray := prog_3_method_47_code
abbrev cX1_makeImmediate : ByteArray := prog_3_method_48_code
abbrev cX1_tick : ByteArray := prog_3_method_49_code
abbrev cX1_setNamed : ByteArray := prog_3_method_50_code
abbrev cX1_assign : ByteArray := prog_3_method_51_code
abbrev cX1_string : ByteArray := prog_3_method_52_code
abbrev cX1_readLocals : ByteArray := prog_3_method_53_code
abbrev cX1_addLocals : ByteArray := prog_3_method_54_code
abbrev cX1_doToken : ByteArray := prog_3_method_55_code
abbrev cX1_evaluateText : ByteArray := prog_3_method_56_code
abbrev cX1_nest : ByteArray := prog_3_method_57_code
abbrev cX1_tasking : ByteArray := prog_3_method_58_code
abbrev cX1_beginCatch : ByteArray := prog_3_method_59_code
abbrev cX1_makeTask : ByteArray := prog_3_method_60_code
abbrev cX1_send : ByteArray := prog_3_method_61_code
abbrev cX1_receive : ByteArray := prog_3_method_62_code
abbrev cX1_load : ByteArray := prog_3_method_63_code
abbrev cX2_init : ByteArray := prog_4_method_1_code
abbrev cX2_become : ByteArray := prog_4_method_2_code
abbrev cX2_isLike : ByteArray := prog_4_method_3_code
abbrev cX2_holds : ByteArray := prog_4_method_4_code
abbrev cX2_hasRoom : ByteArray := prog_4_method_5_code
abbrev cX2_add : ByteArray := prog_4_method_6_code
abbrev cX2_point : ByteArray := prog_4_method_7_code
abbrev cX2_isJump : ByteArray := prog_4_method_8_code
abbrev cX2_isWord : ByteArray := prog_4_method_9_code
abbrev cX2_isKind : ByteArray := prog_4_method_10_code
abbrev cX3_init : ByteArray := prog_5_method_1_code
abbrev cX3_work : ByteArray := prog_5_method_2_code
abbrev cX3_pass : ByteArray := prog_5_method_3_code
abbrev cX3_leastWaiting : ByteArray := prog_5_method_4_code
abbrev cX3_stop : ByteArray := prog_5_method_5_code
abbrev cX3_arrive : ByteArray := prog_5_method_6_code
abbrev cX3_take : ByteArray := prog_5_method_7_code
abbrev cX3_goOn : ByteArray := prog_5_method_8_code
abbrev cX3_leaveAt : ByteArray := prog_5_method_9_code
abbrev cX3_look : ByteArray := prog_5_method_10_code
abbrev cX3_lookLoop : ByteArray := prog_5_method_11_code
abbrev cX3_lookWord : ByteArray := prog_5_method_12_code
abbrev cX3_lookBuiltIn : ByteArray := prog_5_method_13_code
abbrev cX3_mayLean : ByteArray := prog_5_method_14_code
abbrev cX3_makeLean : ByteArray := prog_5_method_15_code
abbrev cX3_leanOnce : ByteArray := prog_5_method_16_code
abbrev cX3_markTargets : ByteArray := prog_5_method_17_code
abbrev cX3_goes : ByteArray := prog_5_method_18_code
abbrev cX3_reckonsOne : ByteArray := prog_5_method_19_code
abbrev cX3_reckonsTwo : ByteArray := prog_5_method_20_code
abbrev cX3_reckoned : ByteArray := prog_5_method_21_code
abbrev cX3_remove : ByteArray := prog_5_method_22_code
abbrev cX4_init : ByteArray := prog_6_method_1_code
abbrev cX4_become : ByteArray := prog_6_method_2_code
abbrev cX4_isLike : ByteArray := prog_6_method_3_code
abbrev cX4_only : ByteArray := prog_6_method_4_code
abbrev cX4_search : ByteArray := prog_6_method_5_code
abbrev cX4_previous : ByteArray := prog_6_method_6_code
abbrev cX4_define : ByteArray := prog_6_method_7_code
abbrev cX4_mark : ByteArray := prog_6_method_8_code
abbrev cX4_goBack : ByteArray := prog_6_method_9_code
abbrev cX5_init : ByteArray := prog_7_method_1_code
abbrev cX5_become : ByteArray := prog_7_method_2_code
abbrev cX5_isLike : ByteArray := prog_7_method_3_code
abbrev cX5_begin : ByteArray := prog_7_method_4_code
abbrev cX5_forget : ByteArray := prog_7_method_5_code
abbrev cX5_innermost : ByteArray := prog_7_method_6_code
abbrev cX5_base : ByteArray := prog_7_method_7_code
abbrev cX5_isLevel : ByteArray := prog_7_method_8_code
abbrev cX5_isMarked : ByteArray := prog_7_method_9_code
abbrev cX5_mark : ByteArray := prog_7_method_10_code
abbrev cX5_localOf : ByteArray := prog_7_method_11_code
abbrev cX5_nameLocal : ByteArray := prog_7_method_12_code
abbrev cX5_countLocals : ByteArray := prog_7_method_13_code
abbrev cX5_kindAt : ByteArray := prog_7_method_14_code
abbrev cX5_placeAt : ByteArray := prog_7_method_15_code
abbrev cX5_setPair : ByteArray := prog_7_method_16_code
abbrev cX5_control : ByteArray := prog_7_method_17_code
abbrev cX5_pair : ByteArray := prog_7_method_18_code
abbrev cX5_branch : ByteArray := prog_7_method_19_code
abbrev cX5_then : ByteArray := prog_7_method_20_code
abbrev cX5_otherwise : ByteArray := prog_7_method_21_code
abbrev cX5_back : ByteArray := prog_7_method_22_code
abbrev cX5_during : ByteArray := prog_7_method_23_code
abbrev cX5_repeat : ByteArray := prog_7_method_24_code
abbrev cX5_endLoop : ByteArray := prog_7_method_25_code
abbrev cX5_leave : ByteArray := prog_7_method_26_code
abbrev cX5_endCase : ByteArray := prog_7_method_27_code
abbrev cX6_init : ByteArray := prog_8_method_1_code
abbrev cX6_become : ByteArray := prog_8_method_2_code
abbrev cX6_byteOf : ByteArray := prog_8_method_3_code
abbrev cX6_grow : ByteArray := prog_8_method_4_code
abbrev cX6_emit : ByteArray := prog_8_method_5_code
abbrev cX6_blanks : ByteArray := prog_8_method_6_code
abbrev cX6_write : ByteArray := prog_8_method_7_code
abbrev cX6_print : ByteArray := prog_8_method_8_code
abbrev cX6_digit : ByteArray := prog_8_method_9_code
abbrev cX6_keepAbove : ByteArray := prog_8_method_10_code
abbrev cX6_judgeAbove : ByteArray := prog_8_method_11_code
abbrev cX7_init : ByteArray := prog_9_method_1_code
abbrev cX7_become : ByteArray := prog_9_method_2_code
abbrev cX7_isLike : ByteArray := prog_9_method_3_code
abbrev cX7_isFloored : ByteArray := prog_9_method_4_code
abbrev cX7_isCased : ByteArray := prog_9_method_5_code
abbrev cX7_bits : ByteArray := prog_9_method_6_code
abbrev cX7_cut : ByteArray := prog_9_method_7_code
abbrev cX7_bare : ByteArray := prog_9_method_8_code
abbrev cX7_holds : ByteArray := prog_9_method_9_code
abbrev cX7_byteAt : ByteArray := prog_9_method_10_code
abbrev cX7_cellAt : ByteArray := prog_9_method_11_code
abbrev cX7_layCell : ByteArray := prog_9_method_12_code
abbrev cX7_hasRoom : ByteArray := prog_9_method_13_code
abbrev cX7_moveHere : ByteArray := prog_9_method_14_code
abbrev cX7_aligned : ByteArray := prog_9_method_15_code
abbrev cX7_base : ByteArray := prog_9_method_16_code
abbrev cX7_hold : ByteArray := prog_9_method_17_code
abbrev cX8_init : ByteArray := prog_10_method_1_code
abbrev cX8_become : ByteArray := prog_10_method_2_code
abbrev cX8_isLike : ByteArray := prog_10_method_3_code
abbrev cX8_clearRows : ByteArray := prog_10_method_4_code
abbrev cX8_lengthOf : ByteArray := prog_10_method_5_code
abbrev cX8_cellOf : ByteArray := prog_10_method_6_code
abbrev cX8_lack : ByteArray := prog_10_method_7_code
abbrev cX8_push : ByteArray := prog_10_method_8_code
abbrev cX8_pop : ByteArray := prog_10_method_9_code
abbrev cX8_peek : ByteArray := prog_10_method_10_code
abbrev cX8_give : ByteArray := prog_10_method_11_code
abbrev cX8_flag : ByteArray := prog_10_method_12_code
abbrev cX8_giveTwin : ByteArray := prog_10_method_13_code
abbrev cX8_popTwin : ByteArray := prog_10_method_14_code
abbrev cX8_popBareTwin : ByteArray := prog_10_method_15_code
abbrev cX8_bringUp : ByteArray := prog_10_method_16_code
abbrev cX8_base : ByteArray := prog_10_method_17_code
abbrev cX8_frameKind : ByteArray := prog_10_method_18_code
abbrev cX8_open : ByteArray := prog_10_method_19_code
abbrev cX8_enter : ByteArray := prog_10_method_20_code
abbrev cX8_close : ByteArray := prog_10_method_21_code
abbrev cX8_exit : ByteArray := prog_10_method_22_code
abbrev cX8_latestCatch : ByteArray := prog_10_method_23_code
abbrev cX8_fallTo : ByteArray := prog_10_method_24_code
abbrev cX8_core : ByteArray := prog_10_method_25_code
abbrev cX8_shuffle : ByteArray := prog_10_method_26_code
abbrev cX8_duplicate : ByteArray := prog_10_method_27_code
abbrev cX8_reachDown : ByteArray := prog_10_method_28_code
abbrev cX8_overReturn : ByteArray := prog_10_method_29_code
abbrev cX8_toReturn : ByteArray := prog_10_method_30_code
abbrev cX8_reckon : ByteArray := prog_10_method_31_code
abbrev cX8_twinWord : ByteArray := prog_10_method_32_code
abbrev cX8_divide : ByteArray := prog_10_method_33_code
abbrev cX8_divideBare : ByteArray := prog_10_method_34_code
abbrev cX8_divideTwin : ByteArray := prog_10_method_35_code
abbrev cX8_compare : ByteArray := prog_10_method_36_code
abbrev cX8_shift : ByteArray := prog_10_method_37_code
abbrev cX8_within : ByteArray := prog_10_method_38_code
abbrev cX8_memory : ByteArray := prog_10_method_39_code
abbrev cX8_lay : ByteArray := prog_10_method_40_code
abbrev cX8_fill : ByteArray := prog_10_method_41_code
abbrev cX8_move : ByteArray := prog_10_method_42_code
abbrev cX8_reach : ByteArray := prog_10_method_43_code
abbrev cX8_loopWord : ByteArray := prog_10_method_44_code
abbrev cX8_flow : ByteArray := prog_10_method_45_code
abbrev cX8_beginLoop : ByteArray := prog_10_method_46_code
abbrev cX8_loop : ByteArray := prog_10_method_47_code
abbrev cX8_of : ByteArray := prog_10_method_48_code
abbrev cX8_enterLocals : ByteArray := prog_10_method_49_code
abbrev cX8_local : ByteArray := prog_10_method_50_code
abbrev cX9_init : ByteArray := prog_11_method_1_code
abbrev cX9_become : ByteArray := prog_11_method_2_code
abbrev cX9_isLike : ByteArray := prog_11_method_3_code
abbrev cX9_settle : ByteArray := prog_11_method_4_code
abbrev cX9_start : ByteArray := prog_11_method_5_code
abbrev cX9_nest : ByteArray := prog_11_method_6_code
abbrev cX9_fallTo : ByteArray := prog_11_method_7_code
abbrev cX9_inBlock : ByteArray := prog_11_method_8_code
abbrev cX9_readWord : ByteArray := prog_11_method_9_code
abbrev cX9_isBlank : ByteArray := prog_11_method_10_code
abbrev cX9_readUpTo : ByteArray := prog_11_method_11_code
abbrev cX9_skipLine : ByteArray := prog_11_method_12_code
abbrev cX9_isRead : ByteArray := prog_11_method_13_code
abbrev cX10_init : ByteArray := prog_12_method_1_code
abbrev cX10_addLine : ByteArray := prog_12_method_2_code
abbrev cX10_become : ByteArray := prog_12_method_3_code
abbrev cX10_isLike : ByteArray := prog_12_method_4_code
abbrev cX10_holds : ByteArray := prog_12_method_5_code
abbrev cX10_isFull : ByteArray := prog_12_method_6_code
abbrev cX10_has : ByteArray := prog_12_method_7_code
abbrev cX10_isKind : ByteArray := prog_12_method_8_code
abbrev cX10_isEnded : ByteArray := prog_12_method_9_code
abbrev cX10_set : ByteArray := prog_12_method_10_code
abbrev cX10_make : ByteArray := prog_12_method_11_code
abbrev cX10_end : ByteArray := prog_12_method_12_code
abbrev cX10_newest : ByteArray := prog_12_method_13_code
abbrev cX10_tell : ByteArray := prog_12_method_14_code
abbrev cX10_letter : ByteArray := prog_12_method_15_code
abbrev cX11_init : ByteArray := prog_1_method_1_code
abbrev cX11_type : ByteArray := prog_1_method_2_code
abbrev cX11_wipe : ByteArray := prog_1_method_3_code
abbrev cX11_system : ByteArray := prog_1_method_4_code
abbrev cX11_evaluate : ByteArray := prog_1_method_5_code
abbrev cX11_go : ByteArray := prog_1_method_6_code
abbrev cX11_out : ByteArray := prog_1_method_7_code
abbrev cX11_count : ByteArray := prog_1_method_8_code
abbrev cX11_thrown : ByteArray := prog_1_method_9_code
abbrev cX11_depth : ByteArray := prog_1_method_10_code
abbrev cX11_cell : ByteArray := prog_1_method_11_code
abbrev cX11_task : ByteArray := prog_1_method_12_code
abbrev cX11_fetch : ByteArray := prog_1_method_13_code
abbrev cX11_find : ByteArray := prog_1_method_14_code
abbrev cX11_word : ByteArray := prog_1_method_15_code
abbrev cX11_name : ByteArray := prog_1_method_16_code
abbrev cX11_item : ByteArray := prog_1_method_17_code
abbrev cX11_effect : ByteArray := prog_1_method_18_code
abbrev cX11_effectOf : ByteArray := prog_1_method_19_code
abbrev cX11_lean : ByteArray := prog_1_method_20_code
abbrev cX11_chip : ByteArray := prog_1_method_21_code
abbrev cX11_chipWord : ByteArray := prog_1_method_22_code
abbrev cX11_chipPut : ByteArray := prog_1_method_23_code
abbrev cX11_chipGo : ByteArray := prog_1_method_24_code
abbrev cX11_chipTold : ByteArray := prog_1_method_25_code
abbrev cX11_chipCell : ByteArray := prog_1_method_26_code
abbrev cX11_chipByte : ByteArray := prog_1_method_27_code
abbrev cX11_put : ByteArray := prog_1_method_28_code
abbrev cX11_keep : ByteArray := prog_1_method_29_code
abbrev cX11_again : ByteArray := prog_1_method_30_code
abbrev cX11_same : ByteArray := prog_1_method_31_code
abbrev cX11_systemOf : ByteArray := prog_1_method_32_code
abbrev cX11_taskOf : ByteArray := prog_1_method_33_code
abbrev cX11_stepsGood : ByteArray := prog_1_method_34_code
abbrev cX11_sameCells : ByteArray := prog_1_method_35_code
abbrev cX11_sameBytes : ByteArray := prog_1_method_36_code
abbrev cX11_copyCells : ByteArray := prog_1_method_37_code
abbrev cX11_copyBytes : ByteArray := prog_1_method_38_code
abbrev cX11_spelled : ByteArray := prog_1_method_39_code
abbrev cX11_quotient : ByteArray := prog_1_method_40_code
abbrev cX12_bits : ByteArray := prog_14_method_1_code
abbrev cX12_mask : ByteArray := prog_14_method_2_code
abbrev cX12_wide : ByteArray := prog_14_method_3_code
abbrev cX12_round : ByteArray := prog_14_method_4_code
abbrev cX12_lies : ByteArray := prog_14_method_5_code
abbrev cX12_reach : ByteArray := prog_14_method_6_code
abbrev cX12_byteAt : ByteArray := prog_14_method_7_code
abbrev cX12_putByte : ByteArray := prog_14_method_8_code
abbrev cX12_high : ByteArray := prog_14_method_9_code
abbrev cX12_cellAt : ByteArray := prog_14_method_10_code
abbrev cX12_putCell : ByteArray := prog_14_method_11_code
abbrev cX12_depth : ByteArray := prog_14_method_12_code
abbrev cX12_may : ByteArray := prog_14_method_13_code
abbrev cX12_pop : ByteArray := prog_14_method_14_code
abbrev cX12_push : ByteArray := prog_14_method_15_code
abbrev cX12_top : ByteArray := prog_14_method_16_code
abbrev cX12_pushDouble : ByteArray := prog_14_method_17_code
abbrev cX12_popDouble : ByteArray := prog_14_method_18_code
abbrev cX12_frames : ByteArray := prog_14_method_19_code
abbrev cX12_frameAt : ByteArray := prog_14_method_20_code
abbrev cX12_base : ByteArray := prog_14_method_21_code
abbrev cX12_newFrame : ByteArray := prog_14_method_22_code
abbrev cX12_put : ByteArray := prog_14_method_23_code
abbrev cX12_textFrame : ByteArray := prog_14_method_24_code
abbrev cX12_nested : ByteArray := prog_14_method_25_code
abbrev cX12_textSize : ByteArray := prog_14_method_26_code
abbrev cX12_textByte : ByteArray := prog_14_method_27_code
abbrev cX12_in : ByteArray := prog_14_method_28_code
abbrev cX12_isBlank : ByteArray := prog_14_method_29_code
abbrev cX12_word : ByteArray := prog_14_method_30_code
abbrev cX12_upTo : ByteArray := prog_14_method_31_code
abbrev cX12_wordAt : ByteArray := prog_14_method_32_code
abbrev cX12_itemAt : ByteArray := prog_14_method_33_code
abbrev cX12_isToken : ByteArray := prog_14_method_34_code
abbrev cX12_lower : ByteArray := prog_14_method_35_code
abbrev cX12_isName : ByteArray := prog_14_method_36_code
abbrev cX12_search : ByteArray := prog_14_method_37_code
abbrev cX12_newWord : ByteArray := prog_14_method_38_code
abbrev cX12_newName : ByteArray := prog_14_method_39_code
abbrev cX12_item : ByteArray := prog_14_method_40_code
abbrev cX12_items : ByteArray := prog_14_method_41_code
abbrev cX12_here : ByteArray := prog_14_method_42_code
abbrev cX12_lead : ByteArray := prog_14_method_43_code
abbrev cX12_def : ByteArray := prog_14_method_44_code
abbrev cX12_beginDef : ByteArray := prog_14_method_45_code
abbrev cX12_endDef : ByteArray := prog_14_method_46_code
abbrev cX12_pair : ByteArray := prog_14_method_47_code
abbrev cX12_topPair : ByteArray := prog_14_method_48_code
abbrev cX12_hasPair : ByteArray := prog_14_method_49_code
abbrev cX12_numberBase : ByteArray := prog_14_method_50_code
abbrev cX12_flag : ByteArray := prog_14_method_51_code
abbrev cX12_stack : ByteArray := prog_14_method_52_code
abbrev cX12_roll : ByteArray := prog_14_method_53_code
abbrev cX12_pushReturn : ByteArray := prog_14_method_54_code
abbrev cX12_popReturn : ByteArray := prog_14_method_55_code
abbrev cX12_hasReturn : ByteArray := prog_14_method_56_code
abbrev cX12_returns : ByteArray := prog_14_method_57_code
abbrev cX12_floorOf : ByteArray := prog_14_method_58_code
abbrev cX12_quotient : ByteArray := prog_14_method_59_code
abbrev cX12_divided : ByteArray := prog_14_method_60_code
abbrev cX12_unsignedDivided : ByteArray := prog_14_method_61_code
abbrev cX12_signedDivided : ByteArray := prog_14_method_62_code
abbrev cX12_reckon : ByteArray := prog_14_method_63_code
abbrev cX12_compare : ByteArray := prog_14_method_64_code
abbrev cX12_grow : ByteArray := prog_14_method_65_code
abbrev cX12_up : ByteArray := prog_14_method_66_code
abbrev cX12_storing : ByteArray := prog_14_method_67_code
abbrev cX12_rows : ByteArray := prog_14_method_68_code
abbrev cX12_hold : ByteArray := prog_14_method_69_code
abbrev cX12_letter : ByteArray := prog_14_method_70_code
abbrev cX12_digits : ByteArray := prog_14_method_71_code
abbrev cX12_print : ByteArray := prog_14_method_72_code
abbrev cX12_type : ByteArray := prog_14_method_73_code
abbrev cX12_spaces : ByteArray := prog_14_method_74_code
abbrev cX12_printing : ByteArray := prog_14_method_75_code
abbrev cX12_plain : ByteArray := prog_14_method_76_code
abbrev cX12_layString : ByteArray := prog_14_method_77_code
abbrev cX12_literal : ByteArray := prog_14_method_78_code
abbrev cX12_string : ByteArray := prog_14_method_79_code
abbrev cX12_comment : ByteArray := prog_14_method_80_code
abbrev cX12_named : ByteArray := prog_14_method_81_code
abbrev cX12_local : ByteArray := prog_14_method_82_code
abbrev cX12_is : ByteArray := prog_14_method_83_code
abbrev cX12_locals : ByteArray := prog_14_method_84_code
abbrev cX12_freeMark : ByteArray := prog_14_method_85_code
abbrev cX12_marker : ByteArray := prog_14_method_86_code
abbrev cX12_mark : ByteArray := prog_14_method_87_code
abbrev cX12_makes : ByteArray := prog_14_method_88_code
abbrev cX12_assign : ByteArray := prog_14_method_89_code
abbrev cX12_putValue : ByteArray := prog_14_method_90_code
abbrev cX12_postpone : ByteArray := prog_14_method_91_code
abbrev cX12_ends : ByteArray := prog_14_method_92_code
abbrev cX12_compiles : ByteArray := prog_14_method_93_code
abbrev cX12_drops : ByteArray := prog_14_method_94_code
abbrev cX12_origin : ByteArray := prog_14_method_95_code
abbrev cX12_then : ByteArray := prog_14_method_96_code
abbrev cX12_swapPairs : ByteArray := prog_14_method_97_code
abbrev cX12_back : ByteArray := prog_14_method_98_code
abbrev cX12_settle : ByteArray := prog_14_method_99_code
abbrev cX12_loopEnds : ByteArray := prog_14_method_100_code
abbrev cX12_innermost : ByteArray := prog_14_method_101_code
abbrev cX12_control : ByteArray := prog_14_method_102_code
abbrev cX12_endCase : ByteArray := prog_14_method_103_code
abbrev cX12_does : ByteArray := prog_14_method_104_code
abbrev cX12_enter : ByteArray := prog_14_method_105_code
abbrev cX12_isCompiling : ByteArray := prog_14_method_106_code
abbrev cX12_isOnly : ByteArray := prog_14_method_107_code
abbrev cX12_builtIn : ByteArray := prog_14_method_108_code
abbrev cX12_asks : ByteArray := prog_14_method_109_code
abbrev cX12_nest : ByteArray := prog_14_method_110_code
abbrev cX12_open : ByteArray := prog_14_method_111_code
abbrev cX12_loopAt : ByteArray := prog_14_method_112_code
abbrev cX12_exit : ByteArray := prog_14_method_113_code
abbrev cX12_loops : ByteArray := prog_14_method_114_code
abbrev cX12_beginLoop : ByteArray := prog_14_method_115_code
abbrev cX12_goOn : ByteArray := prog_14_method_116_code
abbrev cX12_runItem : ByteArray := prog_14_method_117_code
abbrev cX12_doItem : ByteArray := prog_14_method_118_code
abbrev cX12_isLocal : ByteArray := prog_14_method_119_code
abbrev cX12_doLocal : ByteArray := prog_14_method_120_code
abbrev cX12_orders : ByteArray := prog_14_method_121_code
abbrev cX12_taskAt : ByteArray := prog_14_method_122_code
abbrev cX12_passes : ByteArray := prog_14_method_123_code
abbrev cX12_emptyRows : ByteArray := prog_14_method_124_code
abbrev cX12_taskEnds : ByteArray := prog_14_method_125_code
abbrev cX12_tasks : ByteArray := prog_14_method_126_code
abbrev cX12_receive : ByteArray := prog_14_method_127_code
abbrev cX12_takeBox : ByteArray := prog_14_method_128_code
abbrev cX12_tests : ByteArray := prog_14_method_129_code
abbrev cX12_thrown : ByteArray := prog_14_method_130_code
abbrev cX12_restore : ByteArray := prog_14_method_131_code
abbrev cX12_outOf : ByteArray := prog_14_method_132_code
abbrev cX12_digit : ByteArray := prog_14_method_133_code
abbrev cX12_isNumber : ByteArray := prog_14_method_134_code
abbrev cX12_interpret : ByteArray := prog_14_method_135_code
abbrev cX12_textEnds : ByteArray := prog_14_method_136_code
abbrev cX12_step : ByteArray := prog_14_method_137_code
abbrev cX12_look : ByteArray := prog_14_method_138_code
abbrev cX12_steps : ByteArray := prog_14_method_139_code
abbrev cX12_conflict : ByteArray := prog_14_method_140_code
abbrev cX12_come : ByteArray := prog_14_method_141_code
abbrev cX12_goThrough : ByteArray := prog_14_method_142_code
abbrev cX12_taking : ByteArray := prog_14_method_143_code
abbrev cX12_ending : ByteArray := prog_14_method_144_code
abbrev cX12_visit : ByteArray := prog_14_method_145_code
abbrev cX12_comeToo : ByteArray := prog_14_method_146_code
abbrev cX12_visitWord : ByteArray := prog_14_method_147_code
abbrev cX12_visitBuiltIn : ByteArray := prog_14_method_148_code
abbrev cX12_effectOf : ByteArray := prog_14_method_149_code
abbrev cX12_laysLed : ByteArray := prog_14_method_150_code
abbrev cX12_isLed : ByteArray := prog_14_method_151_code
abbrev cX12_fold : ByteArray := prog_14_method_153_code
abbrev cX12_isFolding : ByteArray := prog_14_method_154_code
abbrev cX12_isTurning : ByteArray := prog_14_method_155_code
abbrev cX12_drop : ByteArray := prog_14_method_156_code
abbrev cX12_leanAt : ByteArray := prog_14_method_157_code
abbrev cX12_partOf : ByteArray := prog_14_method_158_code
abbrev cX12_chipWords : ByteArray := prog_14_method_159_code
abbrev cX12_measures : ByteArray := prog_14_method_160_code
abbrev cX12_lays : ByteArray := prog_14_method_161_code
abbrev cX12_chipStep : ByteArray := prog_14_method_162_code
abbrev cX12_chipExit : ByteArray := prog_14_method_163_code
abbrev cX12_init : ByteArray := prog_14_method_164_code
abbrev cX12_isIn : ByteArray := prog_14_method_165_code
abbrev cX12_isSystem : ByteArray := prog_14_method_166_code
abbrev cX12_type_ : ByteArray := prog_14_method_167_code
abbrev cX12_wipe : ByteArray := prog_14_method_168_code
abbrev cX12_copyTape : ByteArray := prog_14_method_169_code
abbrev cX12_systems : ByteArray := prog_14_method_170_code
abbrev cX12_system : ByteArray := prog_14_method_171_code
abbrev cX12_evaluate : ByteArray := prog_14_method_172_code
abbrev cX12_go : ByteArray := prog_14_method_173_code
abbrev cX12_out : ByteArray := prog_14_method_174_code
abbrev cX12_count : ByteArray := prog_14_method_175_code
abbrev cX12_thrown_ : ByteArray := prog_14_method_176_code
abbrev cX12_depth_ : ByteArray := prog_14_method_177_code
abbrev cX12_cell : ByteArray := prog_14_method_178_code
abbrev cX12_task : ByteArray := prog_14_method_179_code
abbrev cX12_fetch : ByteArray := prog_14_method_180_code
abbrev cX12_find : ByteArray := prog_14_method_181_code
abbrev cX12_isOf : ByteArray := prog_14_method_182_code
abbrev cX12_word_ : ByteArray := prog_14_method_183_code
abbrev cX12_name : ByteArray := prog_14_method_184_code
abbrev cX12_item_ : ByteArray := prog_14_method_185_code
abbrev cX12_isEnded : ByteArray := prog_14_method_186_code
abbrev cX12_effect : ByteArray := prog_14_method_187_code
abbrev cX12_effectOf_ : ByteArray := prog_14_method_188_code
abbrev cX12_lean : ByteArray := prog_14_method_189_code
abbrev cX12_chip : ByteArray := prog_14_method_190_code
abbrev cX12_chipWord : ByteArray := prog_14_method_191_code
abbrev cX12_lookChip : ByteArray := prog_14_method_192_code
abbrev cX12_chipPut : ByteArray := prog_14_method_193_code
abbrev cX12_chipGo : ByteArray := prog_14_method_194_code
abbrev cX12_chipTold : ByteArray := prog_14_method_195_code
abbrev cX12_chipCell : ByteArray := prog_14_method_196_code
abbrev cX12_chipByte : ByteArray := prog_14_method_197_code
abbrev cX12_put_ : ByteArray := prog_14_method_198_code
abbrev cX12_copy : ByteArray := prog_14_method_199_code
abbrev cX12_keep : ByteArray := prog_14_method_200_code
abbrev cX12_again : ByteArray := prog_14_method_201_code
abbrev cX12_rowsAlike : ByteArray := prog_14_method_202_code
abbrev cX12_same : ByteArray := prog_14_method_203_code
abbrev cX12_tasksAlike : ByteArray := prog_14_method_204_code
abbrev cJ9_floorDiv_f86c9 : ByteArray := prog_15_method_49_code
abbrev cJ9_abs_067f4 : ByteArray := prog_15_method_61_code
abbrev cJ9_max_7cf53 : ByteArray := prog_15_method_65_code
abbrev cJ9_min_7cf53 : ByteArray := prog_15_method_69_code
abbrev cJ9_min_f86c9 : ByteArray := prog_15_method_70_code
abbrev cJ0_length_8abf5 : ByteArray := prog_16_method_54_code
abbrev cJ0_charAt_5068e : ByteArray := prog_16_method_56_code
abbrev cJ0_coder_7d493 : ByteArray := prog_16_method_152_code
abbrev cJ0_isLatin1_aae02 : ByteArray := prog_16_method_154_code
abbrev cJ0_checkIndex_df160 : ByteArray := prog_16_method_155_code
abbrev cJ1_charAt_3b067 : ByteArray := prog_17_method_2_code
abbrev cJ2_getChar_3b067 : ByteArray := prog_18_method_5_code
abbrev cJ2_length_9d52b : ByteArray := prog_18_method_6_code
abbrev cJ2_charAt_3b067 : ByteArray := prog_18_method_83_code
abbrev cJ2_checkIndex_2214a : ByteArray := prog_18_method_91_code
abbrev cJ7_rangeCheck_23922 : ByteArray := prog_20_method_30_code
abbrev cJ7_fill_53178 : ByteArray := prog_20_method_103_code
abbrev cJ7_fill_031fb : ByteArray := prog_20_method_109_code
abbrev cJ7_fill_eb02e : ByteArray := prog_20_method_110_code
abbrev cJ3_checkIndex_8e157 : ByteArray := prog_21_method_11_code
abbrev cL_law : ByteArray := code
def yX0_init : MethodName := ⟨RX0, "<init>", "()V"⟩
def yX0_holds : MethodName := ⟨RX0, "holds", "(I)Z"⟩
def yX0_make : MethodName := ⟨RX0, "make", "(LForthHouse$Forth;I)I"⟩
def yX0_meet : MethodName := ⟨RX0, "meet", "(I)V"⟩
def yX0_plan : MethodName := ⟨RX0, "plan", "(LForthHouse$Forth;I)I"⟩
def yX0_width : MethodName := ⟨RX0, "width", "(LForthHouse$Forth;I)I"⟩
def yX0_isOnChip : MethodName := ⟨RX0, "isOnChip", "(I)Z"⟩
def yX0_layDefinition : MethodName := ⟨RX0, "layDefinition", "(LForthHouse$Forth;I)V"⟩
def yX0_layWord : MethodName := ⟨RX0, "layWord", "(LForthHouse$Forth;I)V"⟩
def yX0_layCell : MethodName := ⟨RX0, "layCell", "(I)V"⟩
def yX0_lay : MethodName := ⟨RX0, "lay", "(I)V"⟩
def yX0_receive : MethodName := ⟨RX0, "receive", "(I)I"⟩
def yX0_run : MethodName := ⟨RX0, "run", "(I)I"⟩
def yX0_step : MethodName := ⟨RX0, "step", "(I)I"⟩
def yX0_end : MethodName := ⟨RX0, "end", "()I"⟩
def yX0_tell : MethodName := ⟨RX0, "tell", "(I)I"⟩
def yX1_init : MethodName := ⟨RX1, "<init>", "()V"⟩
def yX1_begin : MethodName := ⟨RX1, "begin", "(II)V"⟩
def yX1_become : MethodName := ⟨RX1, "become", "(LForthHouse$Forth;)V"⟩
def yX1_isLike : MethodName := ⟨RX1, "isLike", "(LForthHouse$Forth;)Z"⟩
def yX1_figure : MethodName := ⟨RX1, "figure", "(I)I"⟩
def yX1_tokenOf : MethodName := ⟨RX1, "tokenOf", "([BI)I"⟩
def yX1_othersEnded : MethodName := ⟨RX1, "othersEnded", "()Z"⟩
def yX1_isAtRest : MethodName := ⟨RX1, "isAtRest", "()Z"⟩
def yX1_hasText : MethodName := ⟨RX1, "hasText", "()Z"⟩
def yX1_hand : MethodName := ⟨RX1, "hand", "()LForthHouse$Task;"⟩
def yX1_run : MethodName := ⟨RX1, "run", "(I)I"⟩
def yX1_step : MethodName := ⟨RX1, "step", "()I"⟩
def yX1_ask : MethodName := ⟨RX1, "ask", "(IZ)V"⟩
def yX1_beginTask : MethodName := ⟨RX1, "beginTask", "(LForthHouse$Task;)I"⟩
def yX1_take : MethodName := ⟨RX1, "take", "(LForthHouse$Task;)I"⟩
def yX1_takeFromBox : MethodName := ⟨RX1, "takeFromBox", "(LForthHouse$Task;)I"⟩
def yX1_endCatch : MethodName := ⟨RX1, "endCatch", "(LForthHouse$Task;)I"⟩
def yX1_itemStep : MethodName := ⟨RX1, "itemStep", "(LForthHouse$Task;)I"⟩
def yX1_does : MethodName := ⟨RX1, "does", "(LForthHouse$Task;I)I"⟩
def yX1_abort : MethodName := ⟨RX1, "abort", "(LForthHouse$Task;)I"⟩
def yX1_putOut : MethodName := ⟨RX1, "putOut", "(JJ)I"⟩
def yX1_textStep : MethodName := ⟨RX1, "textStep", "()I"⟩
def yX1_endText : MethodName := ⟨RX1, "endText", "()I"⟩
def yX1_takeNumber : MethodName := ⟨RX1, "takeNumber", "()I"⟩
def yX1_digitOf : MethodName := ⟨RX1, "digitOf", "(I)I"⟩
def yX1_leave : MethodName := ⟨RX1, "leave", "(JZ)I"⟩
def yX1_unwind : MethodName := ⟨RX1, "unwind", "(I)I"⟩
def yX1_throwOut : MethodName := ⟨RX1, "throwOut", "(I)V"⟩
def yX1_endTask : MethodName := ⟨RX1, "endTask", "(I)I"⟩
def yX1_handOn : MethodName := ⟨RX1, "handOn", "()Z"⟩
def yX1_perform : MethodName := ⟨RX1, "perform", "()I"⟩
def yX1_offer : MethodName := ⟨RX1, "offer", "(LForthHouse$Task;I)I"⟩
def yX1_doCreated : MethodName := ⟨RX1, "doCreated", "(LForthHouse$Task;I)I"⟩
def yX1_goBack : MethodName := ⟨RX1, "goBack", "(LForthHouse$Task;I)I"⟩
def yX1_printing : MethodName := ⟨RX1, "printing", "(LForthHouse$Task;I)I"⟩
def yX1_print : MethodName := ⟨RX1, "print", "(LForthHouse$Task;Z)I"⟩
def yX1_sharp : MethodName := ⟨RX1, "sharp", "(LForthHouse$Task;Z)I"⟩
def yX1_defining : MethodName := ⟨RX1, "defining", "(LForthHouse$Task;I)I"⟩
def yX1_readFor : MethodName := ⟨RX1, "readFor", "(I)I"⟩
def yX1_beginDefinition : MethodName := ⟨RX1, "beginDefinition", "(I)I"⟩
def yX1_endDefinition : MethodName := ⟨RX1, "endDefinition", "(LForthHouse$Task;)I"⟩
def yX1_finish : MethodName := ⟨RX1, "finish", "()V"⟩
def yX1_beginQuotation : MethodName := ⟨RX1, "beginQuotation", "()I"⟩
def yX1_endQuotation : MethodName := ⟨RX1, "endQuotation", "()I"⟩
def yX1_addDoes : MethodName := ⟨RX1, "addDoes", "()I"⟩
def yX1_makeValue : MethodName := ⟨RX1, "makeValue", "(LForthHouse$Task;I)I"⟩
def yX1_makeWord : MethodName := ⟨RX1, "makeWord", "(I)I"⟩
def yX1_makeImmediate : MethodName := ⟨RX1, "makeImmediate", "()I"⟩
def yX1_tick : MethodName := ⟨RX1, "tick", "(LForthHouse$Task;I)I"⟩
def yX1_setNamed : MethodName := ⟨RX1, "setNamed", "(I)I"⟩
def yX1_assign : MethodName := ⟨RX1, "assign", "(I)I"⟩
def yX1_string : MethodName := ⟨RX1, "string", "(LForthHouse$Task;I)I"⟩
def yX1_readLocals : MethodName := ⟨RX1, "readLocals", "()I"⟩
def yX1_addLocals : MethodName := ⟨RX1, "addLocals", "(II)I"⟩
def yX1_doToken : MethodName := ⟨RX1, "doToken", "(LForthHouse$Task;I)I"⟩
def yX1_evaluateText : MethodName := ⟨RX1, "evaluateText", "(LForthHouse$Task;)I"⟩
def yX1_nest : MethodName := ⟨RX1, "nest", "(LForthHouse$Task;III)I"⟩
def yX1_tasking : MethodName := ⟨RX1, "tasking", "(LForthHouse$Task;I)I"⟩
def yX1_beginCatch : MethodName := ⟨RX1, "beginCatch", "(LForthHouse$Task;)I"⟩
def yX1_makeTask : MethodName := ⟨RX1, "makeTask", "(LForthHouse$Task;)I"⟩
def yX1_send : MethodName := ⟨RX1, "send", "(LForthHouse$Task;)I"⟩
def yX1_receive : MethodName := ⟨RX1, "receive", "(LForthHouse$Task;)I"⟩
def yX1_load : MethodName := ⟨RX1, "load", "(LForthHouse$Task;)I"⟩
def yX2_init : MethodName := ⟨RX2, "<init>", "()V"⟩
def yX2_become : MethodName := ⟨RX2, "become", "(LForthHouse$Items;)V"⟩
def yX2_isLike : MethodName := ⟨RX2, "isLike", "(LForthHouse$Items;)Z"⟩
def yX2_holds : MethodName := ⟨RX2, "holds", "(I)Z"⟩
def yX2_hasRoom : MethodName := ⟨RX2, "hasRoom", "(I)Z"⟩
def yX2_add : MethodName := ⟨RX2, "add", "(II)I"⟩
def yX2_point : MethodName := ⟨RX2, "point", "(I)V"⟩
def yX2_isJump : MethodName := ⟨RX2, "isJump", "(I)Z"⟩
def yX2_isWord : MethodName := ⟨RX2, "isWord", "(II)Z"⟩
def yX2_isKind : MethodName := ⟨RX2, "isKind", "(II)Z"⟩
def yX3_init : MethodName := ⟨RX3, "<init>", "(LForthHouse$Words;LForthHouse$Items;LForthHouse$Space;)V"⟩
def yX3_work : MethodName := ⟨RX3, "work", "(I)V"⟩
def yX3_pass : MethodName := ⟨RX3, "pass", "()V"⟩
def yX3_leastWaiting : MethodName := ⟨RX3, "leastWaiting", "()I"⟩
def yX3_stop : MethodName := ⟨RX3, "stop", "(II)V"⟩
def yX3_arrive : MethodName := ⟨RX3, "arrive", "(IIII)V"⟩
def yX3_take : MethodName := ⟨RX3, "take", "(II)V"⟩
def yX3_goOn : MethodName := ⟨RX3, "goOn", "(III)V"⟩
def yX3_leaveAt : MethodName := ⟨RX3, "leaveAt", "(I)V"⟩
def yX3_look : MethodName := ⟨RX3, "look", "(I)V"⟩
def yX3_lookLoop : MethodName := ⟨RX3, "lookLoop", "(II)V"⟩
def yX3_lookWord : MethodName := ⟨RX3, "lookWord", "(II)V"⟩
def yX3_lookBuiltIn : MethodName := ⟨RX3, "lookBuiltIn", "(II)V"⟩
def yX3_mayLean : MethodName := ⟨RX3, "mayLean", "(I)Z"⟩
def yX3_makeLean : MethodName := ⟨RX3, "makeLean", "(I)I"⟩
def yX3_leanOnce : MethodName := ⟨RX3, "leanOnce", "()I"⟩
def yX3_markTargets : MethodName := ⟨RX3, "markTargets", "()V"⟩
def yX3_goes : MethodName := ⟨RX3, "goes", "(I)Z"⟩
def yX3_reckonsOne : MethodName := ⟨RX3, "reckonsOne", "(I)Z"⟩
def yX3_reckonsTwo : MethodName := ⟨RX3, "reckonsTwo", "(I)Z"⟩
def yX3_reckoned : MethodName := ⟨RX3, "reckoned", "(III)I"⟩
def yX3_remove : MethodName := ⟨RX3, "remove", "(II)I"⟩
def yX4_init : MethodName := ⟨RX4, "<init>", "()V"⟩
def yX4_become : MethodName := ⟨RX4, "become", "(LForthHouse$Lists;)V"⟩
def yX4_isLike : MethodName := ⟨RX4, "isLike", "(LForthHouse$Lists;)Z"⟩
def yX4_only : MethodName := ⟨RX4, "only", "()V"⟩
def yX4_search : MethodName := ⟨RX4, "search", "(I)I"⟩
def yX4_previous : MethodName := ⟨RX4, "previous", "()I"⟩
def yX4_define : MethodName := ⟨RX4, "define", "()I"⟩
def yX4_mark : MethodName := ⟨RX4, "mark", "(III)I"⟩
def yX4_goBack : MethodName := ⟨RX4, "goBack", "(I)V"⟩
def yX5_init : MethodName := ⟨RX5, "<init>", "(LForthHouse$Items;)V"⟩
def yX5_become : MethodName := ⟨RX5, "become", "(LForthHouse$Making;)V"⟩
def yX5_isLike : MethodName := ⟨RX5, "isLike", "(LForthHouse$Making;)Z"⟩
def yX5_begin : MethodName := ⟨RX5, "begin", "(II)V"⟩
def yX5_forget : MethodName := ⟨RX5, "forget", "()V"⟩
def yX5_innermost : MethodName := ⟨RX5, "innermost", "()I"⟩
def yX5_base : MethodName := ⟨RX5, "base", "()I"⟩
def yX5_isLevel : MethodName := ⟨RX5, "isLevel", "()Z"⟩
def yX5_isMarked : MethodName := ⟨RX5, "isMarked", "(I)Z"⟩
def yX5_mark : MethodName := ⟨RX5, "mark", "(I)V"⟩
def yX5_localOf : MethodName := ⟨RX5, "localOf", "([BIZ)I"⟩
def yX5_nameLocal : MethodName := ⟨RX5, "nameLocal", "(I[BI)V"⟩
def yX5_countLocals : MethodName := ⟨RX5, "countLocals", "(I)V"⟩
def yX5_kindAt : MethodName := ⟨RX5, "kindAt", "(I)I"⟩
def yX5_placeAt : MethodName := ⟨RX5, "placeAt", "(I)I"⟩
def yX5_setPair : MethodName := ⟨RX5, "setPair", "(III)V"⟩
def yX5_control : MethodName := ⟨RX5, "control", "(I)I"⟩
def yX5_pair : MethodName := ⟨RX5, "pair", "(II)I"⟩
def yX5_branch : MethodName := ⟨RX5, "branch", "(II)I"⟩
def yX5_then : MethodName := ⟨RX5, "then", "()I"⟩
def yX5_otherwise : MethodName := ⟨RX5, "otherwise", "(II)I"⟩
def yX5_back : MethodName := ⟨RX5, "back", "(I)I"⟩
def yX5_during : MethodName := ⟨RX5, "during", "()I"⟩
def yX5_repeat : MethodName := ⟨RX5, "repeat", "()I"⟩
def yX5_endLoop : MethodName := ⟨RX5, "endLoop", "(I)I"⟩
def yX5_leave : MethodName := ⟨RX5, "leave", "()I"⟩
def yX5_endCase : MethodName := ⟨RX5, "endCase", "()I"⟩
def yX6_init : MethodName := ⟨RX6, "<init>", "()V"⟩
def yX6_become : MethodName := ⟨RX6, "become", "(LForthHouse$Sink;)V"⟩
def yX6_byteOf : MethodName := ⟨RX6, "byteOf", "(I)I"⟩
def yX6_grow : MethodName := ⟨RX6, "grow", "(J)V"⟩
def yX6_emit : MethodName := ⟨RX6, "emit", "(I)V"⟩
def yX6_blanks : MethodName := ⟨RX6, "blanks", "(I)V"⟩
def yX6_write : MethodName := ⟨RX6, "write", "([BII)V"⟩
def yX6_print : MethodName := ⟨RX6, "print", "(JI)V"⟩
def yX6_digit : MethodName := ⟨RX6, "digit", "(I)B"⟩
def yX6_keepAbove : MethodName := ⟨RX6, "keepAbove", "(LForthHouse$Task;)V"⟩
def yX6_judgeAbove : MethodName := ⟨RX6, "judgeAbove", "(LForthHouse$Task;)V"⟩
def yX7_init : MethodName := ⟨RX7, "<init>", "()V"⟩
def yX7_become : MethodName := ⟨RX7, "become", "(LForthHouse$Space;)V"⟩
def yX7_isLike : MethodName := ⟨RX7, "isLike", "(LForthHouse$Space;)Z"⟩
def yX7_isFloored : MethodName := ⟨RX7, "isFloored", "()Z"⟩
def yX7_isCased : MethodName := ⟨RX7, "isCased", "()Z"⟩
def yX7_bits : MethodName := ⟨RX7, "bits", "()I"⟩
def yX7_cut : MethodName := ⟨RX7, "cut", "(J)I"⟩
def yX7_bare : MethodName := ⟨RX7, "bare", "(I)J"⟩
def yX7_holds : MethodName := ⟨RX7, "holds", "(JJ)Z"⟩
def yX7_byteAt : MethodName := ⟨RX7, "byteAt", "(I)I"⟩
def yX7_cellAt : MethodName := ⟨RX7, "cellAt", "(I)I"⟩
def yX7_layCell : MethodName := ⟨RX7, "layCell", "(II)V"⟩
def yX7_hasRoom : MethodName := ⟨RX7, "hasRoom", "(I)Z"⟩
def yX7_moveHere : MethodName := ⟨RX7, "moveHere", "(J)I"⟩
def yX7_aligned : MethodName := ⟨RX7, "aligned", "(J)J"⟩
def yX7_base : MethodName := ⟨RX7, "base", "()I"⟩
def yX7_hold : MethodName := ⟨RX7, "hold", "(I)I"⟩
def yX8_init : MethodName := ⟨RX8, "<init>", "(LForthHouse$Space;)V"⟩
def yX8_become : MethodName := ⟨RX8, "become", "(LForthHouse$Task;)V"⟩
def yX8_isLike : MethodName := ⟨RX8, "isLike", "(LForthHouse$Task;)Z"⟩
def yX8_clearRows : MethodName := ⟨RX8, "clearRows", "()V"⟩
def yX8_lengthOf : MethodName := ⟨RX8, "lengthOf", "(I)I"⟩
def yX8_cellOf : MethodName := ⟨RX8, "cellOf", "(II)I"⟩
def yX8_lack : MethodName := ⟨RX8, "lack", "(II)I"⟩
def yX8_push : MethodName := ⟨RX8, "push", "(I)V"⟩
def yX8_pop : MethodName := ⟨RX8, "pop", "()I"⟩
def yX8_peek : MethodName := ⟨RX8, "peek", "(I)I"⟩
def yX8_give : MethodName := ⟨RX8, "give", "(J)I"⟩
def yX8_flag : MethodName := ⟨RX8, "flag", "(Z)I"⟩
def yX8_giveTwin : MethodName := ⟨RX8, "giveTwin", "(J)I"⟩
def yX8_popTwin : MethodName := ⟨RX8, "popTwin", "()J"⟩
def yX8_popBareTwin : MethodName := ⟨RX8, "popBareTwin", "()J"⟩
def yX8_bringUp : MethodName := ⟨RX8, "bringUp", "(I)V"⟩
def yX8_base : MethodName := ⟨RX8, "base", "(I)I"⟩
def yX8_frameKind : MethodName := ⟨RX8, "frameKind", "()I"⟩
def yX8_open : MethodName := ⟨RX8, "open", "(I)Z"⟩
def yX8_enter : MethodName := ⟨RX8, "enter", "(I)I"⟩
def yX8_close : MethodName := ⟨RX8, "close", "()V"⟩
def yX8_exit : MethodName := ⟨RX8, "exit", "()I"⟩
def yX8_latestCatch : MethodName := ⟨RX8, "latestCatch", "()I"⟩
def yX8_fallTo : MethodName := ⟨RX8, "fallTo", "(II)V"⟩
def yX8_core : MethodName := ⟨RX8, "core", "(I)I"⟩
def yX8_shuffle : MethodName := ⟨RX8, "shuffle", "(I)I"⟩
def yX8_duplicate : MethodName := ⟨RX8, "duplicate", "()I"⟩
def yX8_reachDown : MethodName := ⟨RX8, "reachDown", "(I)I"⟩
def yX8_overReturn : MethodName := ⟨RX8, "overReturn", "(I)I"⟩
def yX8_toReturn : MethodName := ⟨RX8, "toReturn", "(III)I"⟩
def yX8_reckon : MethodName := ⟨RX8, "reckon", "(I)I"⟩
def yX8_twinWord : MethodName := ⟨RX8, "twinWord", "(I)I"⟩
def yX8_divide : MethodName := ⟨RX8, "divide", "(II)I"⟩
def yX8_divideBare : MethodName := ⟨RX8, "divideBare", "(J)I"⟩
def yX8_divideTwin : MethodName := ⟨RX8, "divideTwin", "(II)I"⟩
def yX8_compare : MethodName := ⟨RX8, "compare", "(I)I"⟩
def yX8_shift : MethodName := ⟨RX8, "shift", "(IJ)I"⟩
def yX8_within : MethodName := ⟨RX8, "within", "(I)I"⟩
def yX8_memory : MethodName := ⟨RX8, "memory", "(I)I"⟩
def yX8_lay : MethodName := ⟨RX8, "lay", "(II)I"⟩
def yX8_fill : MethodName := ⟨RX8, "fill", "(I)I"⟩
def yX8_move : MethodName := ⟨RX8, "move", "(J)I"⟩
def yX8_reach : MethodName := ⟨RX8, "reach", "(IJ)I"⟩
def yX8_loopWord : MethodName := ⟨RX8, "loopWord", "(I)I"⟩
def yX8_flow : MethodName := ⟨RX8, "flow", "(II)I"⟩
def yX8_beginLoop : MethodName := ⟨RX8, "beginLoop", "(II)I"⟩
def yX8_loop : MethodName := ⟨RX8, "loop", "(II)I"⟩
def yX8_of : MethodName := ⟨RX8, "of", "(I)I"⟩
def yX8_enterLocals : MethodName := ⟨RX8, "enterLocals", "(II)I"⟩
def yX8_local : MethodName := ⟨RX8, "local", "(II)I"⟩
def yX9_init : MethodName := ⟨RX9, "<init>", "(LForthHouse$Space;)V"⟩
def yX9_become : MethodName := ⟨RX9, "become", "(LForthHouse$Texts;)V"⟩
def yX9_isLike : MethodName := ⟨RX9, "isLike", "(LForthHouse$Texts;)Z"⟩
def yX9_settle : MethodName := ⟨RX9, "settle", "()V"⟩
def yX9_start : MethodName := ⟨RX9, "start", "([BI)V"⟩
def yX9_nest : MethodName := ⟨RX9, "nest", "(III)V"⟩
def yX9_fallTo : MethodName := ⟨RX9, "fallTo", "(II)V"⟩
def yX9_inBlock : MethodName := ⟨RX9, "inBlock", "()Z"⟩
def yX9_readWord : MethodName := ⟨RX9, "readWord", "(Z)I"⟩
def yX9_isBlank : MethodName := ⟨RX9, "isBlank", "(B)Z"⟩
def yX9_readUpTo : MethodName := ⟨RX9, "readUpTo", "(IZ)V"⟩
def yX9_skipLine : MethodName := ⟨RX9, "skipLine", "(Z)V"⟩
def yX9_isRead : MethodName := ⟨RX9, "isRead", "(II)Z"⟩
def yX10_init : MethodName := ⟨RX10, "<init>", "()V"⟩
def yX10_addLine : MethodName := ⟨RX10, "addLine", "(Ljava/lang/String;)V"⟩
def yX10_become : MethodName := ⟨RX10, "become", "(LForthHouse$Words;)V"⟩
def yX10_isLike : MethodName := ⟨RX10, "isLike", "(LForthHouse$Words;)Z"⟩
def yX10_holds : MethodName := ⟨RX10, "holds", "(I)Z"⟩
def yX10_isFull : MethodName := ⟨RX10, "isFull", "()Z"⟩
def yX10_has : MethodName := ⟨RX10, "has", "(II)Z"⟩
def yX10_isKind : MethodName := ⟨RX10, "isKind", "(II)Z"⟩
def yX10_isEnded : MethodName := ⟨RX10, "isEnded", "(I)Z"⟩
def yX10_set : MethodName := ⟨RX10, "set", "(II)V"⟩
def yX10_make : MethodName := ⟨RX10, "make", "(III[BI)I"⟩
def yX10_end : MethodName := ⟨RX10, "end", "(II)V"⟩
def yX10_newest : MethodName := ⟨RX10, "newest", "(I[BIZ)I"⟩
def yX10_tell : MethodName := ⟨RX10, "tell", "(II)I"⟩
def yX10_letter : MethodName := ⟨RX10, "letter", "(II)I"⟩
def yX11_init : MethodName := ⟨RX11, "<init>", "()V"⟩
def yX11_type : MethodName := ⟨RX11, "type", "(JI)I"⟩
def yX11_wipe : MethodName := ⟨RX11, "wipe", "()I"⟩
def yX11_system : MethodName := ⟨RX11, "system", "(II)I"⟩
def yX11_evaluate : MethodName := ⟨RX11, "evaluate", "(II)I"⟩
def yX11_go : MethodName := ⟨RX11, "go", "(II)I"⟩
def yX11_out : MethodName := ⟨RX11, "out", "(II)I"⟩
def yX11_count : MethodName := ⟨RX11, "count", "(II)I"⟩
def yX11_thrown : MethodName := ⟨RX11, "thrown", "(II)I"⟩
def yX11_depth : MethodName := ⟨RX11, "depth", "(III)I"⟩
def yX11_cell : MethodName := ⟨RX11, "cell", "(IIII)I"⟩
def yX11_task : MethodName := ⟨RX11, "task", "(II)I"⟩
def yX11_fetch : MethodName := ⟨RX11, "fetch", "(III)I"⟩
def yX11_find : MethodName := ⟨RX11, "find", "(I)I"⟩
def yX11_word : MethodName := ⟨RX11, "word", "(III)I"⟩
def yX11_name : MethodName := ⟨RX11, "name", "(III)I"⟩
def yX11_item : MethodName := ⟨RX11, "item", "(III)I"⟩
def yX11_effect : MethodName := ⟨RX11, "effect", "(II)I"⟩
def yX11_effectOf : MethodName := ⟨RX11, "effectOf", "(III)I"⟩
def yX11_lean : MethodName := ⟨RX11, "lean", "(II)I"⟩
def yX11_chip : MethodName := ⟨RX11, "chip", "(II)I"⟩
def yX11_chipWord : MethodName := ⟨RX11, "chipWord", "(I)I"⟩
def yX11_chipPut : MethodName := ⟨RX11, "chipPut", "(I)I"⟩
def yX11_chipGo : MethodName := ⟨RX11, "chipGo", "(I)I"⟩
def yX11_chipTold : MethodName := ⟨RX11, "chipTold", "(I)I"⟩
def yX11_chipCell : MethodName := ⟨RX11, "chipCell", "(I)I"⟩
def yX11_chipByte : MethodName := ⟨RX11, "chipByte", "(I)I"⟩
def yX11_put : MethodName := ⟨RX11, "put", "(III)I"⟩
def yX11_keep : MethodName := ⟨RX11, "keep", "(II)I"⟩
def yX11_again : MethodName := ⟨RX11, "again", "(II)I"⟩
def yX11_same : MethodName := ⟨RX11, "same", "(II)Z"⟩
def yX11_systemOf : MethodName := ⟨RX11, "systemOf", "(I)LForthHouse$Forth;"⟩
def yX11_taskOf : MethodName := ⟨RX11, "taskOf", "(II)LForthHouse$Task;"⟩
def yX11_stepsGood : MethodName := ⟨RX11, "stepsGood", "(I)Z"⟩
def yX11_sameCells : MethodName := ⟨RX11, "sameCells", "([I[III)Z"⟩
def yX11_sameBytes : MethodName := ⟨RX11, "sameBytes", "([B[BI)Z"⟩
def yX11_copyCells : MethodName := ⟨RX11, "copyCells", "([I[I)V"⟩
def yX11_copyBytes : MethodName := ⟨RX11, "copyBytes", "([B[B)V"⟩
def yX11_spelled : MethodName := ⟨RX11, "spelled", "([BI[BIZ)Z"⟩
def yX11_quotient : MethodName := ⟨RX11, "quotient", "(JJ)J"⟩
def yX12_bits : MethodName := ⟨RX12, "bits", "()I"⟩
def yX12_mask : MethodName := ⟨RX12, "mask", "()J"⟩
def yX12_wide : MethodName := ⟨RX12, "wide", "(I)J"⟩
def yX12_round : MethodName := ⟨RX12, "round", "(J)I"⟩
def yX12_lies : MethodName := ⟨RX12, "lies", "(JJ)Z"⟩
def yX12_reach : MethodName := ⟨RX12, "reach", "(IJ)Z"⟩
def yX12_byteAt : MethodName := ⟨RX12, "byteAt", "(J)I"⟩
def yX12_putByte : MethodName := ⟨RX12, "putByte", "(JI)V"⟩
def yX12_high : MethodName := ⟨RX12, "high", "()Z"⟩
def yX12_cellAt : MethodName := ⟨RX12, "cellAt", "(J)I"⟩
def yX12_putCell : MethodName := ⟨RX12, "putCell", "(JI)V"⟩
def yX12_depth : MethodName := ⟨RX12, "depth", "()I"⟩
def yX12_may : MethodName := ⟨RX12, "may", "(II)Z"⟩
def yX12_pop : MethodName := ⟨RX12, "pop", "()I"⟩
def yX12_push : MethodName := ⟨RX12, "push", "(J)V"⟩
def yX12_top : MethodName := ⟨RX12, "top", "(I)I"⟩
def yX12_pushDouble : MethodName := ⟨RX12, "pushDouble", "(J)V"⟩
def yX12_popDouble : MethodName := ⟨RX12, "popDouble", "()J"⟩
def yX12_frames : MethodName := ⟨RX12, "frames", "()I"⟩
def yX12_frameAt : MethodName := ⟨RX12, "frameAt", "(I)I"⟩
def yX12_base : MethodName := ⟨RX12, "base", "(I)I"⟩
def yX12_newFrame : MethodName := ⟨RX12, "newFrame", "(I)I"⟩
def yX12_put : MethodName := ⟨RX12, "put", "(I)V"⟩
def yX12_textFrame : MethodName := ⟨RX12, "textFrame", "()I"⟩
def yX12_nested : MethodName := ⟨RX12, "nested", "()I"⟩
def yX12_textSize : MethodName := ⟨RX12, "textSize", "(I)I"⟩
def yX12_textByte : MethodName := ⟨RX12, "textByte", "(II)I"⟩
def yX12_in : MethodName := ⟨RX12, "in", "()J"⟩
def yX12_isBlank : MethodName := ⟨RX12, "isBlank", "(I)Z"⟩
def yX12_word : MethodName := ⟨RX12, "word", "()Z"⟩
def yX12_upTo : MethodName := ⟨RX12, "upTo", "(I)V"⟩
def yX12_wordAt : MethodName := ⟨RX12, "wordAt", "(I)I"⟩
def yX12_itemAt : MethodName := ⟨RX12, "itemAt", "(I)I"⟩
def yX12_isToken : MethodName := ⟨RX12, "isToken", "(J)Z"⟩
def yX12_lower : MethodName := ⟨RX12, "lower", "(I)I"⟩
def yX12_isName : MethodName := ⟨RX12, "isName", "(II)Z"⟩
def yX12_search : MethodName := ⟨RX12, "search", "()I"⟩
def yX12_newWord : MethodName := ⟨RX12, "newWord", "(IZ)I"⟩
def yX12_newName : MethodName := ⟨RX12, "newName", "()Z"⟩
def yX12_item : MethodName := ⟨RX12, "item", "(II)V"⟩
def yX12_items : MethodName := ⟨RX12, "items", "(I)Z"⟩
def yX12_here : MethodName := ⟨RX12, "here", "()I"⟩
def yX12_lead : MethodName := ⟨RX12, "lead", "(II)V"⟩
def yX12_def : MethodName := ⟨RX12, "def", "()I"⟩
def yX12_beginDef : MethodName := ⟨RX12, "beginDef", "(ZZ)V"⟩
def yX12_endDef : MethodName := ⟨RX12, "endDef", "()Z"⟩
def yX12_pair : MethodName := ⟨RX12, "pair", "(III)V"⟩
def yX12_topPair : MethodName := ⟨RX12, "topPair", "(II)I"⟩
def yX12_hasPair : MethodName := ⟨RX12, "hasPair", "(I)Z"⟩
def yX12_numberBase : MethodName := ⟨RX12, "numberBase", "()I"⟩
def yX12_flag : MethodName := ⟨RX12, "flag", "(Z)V"⟩
def yX12_stack : MethodName := ⟨RX12, "stack", "(I)V"⟩
def yX12_roll : MethodName := ⟨RX12, "roll", "(I)V"⟩
def yX12_pushReturn : MethodName := ⟨RX12, "pushReturn", "(I)V"⟩
def yX12_popReturn : MethodName := ⟨RX12, "popReturn", "()I"⟩
def yX12_hasReturn : MethodName := ⟨RX12, "hasReturn", "(I)Z"⟩
def yX12_returns : MethodName := ⟨RX12, "returns", "(I)V"⟩
def yX12_floorOf : MethodName := ⟨RX12, "floorOf", "(JJ)J"⟩
def yX12_quotient : MethodName := ⟨RX12, "quotient", "(JJ)J"⟩
def yX12_divided : MethodName := ⟨RX12, "divided", "(I)V"⟩
def yX12_unsignedDivided : MethodName := ⟨RX12, "unsignedDivided", "()V"⟩
def yX12_signedDivided : MethodName := ⟨RX12, "signedDivided", "(Z)V"⟩
def yX12_reckon : MethodName := ⟨RX12, "reckon", "(I)V"⟩
def yX12_compare : MethodName := ⟨RX12, "compare", "(I)V"⟩
def yX12_grow : MethodName := ⟨RX12, "grow", "(J)V"⟩
def yX12_up : MethodName := ⟨RX12, "up", "(J)J"⟩
def yX12_storing : MethodName := ⟨RX12, "storing", "(I)V"⟩
def yX12_rows : MethodName := ⟨RX12, "rows", "(II)V"⟩
def yX12_hold : MethodName := ⟨RX12, "hold", "(I)V"⟩
def yX12_letter : MethodName := ⟨RX12, "letter", "(J)I"⟩
def yX12_digits : MethodName := ⟨RX12, "digits", "(Z)V"⟩
def yX12_print : MethodName := ⟨RX12, "print", "(J)V"⟩
def yX12_type : MethodName := ⟨RX12, "type", "(IJ)V"⟩
def yX12_spaces : MethodName := ⟨RX12, "spaces", "(I)V"⟩
def yX12_printing : MethodName := ⟨RX12, "printing", "(I)V"⟩
def yX12_plain : MethodName := ⟨RX12, "plain", "(I)V"⟩
def yX12_layString : MethodName := ⟨RX12, "layString", "()I"⟩
def yX12_literal : MethodName := ⟨RX12, "literal", "(I)V"⟩
def yX12_string : MethodName := ⟨RX12, "string", "(I)V"⟩
def yX12_comment : MethodName := ⟨RX12, "comment", "()V"⟩
def yX12_named : MethodName := ⟨RX12, "named", "()I"⟩
def yX12_local : MethodName := ⟨RX12, "local", "()I"⟩
def yX12_is : MethodName := ⟨RX12, "is", "(Ljava/lang/String;)Z"⟩
def yX12_locals : MethodName := ⟨RX12, "locals", "()V"⟩
def yX12_freeMark : MethodName := ⟨RX12, "freeMark", "()I"⟩
def yX12_marker : MethodName := ⟨RX12, "marker", "()V"⟩
def yX12_mark : MethodName := ⟨RX12, "mark", "(IZ)V"⟩
def yX12_makes : MethodName := ⟨RX12, "makes", "(I)V"⟩
def yX12_assign : MethodName := ⟨RX12, "assign", "(Z)V"⟩
def yX12_putValue : MethodName := ⟨RX12, "putValue", "(II)V"⟩
def yX12_postpone : MethodName := ⟨RX12, "postpone", "()V"⟩
def yX12_ends : MethodName := ⟨RX12, "ends", "(Z)V"⟩
def yX12_compiles : MethodName := ⟨RX12, "compiles", "(I)V"⟩
def yX12_drops : MethodName := ⟨RX12, "drops", "()V"⟩
def yX12_origin : MethodName := ⟨RX12, "origin", "(I)V"⟩
def yX12_then : MethodName := ⟨RX12, "then", "()V"⟩
def yX12_swapPairs : MethodName := ⟨RX12, "swapPairs", "()V"⟩
def yX12_back : MethodName := ⟨RX12, "back", "(I)V"⟩
def yX12_settle : MethodName := ⟨RX12, "settle", "(III)V"⟩
def yX12_loopEnds : MethodName := ⟨RX12, "loopEnds", "(I)V"⟩
def yX12_innermost : MethodName := ⟨RX12, "innermost", "()I"⟩
def yX12_control : MethodName := ⟨RX12, "control", "(I)V"⟩
def yX12_endCase : MethodName := ⟨RX12, "endCase", "()V"⟩
def yX12_does : MethodName := ⟨RX12, "does", "(IZ)V"⟩
def yX12_enter : MethodName := ⟨RX12, "enter", "(I)V"⟩
def yX12_isCompiling : MethodName := ⟨RX12, "isCompiling", "(I)Z"⟩
def yX12_isOnly : MethodName := ⟨RX12, "isOnly", "(I)Z"⟩
def yX12_builtIn : MethodName := ⟨RX12, "builtIn", "(I)V"⟩
def yX12_asks : MethodName := ⟨RX12, "asks", "(I)V"⟩
def yX12_nest : MethodName := ⟨RX12, "nest", "(III)V"⟩
def yX12_open : MethodName := ⟨RX12, "open", "()I"⟩
def yX12_loopAt : MethodName := ⟨RX12, "loopAt", "(I)I"⟩
def yX12_exit : MethodName := ⟨RX12, "exit", "()V"⟩
def yX12_loops : MethodName := ⟨RX12, "loops", "(I)V"⟩
def yX12_beginLoop : MethodName := ⟨RX12, "beginLoop", "(II)V"⟩
def yX12_goOn : MethodName := ⟨RX12, "goOn", "(IIJ)V"⟩
def yX12_runItem : MethodName := ⟨RX12, "runItem", "(I)V"⟩
def yX12_doItem : MethodName := ⟨RX12, "doItem", "(III)V"⟩
def yX12_isLocal : MethodName := ⟨RX12, "isLocal", "(II)Z"⟩
def yX12_doLocal : MethodName := ⟨RX12, "doLocal", "(III)V"⟩
def yX12_orders : MethodName := ⟨RX12, "orders", "(I)V"⟩
def yX12_taskAt : MethodName := ⟨RX12, "taskAt", "(I)I"⟩
def yX12_passes : MethodName := ⟨RX12, "passes", "()Z"⟩
def yX12_emptyRows : MethodName := ⟨RX12, "emptyRows", "(I)V"⟩
def yX12_taskEnds : MethodName := ⟨RX12, "taskEnds", "(I)V"⟩
def yX12_tasks : MethodName := ⟨RX12, "tasks", "(I)V"⟩
def yX12_receive : MethodName := ⟨RX12, "receive", "()V"⟩
def yX12_takeBox : MethodName := ⟨RX12, "takeBox", "()V"⟩
def yX12_tests : MethodName := ⟨RX12, "tests", "(I)V"⟩
def yX12_thrown : MethodName := ⟨RX12, "thrown", "()V"⟩
def yX12_restore : MethodName := ⟨RX12, "restore", "(I)V"⟩
def yX12_outOf : MethodName := ⟨RX12, "outOf", "(I)V"⟩
def yX12_digit : MethodName := ⟨RX12, "digit", "(I)I"⟩
def yX12_isNumber : MethodName := ⟨RX12, "isNumber", "()Z"⟩
def yX12_interpret : MethodName := ⟨RX12, "interpret", "()V"⟩
def yX12_textEnds : MethodName := ⟨RX12, "textEnds", "()V"⟩
def yX12_step : MethodName := ⟨RX12, "step", "()V"⟩
def yX12_look : MethodName := ⟨RX12, "look", "(I)V"⟩
def yX12_steps : MethodName := ⟨RX12, "steps", "(II)I"⟩
def yX12_conflict : MethodName := ⟨RX12, "conflict", "(II)V"⟩
def yX12_come : MethodName := ⟨RX12, "come", "(IIIII)V"⟩
def yX12_goThrough : MethodName := ⟨RX12, "goThrough", "(IZII)V"⟩
def yX12_taking : MethodName := ⟨RX12, "taking", "(III)I"⟩
def yX12_ending : MethodName := ⟨RX12, "ending", "(IIII)V"⟩
def yX12_visit : MethodName := ⟨RX12, "visit", "(IIZII)V"⟩
def yX12_comeToo : MethodName := ⟨RX12, "comeToo", "(IIIII)V"⟩
def yX12_visitWord : MethodName := ⟨RX12, "visitWord", "(IIIZIIIII)V"⟩
def yX12_visitBuiltIn : MethodName := ⟨RX12, "visitBuiltIn", "(IIIII)V"⟩
def yX12_effectOf : MethodName := ⟨RX12, "effectOf", "(I)V"⟩
def yX12_laysLed : MethodName := ⟨RX12, "laysLed", "(I)V"⟩
def yX12_isLed : MethodName := ⟨RX12, "isLed", "(II)Z"⟩
def yX12_fold : MethodName := ⟨RX12, "fold", "(IIIZ)I"⟩
def yX12_isFolding : MethodName := ⟨RX12, "isFolding", "(I)Z"⟩
def yX12_isTurning : MethodName := ⟨RX12, "isTurning", "(I)Z"⟩
def yX12_drop : MethodName := ⟨RX12, "drop", "(III)V"⟩
def yX12_leanAt : MethodName := ⟨RX12, "leanAt", "(II)Z"⟩
def yX12_partOf : MethodName := ⟨RX12, "partOf", "(I)I"⟩
def yX12_chipWords : MethodName := ⟨RX12, "chipWords", "(I)I"⟩
def yX12_measures : MethodName := ⟨RX12, "measures", "(I)Z"⟩
def yX12_lays : MethodName := ⟨RX12, "lays", "(I)V"⟩
def yX12_chipStep : MethodName := ⟨RX12, "chipStep", "()V"⟩
def yX12_chipExit : MethodName := ⟨RX12, "chipExit", "()V"⟩
def yX12_init : MethodName := ⟨RX12, "<init>", "()V"⟩
def yX12_isIn : MethodName := ⟨RX12, "isIn", "(III)Z"⟩
def yX12_isSystem : MethodName := ⟨RX12, "isSystem", "(I)Z"⟩
def yX12_type_ : MethodName := ⟨RX12, "type", "(JI)I"⟩
def yX12_wipe : MethodName := ⟨RX12, "wipe", "()I"⟩
def yX12_copyTape : MethodName := ⟨RX12, "copyTape", "()V"⟩
def yX12_systems : MethodName := ⟨RX12, "systems", "()I"⟩
def yX12_system : MethodName := ⟨RX12, "system", "(II)I"⟩
def yX12_evaluate : MethodName := ⟨RX12, "evaluate", "(II)I"⟩
def yX12_go : MethodName := ⟨RX12, "go", "(II)I"⟩
def yX12_out : MethodName := ⟨RX12, "out", "(II)I"⟩
def yX12_count : MethodName := ⟨RX12, "count", "(II)I"⟩
def yX12_thrown_ : MethodName := ⟨RX12, "thrown", "(II)I"⟩
def yX12_depth_ : MethodName := ⟨RX12, "depth", "(III)I"⟩
def yX12_cell : MethodName := ⟨RX12, "cell", "(IIII)I"⟩
def yX12_task : MethodName := ⟨RX12, "task", "(II)I"⟩
def yX12_fetch : MethodName := ⟨RX12, "fetch", "(III)I"⟩
def yX12_find : MethodName := ⟨RX12, "find", "(I)I"⟩
def yX12_isOf : MethodName := ⟨RX12, "isOf", "(II)Z"⟩
def yX12_word_ : MethodName := ⟨RX12, "word", "(III)I"⟩
def yX12_name : MethodName := ⟨RX12, "name", "(III)I"⟩
def yX12_item_ : MethodName := ⟨RX12, "item", "(III)I"⟩
def yX12_isEnded : MethodName := ⟨RX12, "isEnded", "(II)Z"⟩
def yX12_effect : MethodName := ⟨RX12, "effect", "(II)I"⟩
def yX12_effectOf_ : MethodName := ⟨RX12, "effectOf", "(III)I"⟩
def yX12_lean : MethodName := ⟨RX12, "lean", "(II)I"⟩
def yX12_chip : MethodName := ⟨RX12, "chip", "(II)I"⟩
def yX12_chipWord : MethodName := ⟨RX12, "chipWord", "(I)I"⟩
def yX12_lookChip : MethodName := ⟨RX12, "lookChip", "()V"⟩
def yX12_chipPut : MethodName := ⟨RX12, "chipPut", "(I)I"⟩
def yX12_chipGo : MethodName := ⟨RX12, "chipGo", "(I)I"⟩
def yX12_chipTold : MethodName := ⟨RX12, "chipTold", "(I)I"⟩
def yX12_chipCell : MethodName := ⟨RX12, "chipCell", "(I)I"⟩
def yX12_chipByte : MethodName := ⟨RX12, "chipByte", "(I)I"⟩
def yX12_put_ : MethodName := ⟨RX12, "put", "(III)I"⟩
def yX12_copy : MethodName := ⟨RX12, "copy", "(II)V"⟩
def yX12_keep : MethodName := ⟨RX12, "keep", "(II)I"⟩
def yX12_again : MethodName := ⟨RX12, "again", "(II)I"⟩
def yX12_rowsAlike : MethodName := ⟨RX12, "rowsAlike", "([IIII)Z"⟩
def yX12_same : MethodName := ⟨RX12, "same", "(II)Z"⟩
def yX12_tasksAlike : MethodName := ⟨RX12, "tasksAlike", "(II)Z"⟩
def yJ9_floorDiv_f86c9 : MethodName := ⟨RJ9, "floorDiv", "(JJ)J"⟩
def yJ9_abs_067f4 : MethodName := ⟨RJ9, "abs", "(J)J"⟩
def yJ9_max_7cf53 : MethodName := ⟨RJ9, "max", "(II)I"⟩
def yJ9_min_7cf53 : MethodName := ⟨RJ9, "min", "(II)I"⟩
def yJ9_min_f86c9 : MethodName := ⟨RJ9, "min", "(JJ)J"⟩
def yJ0_length_8abf5 : MethodName := ⟨RJ0, "length", "()I"⟩
def yJ0_charAt_5068e : MethodName := ⟨RJ0, "charAt", "(I)C"⟩
def yJ0_coder_7d493 : MethodName := ⟨RJ0, "coder", "()B"⟩
def yJ0_isLatin1_aae02 : MethodName := ⟨RJ0, "isLatin1", "()Z"⟩
def yJ0_checkIndex_df160 : MethodName := ⟨RJ0, "checkIndex", "(II)V"⟩
def yJ1_charAt_3b067 : MethodName := ⟨RJ1, "charAt", "([BI)C"⟩
def yJ2_getChar_3b067 : MethodName := ⟨RJ2, "getChar", "([BI)C"⟩
def yJ2_length_9d52b : MethodName := ⟨RJ2, "length", "([B)I"⟩
def yJ2_charAt_3b067 : MethodName := ⟨RJ2, "charAt", "([BI)C"⟩
def yJ2_checkIndex_2214a : MethodName := ⟨RJ2, "checkIndex", "(I[B)V"⟩
def yJ7_rangeCheck_23922 : MethodName := ⟨RJ7, "rangeCheck", "(III)V"⟩
def yJ7_fill_53178 : MethodName := ⟨RJ7, "fill", "([II)V"⟩
def yJ7_fill_031fb : MethodName := ⟨RJ7, "fill", "([BB)V"⟩
def yJ7_fill_eb02e : MethodName := ⟨RJ7, "fill", "([BIIB)V"⟩
def yJ3_checkIndex_8e157 : MethodName := ⟨RJ3, "checkIndex", "(IILjava/util/function/BiFunction;)I"⟩
def yL_law : MethodName := ⟨RL, "law", "([I)Z"⟩
/-! classes of the worlds -/
abbrev zcls : List vw_C := [(RX0, TX0, 11), (RX1, TX1, 18), (RX2, TX2, 3), (RX3, TX3, 20), (RX4, TX4, 12), (RX5, TX5, 15), (RX6, TX6, 8), (RX7, TX7, 5), (RX8, TX8, 18), (RX9, TX9, 15), (RX10, TX10, 14), (RX11, TX11, 7), (RX12, TX12, 35)]
def zfty (ci : Nat) : Nat → FieldType := match ci with
  | 0 => tyX0
  | 1 => tyX1
  | 2 => tyX2
  | 3 => tyX3
  | 4 => tyX4
  | 5 => tyX5
  | 6 => tyX6
  | 7 => tyX7
  | 8 => tyX8
  | 9 => tyX9
  | 10 => tyX10
  | 11 => tyX11
  | _ => tyX12
def zW : List Cond := lw_tbl.filter goodWord
theorem zW_of {w : Cond} (k : Nat) (h : lw_tbl[k]? = some w) (hg : goodWord w = true) : w ∈ zW := List.mem_filter.mpr ⟨List.mem_of_getElem? h, hg⟩
theorem zW_good : GoodIn zW zW := fun w h => ⟨h, good_of_word (List.mem_filter.mp h).2⟩
theorem zmem_of {ws : List Cond} (ps : List Nat) (h : ws.map some = ps.map (fun i => lw_tbl[i]?)) (hg : ws.all goodWord = true) : ∀ w ∈ ws, w ∈ zW := by
  intro w hw
  have h1 : some w ∈ ps.map (fun i => lw_tbl[i]?) := by rw [← h]; exact List.mem_map.mpr ⟨w, hw, rfl⟩
  obtain ⟨i, -, hi⟩ := List.mem_map.mp h1
  exact zW_of i hi (List.all_eq_true.mp hg w hw)
theorem zi_0 : ∀ w ∈ u_ws RX0 TX0 11, w ∈ zW := zmem_of [429, 431, 433, 435, 437, 439, 441, 443, 445, 447, 449] (by decide +kernel) (by decide +kernel)
theorem zi_1 : ∀ w ∈ u_ws RX1 TX1 18, w ∈ zW := zmem_of [929, 931, 933, 935, 937, 939, 941, 943, 945, 947, 949, 951, 953, 955, 957, 959, 961, 963] (by decide +kernel) (by decide +kernel)
theorem zi_2 : ∀ w ∈ u_ws RX2 TX2 3, w ∈ zW := zmem_of [612, 614, 616] (by decide +kernel) (by decide +kernel)
theorem zi_3 : ∀ w ∈ u_ws RX3 TX3 20, w ∈ zW := zmem_of [854, 856, 858, 860, 862, 864, 866, 868, 870, 872, 874, 876, 878, 880, 882, 884, 886, 888, 890, 892] (by decide +kernel) (by decide +kernel)
theorem zi_4 : ∀ w ∈ u_ws RX4 TX4 12, w ∈ zW := zmem_of [766, 768, 770, 772, 774, 776, 778, 780, 782, 784, 786, 788] (by decide +kernel) (by decide +kernel)
theorem zi_5 : ∀ w ∈ u_ws RX5 TX5 15, w ∈ zW := zmem_of [709, 711, 713, 715, 717, 719, 721, 723, 725, 727, 729, 731, 733, 735, 737] (by decide +kernel) (by decide +kernel)
theorem zi_6 : ∀ w ∈ u_ws RX6 TX6 8, w ∈ zW := zmem_of [809, 811, 813, 815, 817, 819, 821, 823] (by decide +kernel) (by decide +kernel)
theorem zi_7 : ∀ w ∈ u_ws RX7 TX7 5, w ∈ zW := zmem_of [319, 321, 323, 325, 327] (by decide +kernel) (by decide +kernel)
theorem zi_8 : ∀ w ∈ u_ws RX8 TX8 18, w ∈ zW := zmem_of [377, 379, 381, 383, 385, 387, 389, 391, 393, 395, 397, 399, 401, 403, 405, 407, 409, 411] (by decide +kernel) (by decide +kernel)
theorem zi_9 : ∀ w ∈ u_ws RX9 TX9 15, w ∈ zW := zmem_of [650, 652, 654, 656, 658, 660, 662, 664, 666, 668, 670, 672, 674, 676, 678] (by decide +kernel) (by decide +kernel)
theorem zi_10 : ∀ w ∈ u_ws RX10 TX10 14, w ∈ zW := zmem_of [562, 564, 566, 568, 570, 572, 574, 576, 578, 580, 582, 584, 586, 588] (by decide +kernel) (by decide +kernel)
theorem zi_11 : ∀ w ∈ u_ws RX11 TX11 7, w ∈ zW := zmem_of [973, 975, 977, 979, 981, 983, 985] (by decide +kernel) (by decide +kernel)
theorem zi_12 : ∀ w ∈ u_ws RX12 TX12 35, w ∈ zW := zmem_of [2279, 2281, 2283, 2285, 2287, 2289, 2291, 2293, 2295, 2297, 2299, 2301, 2303, 2305, 2307, 2309, 2311, 2313, 2315, 2317, 2319, 2321, 2323, 2325, 2327, 2329, 2331, 2333, 2335, 2337, 2339, 2341, 2343, 2345, 2347] (by decide +kernel) (by decide +kernel)
theorem zcls_ok : ∀ (ci : Nat) (q : vw_C), zcls[ci]? = some q → (∀ w ∈ u_ws q.1 q.2.1 q.2.2, w ∈ zW) ∧ (∀ k, k < q.2.2 → parseFieldDescriptor (q.2.1 k).2.2.1 = some (zfty ci k)) ∧ (∀ a, a < q.2.2 → ∀ b, b < q.2.2 → a ≠ b → (q.2.1 a).2.1 ≠ (q.2.1 b).2.1)
  | 0, q, h => by cases h; exact ⟨zi_0, tyX0_ok, nmX0⟩
  | 1, q, h => by cases h; exact ⟨zi_1, tyX1_ok, nmX1⟩
  | 2, q, h => by cases h; exact ⟨zi_2, tyX2_ok, nmX2⟩
  | 3, q, h => by cases h; exact ⟨zi_3, tyX3_ok, nmX3⟩
  | 4, q, h => by cases h; exact ⟨zi_4, tyX4_ok, nmX4⟩
  | 5, q, h => by cases h; exact ⟨zi_5, tyX5_ok, nmX5⟩
  | 6, q, h => by cases h; exact ⟨zi_6, tyX6_ok, nmX6⟩
  | 7, q, h => by cases h; exact ⟨zi_7, tyX7_ok, nmX7⟩
  | 8, q, h => by cases h; exact ⟨zi_8, tyX8_ok, nmX8⟩
  | 9, q, h => by cases h; exact ⟨zi_9, tyX9_ok, nmX9⟩
  | 10, q, h => by cases h; exact ⟨zi_10, tyX10_ok, nmX10⟩
  | 11, q, h => by cases h; exact ⟨zi_11, tyX11_ok, nmX11⟩
  | 12, q, h => by cases h; exact ⟨zi_12, tyX12_ok, nmX12⟩
  | k + 13, q, h => by simp [zcls] at h
/-! the links of the classes: (kind, a, b, place among the words) -/
def zown : Nat → String := fun k => match k with
  | 0 => "ForthHouse$Chip"
  | 1 => "ForthHouse$Forth"
  | 2 => "ForthHouse$Items"
  | 3 => "ForthHouse$Judge"
  | 4 => "ForthHouse$Lists"
  | 5 => "ForthHouse$Making"
  | 6 => "ForthHouse$Sink"
  | 7 => "ForthHouse$Space"
  | 8 => "ForthHouse$Task"
  | 9 => "ForthHouse$Texts"
  | 10 => "ForthHouse$Words"
  | 11 => "ForthHouse"
  | 12 => "ForthHouseModel"
  | 13 => "ForthHouseLaw"
  | 14 => "java/lang/Math"
  | 15 => "java/util/Arrays"
  | 16 => "java/lang/String"
  | 17 => "java/lang/StringLatin1"
  | 18 => "java/lang/StringUTF16"
  | 19 => "jdk/internal/util/Preconditions"
  | _ => "java/lang/System"
def zlook {α : Type} (w : Nat) (t : List (List (Option α))) (k : Nat) : Option α := (t.getD (k / w) []).getD (k % w) none
def zmnL : List (List (Option MethodName)) := [[some yX0_init, some yX0_holds, some yX0_make, some yX0_meet, some yX0_plan, some yX0_width, some yX0_isOnChip, some yX0_layDefinition, some yX0_layWord, some yX0_layCell, some yX0_lay, some yX0_receive, some yX0_run, some yX0_step, some yX0_end, some yX0_tell, some yX1_init, some yX1_begin, some yX1_become, some yX1_isLike, some yX1_figure, some yX1_tokenOf, some yX1_othersEnded, some yX1_isAtRest], [some yX1_hasText, some yX1_hand, some yX1_run, some yX1_step, some yX1_ask, some yX1_beginTask, some yX1_take, some yX1_takeFromBox, some yX1_endCatch, some yX1_itemStep, some yX1_does, some yX1_abort, some yX1_putOut, some yX1_textStep, some yX1_endText, some yX1_takeNumber, some yX1_digitOf, some yX1_leave, some yX1_unwind, some yX1_throwOut, some yX1_endTask, some yX1_handOn, some yX1_perform, some yX1_offer], [some yX1_doCreated, some yX1_goBack, some yX1_printing, some yX1_print, some yX1_sharp, some yX1_defining, some yX1_readFor, some yX1_beginDefinition, some yX1_endDefinition, some yX1_finish, some yX1_beginQuotation, some yX1_endQuotation, some yX1_addDoes, some yX1_makeValue, some yX1_makeWord, some yX1_makeImmediate, some yX1_tick, some yX1_setNamed, some yX1_assign, some yX1_string, some yX1_readLocals, some yX1_addLocals, some yX1_doToken, some yX1_evaluateText], [some yX1_nest, some yX1_tasking, some yX1_beginCatch, some yX1_makeTask, some yX1_send, some yX1_receive, some yX1_load, some yX2_init, some yX2_become, some yX2_isLike, some yX2_holds, some yX2_hasRoom, some yX2_add, some yX2_point, some yX2_isJump, some yX2_isWord, some yX2_isKind, some yX3_init, some yX3_work, some yX3_pass, some yX3_leastWaiting, some yX3_stop, some yX3_arrive, some yX3_take], [some yX3_goOn, some yX3_leaveAt, some yX3_look, some yX3_lookLoop, some yX3_lookWord, some yX3_lookBuiltIn, some yX3_mayLean, some yX3_makeLean, some yX3_leanOnce, some yX3_markTargets, some yX3_goes, some yX3_reckonsOne, some yX3_reckonsTwo, some yX3_reckoned, some yX3_remove, some yX4_init, some yX4_become, some yX4_isLike, some yX4_only, some yX4_search, some yX4_previous, some yX4_define, some yX4_mark, some yX4_goBack], [some yX5_init, some yX5_become, some yX5_isLike, some yX5_begin, some yX5_forget, some yX5_innermost, some yX5_base, some yX5_isLevel, some yX5_isMarked, some yX5_mark, some yX5_localOf, some yX5_nameLocal, some yX5_countLocals, some yX5_kindAt, some yX5_placeAt, some yX5_setPair, some yX5_control, some yX5_pair, some yX5_branch, some yX5_then, some yX5_otherwise, some yX5_back, some yX5_during, some yX5_repeat], [some yX5_endLoop, some yX5_leave, some yX5_endCase, some yX6_init, some yX6_become, some yX6_byteOf, some yX6_grow, some yX6_emit, some yX6_blanks, some yX6_write, some yX6_print, some yX6_digit, some yX6_keepAbove, some yX6_judgeAbove, some yX7_init, some yX7_become, some yX7_isLike, some yX7_isFloored, some yX7_isCased, some yX7_bits, some yX7_cut, some yX7_bare, some yX7_holds, some yX7_byteAt], [some yX7_cellAt, some yX7_layCell, some yX7_hasRoom, some yX7_moveHere, some yX7_aligned, some yX7_base, some yX7_hold, some yX8_init, some yX8_become, some yX8_isLike, some yX8_clearRows, some yX8_lengthOf, some yX8_cellOf, some yX8_lack, some yX8_push, some yX8_pop, some yX8_peek, some yX8_give, some yX8_flag, some yX8_giveTwin, some yX8_popTwin, some yX8_popBareTwin, some yX8_bringUp, some yX8_base], [some yX8_frameKind, some yX8_open, some yX8_enter, some yX8_close, some yX8_exit, some yX8_latestCatch, some yX8_fallTo, some yX8_core, some yX8_shuffle, some yX8_duplicate, some yX8_reachDown, some yX8_overReturn, some yX8_toReturn, some yX8_reckon, some yX8_twinWord, some yX8_divide, some yX8_divideBare, some yX8_divideTwin, some yX8_compare, some yX8_shift, some yX8_within, some yX8_memory, some yX8_lay, some yX8_fill], [some yX8_move, some yX8_reach, some yX8_loopWord, some yX8_flow, some yX8_beginLoop, some yX8_loop, some yX8_of, some yX8_enterLocals, some yX8_local, some yX9_init, some yX9_become, some yX9_isLike, some yX9_settle, some yX9_start, some yX9_nest, some yX9_fallTo, some yX9_inBlock, some yX9_readWord, some yX9_isBlank, some yX9_readUpTo, some yX9_skipLine, some yX9_isRead, some yX10_init, some yX10_addLine], [some yX10_become, some yX10_isLike, some yX10_holds, some yX10_isFull, some yX10_has, some yX10_isKind, some yX10_isEnded, some yX10_set, some yX10_make, some yX10_end, some yX10_newest, some yX10_tell, some yX10_letter, some yX11_init, some yX11_type, some yX11_wipe, some yX11_system, some yX11_evaluate, some yX11_go, some yX11_out, some yX11_count, some yX11_thrown, some yX11_depth, some yX11_cell], [some yX11_task, some yX11_fetch, some yX11_find, some yX11_word, some yX11_name, some yX11_item, some yX11_effect, some yX11_effectOf, some yX11_lean, some yX11_chip, some yX11_chipWord, some yX11_chipPut, some yX11_chipGo, some yX11_chipTold, some yX11_chipCell, some yX11_chipByte, some yX11_put, some yX11_keep, some yX11_again, some yX11_same, some yX11_systemOf, some yX11_taskOf, some yX11_stepsGood, some yX11_sameCells], [some yX11_sameBytes, some yX11_copyCells, some yX11_copyBytes, some yX11_spelled, some yX11_quotient, some yX12_bits, some yX12_mask, some yX12_wide, some yX12_round, some yX12_lies, some yX12_reach, some yX12_byteAt, some yX12_putByte, some yX12_high, some yX12_cellAt, some yX12_putCell, some yX12_depth, some yX12_may, some yX12_pop, some yX12_push, some yX12_top, some yX12_pushDouble, some yX12_popDouble, some yX12_frames], [some yX12_frameAt, some yX12_base, some yX12_newFrame, some yX12_put, some yX12_textFrame, some yX12_nested, some yX12_textSize, some yX12_textByte, some yX12_in, some yX12_isBlank, some yX12_word, some yX12_upTo, some yX12_wordAt, some yX12_itemAt, some yX12_isToken, some yX12_lower, some yX12_isName, some yX12_search, some yX12_newWord, some yX12_newName, some yX12_item, some yX12_items, some yX12_here, some yX12_lead], [some yX12_def, some yX12_beginDef, some yX12_endDef, some yX12_pair, some yX12_topPair, some yX12_hasPair, some yX12_numberBase, some yX12_flag, some yX12_stack, some yX12_roll, some yX12_pushReturn, some yX12_popReturn, some yX12_hasReturn, some yX12_returns, some yX12_floorOf, some yX12_quotient, some yX12_divided, some yX12_unsignedDivided, some yX12_signedDivided, some yX12_reckon, some yX12_compare, some yX12_grow, some yX12_up, some yX12_storing], [some yX12_rows, some yX12_hold, some yX12_letter, some yX12_digits, some yX12_print, some yX12_type, some yX12_spaces, some yX12_printing, some yX12_plain, some yX12_layString, some yX12_literal, some yX12_string, some yX12_comment, some yX12_named, some yX12_local, some yX12_is, some yX12_locals, some yX12_freeMark, some yX12_marker, some yX12_mark, some yX12_makes, some yX12_assign, some yX12_putValue, some yX12_postpone], [some yX12_ends, some yX12_compiles, some yX12_drops, some yX12_origin, some yX12_then, some yX12_swapPairs, some yX12_back, some yX12_settle, some yX12_loopEnds, some yX12_innermost, some yX12_control, some yX12_endCase, some yX12_does, some yX12_enter, some yX12_isCompiling, some yX12_isOnly, some yX12_builtIn, some yX12_asks, some yX12_nest, some yX12_open, some yX12_loopAt, some yX12_exit, some yX12_loops, some yX12_beginLoop], [some yX12_goOn, some yX12_runItem, some yX12_doItem, some yX12_isLocal, some yX12_doLocal, some yX12_orders, some yX12_taskAt, some yX12_passes, some yX12_emptyRows, some yX12_taskEnds, some yX12_tasks, some yX12_receive, some yX12_takeBox, some yX12_tests, some yX12_thrown, some yX12_restore, some yX12_outOf, some yX12_digit, some yX12_isNumber, some yX12_interpret, some yX12_textEnds, some yX12_step, some yX12_look, some yX12_steps], [some yX12_conflict, some yX12_come, some yX12_goThrough, some yX12_taking, some yX12_ending, some yX12_visit, some yX12_comeToo, some yX12_visitWord, some yX12_visitBuiltIn, some yX12_effectOf, some yX12_laysLed, some yX12_isLed, some yX12_fold, some yX12_isFolding, some yX12_isTurning, some yX12_drop, some yX12_leanAt, some yX12_partOf, some yX12_chipWords, some yX12_measures, some yX12_lays, some yX12_chipStep, some yX12_chipExit, some yX12_init], [some yX12_isIn, some yX12_isSystem, some yX12_type_, some yX12_wipe, some yX12_copyTape, some yX12_systems, some yX12_system, some yX12_evaluate, some yX12_go, some yX12_out, some yX12_count, some yX12_thrown_, some yX12_depth_, some yX12_cell, some yX12_task, some yX12_fetch, some yX12_find, some yX12_isOf, some yX12_word_, some yX12_name, some yX12_item_, some yX12_isEnded, some yX12_effect, some yX12_effectOf_], [some yX12_lean, some yX12_chip, some yX12_chipWord, some yX12_lookChip, some yX12_chipPut, some yX12_chipGo, some yX12_chipTold, some yX12_chipCell, some yX12_chipByte, some yX12_put_, some yX12_copy, some yX12_keep, some yX12_again, some yX12_rowsAlike, some yX12_same, some yX12_tasksAlike, some yJ9_floorDiv_f86c9, some yJ9_abs_067f4, some yJ9_max_7cf53, some yJ9_min_7cf53, some yJ9_min_f86c9, some yJ0_length_8abf5, some yJ0_charAt_5068e, some yJ0_coder_7d493], [some yJ0_isLatin1_aae02, some yJ0_checkIndex_df160, some yJ1_charAt_3b067, some yJ2_getChar_3b067, some yJ2_length_9d52b, some yJ2_charAt_3b067, some yJ2_checkIndex_2214a, some yJ7_rangeCheck_23922, some yJ7_fill_53178, some yJ7_fill_031fb, some yJ7_fill_eb02e, some yJ3_checkIndex_8e157, some yL_law]]
def zmn : Nat → MethodName := fun k => (zlook 24 zmnL k).getD yL_law
def zlkL_0 : List (List (Option (Nat × Nat × Nat × Nat))) := [[none, none, none, some (9, 0, 0, 297), none, none, none, none, none, some (0, 0, 0, 414), none, none, none, none, none, some (3, 7, 0, 298), none, some (2, 158, 0, 300), some (0, 0, 2, 417), none, none, none, some (3, 8, 0, 333), none, some (1, 175, 1, 335), none, none, some (0, 0, 3, 419), none, none, none, some (0, 0, 7, 425)], [none, none, some (0, 0, 8, 426), none, none, some (0, 0, 9, 427), none, none, some (0, 0, 1, 416), none, none, none, some (1, 178, 0, 2021), none, none, some (0, 0, 4, 421), none, none, some (0, 0, 5, 423), none, none, some (0, 0, 6, 424), none, none, some (1, 4, 2, 2022), none, none, none, some (0, 0, 10, 428), none, none, some (1, 7, 2, 2044)], [none, none, none, some (0, 1, 0, 899), none, none, some (1, 159, 1, 2063), none, none, some (0, 8, 13, 365), none, none, some (1, 512, 2, 2026), none, none, none, none, none, some (1, 3, 1, 2029), none, none, none, some (0, 1, 1, 902), none, none, some (1, 246, 1, 2033), none, none, none, none, none, some (1, 244, 2, 2034)], [none, none, none, some (0, 10, 3, 536), none, none, some (0, 10, 4, 540), none, none, some (0, 1, 2, 905), none, none, none, some (1, 82, 1, 2035), none, none, none, none, some (1, 5, 2, 2036), none, none, some (0, 2, 0, 598), none, none, none, some (0, 2, 1, 603), none, none, some (1, 242, 1, 2040), some (0, 10, 0, 529), some (1, 6, 1, 2041)], [none, some (0, 10, 5, 542), none, none, some (1, 9, 1, 2048), none, none, some (1, 8, 2, 2057), none, none, some (1, 86, 1, 2062), none, none, some (5, 16777216, 0, 2052), some (1, 10, 1, 2053), none, none, some (5, 285212672, 0, 2061), some (0, 8, 7, 351), none, none, some (1, 185, 1, 2088), none, none, none, some (1, 13, 1, 2097), none, none, none, some (1, 1, 1, 2101), some (1, 219, 2, 2102)], [none, none, some (1, 194, 1, 2103), none, none, some (8, 13, 0, 2104), none, none, some (8, 14, 0, 2105), none, none, some (1, 181, 2, 2106), none, none, some (1, 199, 1, 2107), none, none, some (0, 8, 11, 360), none, none, some (1, 196, 0, 2108), none, none, none, some (1, 14, 0, 2109), none, none, some (0, 8, 8, 354), none, none, some (0, 8, 9, 356)], [none, some (0, 8, 10, 358), none, none, some (1, 179, 1, 2121)]]
def zlkT_0 : Nat → Option (Nat × Nat × Nat × Nat) := fun k => zlook 32 zlkL_0 k
def zlk_0 : Nat → Option (Nat × Nat × Nat × Nat) := fun k => cond (Nat.blt k 1060) (zlkT_0 k) none
def zlkL_1 : List (List (Option (Nat × Nat × Nat × Nat))) := [[none, none, none, some (9, 0, 0, 456), none, none, none, none, none, some (3, 7, 0, 457), none, some (2, 158, 0, 458), some (0, 1, 0, 898), none, none, none, none, none, some (3, 10, 0, 459), none, some (1, 238, 0, 461), some (0, 1, 1, 901), none, none, none, some (3, 2, 0, 591), none, some (2, 79, 0, 593), some (0, 1, 2, 904)], [some (3, 9, 0, 619), none, some (1, 225, 1, 621), none, none, some (0, 1, 3, 907), none, none, none, some (3, 5, 0, 681), none, some (1, 120, 1, 683), none, none, some (0, 1, 4, 909), none, none, none, some (3, 4, 0, 740), none, some (1, 111, 0, 742), some (0, 1, 5, 910), none, none, none, some (3, 6, 0, 791), none, some (2, 147, 0, 793), some (0, 1, 6, 911)], [some (3, 3, 0, 826), none, some (1, 89, 3, 828), none, none, some (0, 1, 7, 913), none, none, none, some (3, 8, 0, 895), none, some (0, 1, 8, 915), none, none, none, some (0, 1, 14, 925), none, none, none, some (0, 1, 16, 927), none, none, some (1, 175, 1, 897), some (0, 8, 14, 367), none, none, some (0, 7, 1, 308), none, none, some (0, 7, 2, 312)], [some (1, 169, 2, 1004), none, none, none, some (1, 159, 1, 2142), none, none, some (1, 240, 1, 2143), none, none, some (1, 80, 1, 2151), none, some (1, 226, 1, 2157), none, none, some (1, 121, 1, 2163), none, none, some (1, 112, 1, 2169), none, none, some (1, 148, 1, 2174), none, none, some (1, 176, 1, 2180), none, none, some (0, 1, 9, 917), none, none, some (0, 1, 10, 918)], [none, some (0, 1, 11, 919), none, none, some (0, 1, 12, 921), none, none, some (0, 1, 13, 923), none, none, some (1, 177, 1, 2197), none, none, none, some (1, 160, 1, 2204), none, none, some (1, 241, 1, 2211), none, none, some (1, 81, 1, 2217), none, none, some (1, 227, 1, 2223), none, none, some (1, 122, 1, 2228), none, none, some (1, 113, 1, 2232)], [some (0, 7, 3, 315), none, none, some (0, 10, 12, 559), none, none, some (0, 2, 2, 610), some (0, 6, 1, 799), some (0, 5, 1, 689), none, none, none, some (0, 4, 2, 751), some (0, 4, 1, 749), none, none, some (0, 4, 3, 753), none, none, some (0, 6, 6, 806), none, none, some (0, 6, 7, 808), none, none, some (0, 9, 11, 646), none, none, some (0, 10, 13, 561), none, none, some (0, 5, 12, 706)], [none, none, some (0, 9, 10, 643), none, none, some (0, 4, 0, 747), none, none, none, some (1, 162, 0, 1226), none, none, none, some (1, 250, 4, 1245), none, none, none, some (0, 5, 4, 695), none, none, some (1, 22, 0, 1313), none, none, some (0, 1, 17, 928), none, none, some (1, 27, 0, 1036), none, none, none, some (1, 46, 0, 1289)], [none, some (1, 90, 1, 1785), none, none, none, some (1, 42, 1, 1845), none, none, none, some (1, 25, 0, 1040), none, none, none, some (0, 8, 16, 374), none, none, some (1, 29, 1, 1044), none, none, none, some (0, 8, 17, 376), none, none, some (1, 30, 1, 1056), none, none, some (1, 192, 0, 1072), none, none, some (1, 33, 1, 1080)], [some (1, 32, 1, 1190), none, none, some (1, 24, 0, 1195), none, none, some (1, 37, 0, 1199), none, none, some (1, 44, 1, 1277), none, none, some (0, 1, 15, 926), none, none, some (1, 242, 1, 1048), none, none, none, some (1, 28, 2, 1052), none, none, none, some (1, 31, 1, 1060), none, none, some (1, 181, 2, 1064), none, none, none, some (0, 8, 6, 348)], [none, some (1, 182, 1, 1068), none, none, some (0, 8, 12, 363), none, none, some (1, 195, 0, 1194), none, none, some (0, 8, 13, 366), none, none, some (1, 82, 1, 1084), some (0, 2, 1, 606), none, none, some (0, 2, 0, 601), none, none, none, some (1, 34, 2, 1088), none, none, none, some (1, 66, 1, 1106), none, none, some (1, 84, 2, 1114), none, none, some (1, 35, 1, 1118)], [none, none, some (1, 219, 2, 1151), none, none, some (1, 245, 2, 1092), none, none, none, some (0, 10, 5, 543), none, some (1, 196, 0, 1097), none, none, some (1, 183, 0, 1110), none, none, some (1, 165, 1, 1122), none, none, none, some (1, 36, 2, 1126), none, none, none, some (1, 166, 2, 1130), none, none, some (0, 7, 0, 306), none, none, some (1, 153, 3, 1135)], [none, none, none, some (1, 233, 1, 1203), none, none, none, some (1, 38, 0, 1218), none, none, some (0, 9, 7, 638), none, none, some (0, 9, 8, 640), none, none, some (1, 130, 3, 1230), none, none, none, some (1, 21, 2, 1241), none, none, none, some (1, 39, 0, 1250), none, none, some (1, 244, 2, 1272), none, none, some (8, 15, 0, 1276)], [none, some (0, 9, 6, 636), none, none, some (1, 231, 2, 1222), none, none, some (1, 41, 2, 1254), none, none, none, some (1, 173, 0, 1264), none, none, some (1, 40, 1, 1269), none, none, some (1, 164, 1, 1258), none, none, none, some (1, 163, 0, 1259), none, none, some (1, 83, 1, 1260), none, none, some (1, 197, 0, 1849), none, none, some (0, 8, 5, 346)], [none, some (1, 198, 2, 1853), some (1, 43, 1, 1857), none, none, some (1, 168, 1, 1743), none, none, some (1, 178, 0, 1281), none, none, some (0, 5, 5, 697), none, none, some (0, 10, 3, 537), none, none, some (1, 499, 2, 1861), none, none, none, none, some (0, 5, 3, 693), none, none, some (1, 124, 0, 1862), none, none, some (0, 8, 15, 372), none, none, some (1, 45, 0, 1285)], [none, none, some (0, 10, 0, 531), some (1, 194, 1, 1293), none, none, some (1, 48, 2, 1301), none, none, some (1, 49, 2, 1309), none, none, some (1, 47, 2, 1305), none, none, some (8, 13, 0, 1322), none, none, some (8, 14, 0, 1324), none, none, some (1, 199, 1, 1326), none, none, some (1, 50, 2, 1476), none, none, some (1, 53, 2, 1515), none, none, some (1, 136, 1, 1672)], [none, some (1, 73, 2, 1735), none, none, some (0, 8, 11, 361), none, none, some (0, 4, 4, 755), none, none, some (0, 4, 8, 762), none, none, some (0, 4, 5, 757), none, none, some (0, 4, 7, 760), none, none, some (1, 119, 1, 1317), none, some (1, 51, 2, 1480), none, none, none, some (1, 151, 1, 1496), none, none, some (1, 152, 1, 1497), none, none, some (0, 7, 4, 318)], [none, none, some (1, 52, 2, 1502), none, none, some (1, 188, 0, 1514), none, none, none, some (1, 174, 1, 1509), none, none, some (1, 154, 2, 1484), none, none, some (1, 189, 0, 1506), none, none, some (2, 292, 2, 1507), none, none, none, some (1, 155, 1, 1508), none, none, none, some (1, 187, 1, 1513), none, none, some (1, 54, 1, 1519)], [some (1, 55, 1, 1523), none, none, some (1, 56, 1, 1540), none, none, some (1, 61, 2, 1564), none, none, some (1, 62, 1, 1568), none, none, some (1, 63, 0, 1577), none, none, some (1, 64, 2, 1585), none, none, some (0, 8, 7, 352), none, none, some (1, 125, 0, 1556), none, none, some (1, 65, 1, 1589), none, none, some (1, 60, 0, 1593), none, none, some (1, 67, 2, 1601)], [none, some (1, 235, 2, 1605), none, none, some (1, 236, 1, 1610), none, none, none, some (1, 68, 0, 1619), none, none, some (1, 58, 0, 1642), none, none, some (1, 59, 0, 1646), none, none, some (1, 71, 1, 1655), none, none, some (1, 70, 2, 1668), none, none, some (1, 243, 0, 1527), none, none, some (0, 5, 2, 691), none, none, some (1, 248, 5, 1531)], [none, some (1, 123, 2, 1536), none, none, some (1, 127, 0, 1544), none, none, some (1, 57, 0, 1552), none, none, some (1, 249, 2, 1560), none, none, some (1, 247, 2, 1581), none, none, some (0, 5, 7, 700), none, none, some (1, 85, 1, 1650), none, none, some (1, 129, 1, 1597), none, none, some (1, 170, 1, 1572), some (1, 118, 3, 1573), none, none, some (10, 0, 0, 1609)], [none, none, none, some (1, 128, 1, 1623), none, none, some (1, 237, 2, 1624), none, none, some (1, 69, 2, 1628), none, none, some (1, 131, 3, 1637), none, none, none, some (1, 132, 1, 1632), none, none, some (1, 72, 4, 1659), none, none, none, some (1, 193, 1, 1663), none, some (1, 230, 3, 1664), none, none, some (1, 74, 1, 1739), none, none, some (1, 115, 1, 1744)], [none, none, some (1, 116, 0, 1748), none, none, some (1, 117, 0, 1752), none, none, some (1, 114, 0, 1756), none, none, some (1, 75, 1, 1760), none, none, some (1, 76, 1, 1764), none, none, some (1, 77, 1, 1769), none, none, some (1, 78, 1, 1773), none, none, some (0, 6, 3, 802), none, none, some (1, 156, 1, 1777), none, none, some (1, 157, 1, 1781)], [some (1, 186, 1, 1768)]]
def zlkT_1 : Nat → Option (Nat × Nat × Nat × Nat) := fun k => zlook 32 zlkL_1 k
def zlk_1 : Nat → Option (Nat × Nat × Nat × Nat) := fun k => cond (Nat.blt k 1060) (zlkT_1 k) none
def zlkL_2 : List (List (Option (Nat × Nat × Nat × Nat))) := [[none, none, none, some (9, 0, 0, 596), none, none, none, none, none, some (0, 2, 0, 597), none, none, none, none, none, some (0, 2, 1, 602), none, none, none, some (2, 290, 2, 2155), none, none, none, some (2, 289, 2, 2156), none, none, none, some (0, 2, 2, 608), none, none, none, some (2, 288, 3, 2221)], [none, none, none, some (2, 287, 4, 2222), none, none, none, some (1, 82, 1, 1654)]]
def zlkT_2 : Nat → Option (Nat × Nat × Nat × Nat) := fun k => zlook 32 zlkL_2 k
def zlk_2 : Nat → Option (Nat × Nat × Nat × Nat) := fun k => cond (Nat.blt k 1060) (zlkT_2 k) none
def zlkL_3 : List (List (Option (Nat × Nat × Nat × Nat))) := [[none, none, none, some (9, 0, 0, 831), none, none, none, none, none, some (0, 3, 3, 837), none, none, none, none, none, some (0, 3, 4, 838), none, none, some (0, 3, 5, 839), none, none, some (0, 3, 6, 840), none, none, none, some (0, 3, 0, 834), none, none, none, some (0, 3, 1, 835)], [none, some (3, 8, 0, 832), none, some (1, 175, 1, 833), none, none, some (0, 3, 2, 836), none, none, none, some (1, 246, 1, 1789), none, none, none, none, none, some (0, 3, 7, 841), none, none, none, some (0, 10, 3, 535), none, none, some (0, 3, 8, 842), none, none, some (0, 10, 4, 539), none, none, some (0, 2, 2, 609)], [none, none, some (1, 499, 2, 1795), none, none, none, none, none, some (0, 3, 9, 843), none, none, some (0, 3, 16, 850), none, none, none, some (0, 3, 17, 851), none, none, some (1, 91, 0, 1796), none, none, some (0, 3, 11, 845), none, none, some (0, 3, 13, 847), none, none, some (0, 3, 18, 852), none, none, some (0, 3, 14, 848)], [none, some (0, 3, 19, 853), none, none, some (1, 93, 2, 1821), none, none, none, some (0, 10, 8, 547), none, none, some (0, 10, 9, 550), none, none, some (0, 10, 10, 553), none, none, some (0, 10, 11, 556), none, none, some (0, 3, 12, 846), none, none, some (0, 3, 15, 849), none, none, some (0, 3, 10, 844), none, none, some (1, 94, 4, 1800)], [none, some (1, 92, 0, 1804), none, none, none, some (1, 98, 1, 1808), none, none, none, some (1, 95, 2, 1827), none, none, some (0, 2, 1, 604), none, none, some (0, 2, 0, 599), none, none, some (1, 245, 2, 1812), none, none, none, some (1, 101, 2, 1813), none, none, some (1, 100, 2, 1832), none, none, some (1, 96, 3, 1837)], [some (1, 99, 2, 1841), none, none, some (1, 97, 1, 1817), none, none, some (1, 242, 1, 1836), none, none, some (0, 10, 0, 530), some (8, 15, 0, 1825), none, none, some (8, 13, 0, 1826), none, none, some (8, 14, 0, 1831), none, none, some (1, 244, 2, 1964), none, none, some (1, 88, 2, 1965), some (1, 104, 0, 1974), none, none, some (1, 105, 0, 1978), none, none, some (1, 110, 2, 1986)], [some (1, 106, 1, 1990), none, none, some (1, 107, 1, 1998), none, none, some (1, 109, 3, 2001), none, none, none, some (1, 108, 1, 2010), none, none, some (1, 86, 1, 1982), none, none, some (1, 87, 2, 1994), none, none, some (1, 178, 0, 2005), none, none, some (1, 182, 1, 2006), none, none, some (1, 205, 1, 2007), none, none, none, some (1, 210, 1, 2008)], [some (1, 183, 0, 2009)]]
def zlkT_3 : Nat → Option (Nat × Nat × Nat × Nat) := fun k => zlook 32 zlkL_3 k
def zlk_3 : Nat → Option (Nat × Nat × Nat × Nat) := fun k => cond (Nat.blt k 1060) (zlkT_3 k) none
def zlkL_4 : List (List (Option (Nat × Nat × Nat × Nat))) := [[none, none, none, some (9, 0, 0, 745), none, none, none, none, none, some (0, 4, 0, 746), none, none, none, none, none, some (0, 4, 1, 748), none, none, none, some (0, 4, 2, 750), none, none, some (0, 4, 3, 752), none, none, some (0, 4, 5, 756), none, none, some (0, 4, 6, 758), none, none, some (0, 4, 7, 759)], [none, none, some (0, 4, 8, 761), none, none, some (0, 4, 9, 763), none, none, some (0, 4, 10, 764), none, none, some (0, 4, 11, 765), none, none, some (2, 289, 2, 2173), none, none, none, some (0, 4, 4, 754), none, none, some (2, 287, 4, 2236), none, none, none, some (10, 0, 0, 1321)]]
def zlkT_4 : Nat → Option (Nat × Nat × Nat × Nat) := fun k => zlook 32 zlkL_4 k
def zlk_4 : Nat → Option (Nat × Nat × Nat × Nat) := fun k => cond (Nat.blt k 1060) (zlkT_4 k) none
def zlkL_5 : List (List (Option (Nat × Nat × Nat × Nat))) := [[none, none, none, some (9, 0, 0, 686), none, none, none, none, none, some (0, 5, 5, 696), none, none, none, none, none, some (0, 5, 6, 698), none, none, some (0, 5, 7, 699), none, none, some (0, 5, 8, 701), none, none, some (0, 5, 9, 702), none, none, some (0, 5, 10, 703), none, none, none, some (0, 5, 11, 704)], [none, none, some (0, 5, 13, 707), none, none, some (0, 5, 14, 708), none, none, some (0, 5, 0, 687), none, none, none, some (0, 5, 1, 688), none, none, none, some (0, 5, 2, 690), none, none, some (0, 5, 3, 692), none, none, none, some (0, 5, 4, 694), none, none, some (2, 289, 2, 2167), none, none, none, some (2, 290, 2, 2168)], [none, none, some (0, 5, 12, 705), none, none, some (1, 126, 0, 1548), none, none, none, some (1, 128, 1, 1234), none, none, none, some (2, 291, 5, 1238), none, none, none, some (10, 0, 0, 1641), none, none, none, none, none, some (1, 129, 1, 1636), none, none, none, some (1, 138, 2, 1676), none, none, none, some (0, 2, 2, 611)], [none, none, none, none, some (1, 137, 2, 1686), none, none, some (1, 139, 0, 1690), none, none, some (1, 140, 2, 1703), none, none, some (1, 141, 1, 1707), none, none, none, some (1, 142, 0, 1711), none, none, some (1, 143, 0, 1715), none, none, some (1, 144, 1, 1719), none, none, some (1, 145, 0, 1727), none, none, some (1, 146, 0, 1731)], [some (1, 135, 3, 1681), none, none, none, some (1, 83, 1, 1680), none, none, some (1, 84, 2, 1685), none, none, some (1, 133, 1, 1694), none, none, some (1, 134, 1, 1698), none, none, some (1, 85, 1, 1702), none, none, some (1, 88, 2, 1723), none, none, none, some (0, 2, 1, 607)]]
def zlkT_5 : Nat → Option (Nat × Nat × Nat × Nat) := fun k => zlook 32 zlkL_5 k
def zlk_5 : Nat → Option (Nat × Nat × Nat × Nat) := fun k => cond (Nat.blt k 1060) (zlkT_5 k) none
def zlkL_6 : List (List (Option (Nat × Nat × Nat × Nat))) := [[none, none, none, some (9, 0, 0, 796), none, none, none, none, none, some (0, 6, 0, 797), none, none, none, none, none, some (0, 6, 2, 800), none, none, some (0, 6, 4, 803), none, none, none, some (2, 290, 2, 2178), none, none, none, some (0, 6, 1, 798), none, none, none, some (0, 6, 3, 801)], [none, some (2, 289, 2, 2179), none, none, none, some (0, 6, 5, 804), none, none, some (0, 6, 6, 805), none, none, some (0, 6, 7, 807), none, none, some (5, 2147483647, 0, 1150), some (1, 150, 1, 1146), none, none, none, some (1, 498, 2, 1139), none, none, none, none, none, some (1, 499, 2, 1142), none, none, some (1, 514, 4, 1501)], [none, none, some (10, 0, 0, 1145), none, none, none, none, none, some (1, 497, 1, 1488), none, none, none, some (1, 155, 1, 1489), none, none, none, some (1, 151, 1, 1492), none, none, none, some (0, 8, 7, 350), none, none, none, none, some (0, 8, 1, 341)]]
def zlkT_6 : Nat → Option (Nat × Nat × Nat × Nat) := fun k => zlook 32 zlkL_6 k
def zlk_6 : Nat → Option (Nat × Nat × Nat × Nat) := fun k => cond (Nat.blt k 1060) (zlkT_6 k) none
def zlkL_7 : List (List (Option (Nat × Nat × Nat × Nat))) := [[none, none, none, some (9, 0, 0, 303), none, none, none, none, none, some (0, 7, 0, 304), none, none, none, none, none, some (0, 7, 3, 314), none, none, none, some (0, 7, 4, 317), none, none, some (2, 290, 2, 2067), none, none, none, some (0, 7, 1, 309), none, none, some (0, 7, 2, 313)], [some (2, 288, 3, 2208), none, none, none, some (6, 4096, 0, 1134), none, some (6, 256, 0, 1432), none, some (1, 498, 2, 1446), none, none, none, none, none, some (1, 168, 1, 1268)]]
def zlkT_7 : Nat → Option (Nat × Nat × Nat × Nat) := fun k => zlook 32 zlkL_7 k
def zlk_7 : Nat → Option (Nat × Nat × Nat × Nat) := fun k => cond (Nat.blt k 1060) (zlkT_7 k) none
def zlkL_8 : List (List (Option (Nat × Nat × Nat × Nat))) := [[none, none, none, some (9, 0, 0, 338), none, none, none, none, none, some (0, 8, 1, 340), none, none, none, none, none, some (0, 8, 2, 342), none, none, some (0, 8, 3, 343), none, none, some (0, 8, 4, 344), none, none, some (0, 8, 5, 345), none, none, some (0, 8, 6, 347), none, none, some (0, 8, 13, 364)], [none, none, some (0, 8, 16, 373), none, none, some (0, 8, 0, 339), none, none, none, some (2, 289, 2, 2184), none, none, none, some (0, 8, 7, 349), none, none, some (0, 8, 8, 353), none, none, some (0, 8, 9, 355), none, none, some (0, 8, 10, 357), none, none, some (0, 8, 11, 359), none, none, some (0, 8, 12, 362), none, none, some (0, 8, 14, 368)], [none, none, some (0, 8, 15, 370), none, none, some (0, 8, 17, 375), none, none, none, some (2, 287, 4, 2201), none, none, none, some (1, 164, 1, 1169), none, none, none, none, none, some (1, 182, 1, 1155), none, none, none, some (1, 163, 0, 1165), none, none, none, some (1, 183, 0, 1156), none, none, some (1, 165, 1, 1346)], [none, none, some (1, 191, 1, 1076), none, none, none, some (1, 193, 1, 1297), none, none, none, some (1, 192, 0, 1101), none, none, some (1, 195, 0, 1102), none, none, some (1, 499, 2, 1378), none, none, none, none, none, some (1, 200, 1, 1330), none, none, some (1, 203, 1, 1347), none, none, some (1, 205, 1, 1355), none, none, some (1, 210, 1, 1407)], [none, none, some (1, 213, 1, 1424), none, none, some (1, 218, 1, 1472), none, none, some (1, 184, 1, 1177), none, none, some (1, 190, 1, 1334), none, none, some (1, 201, 0, 1338), none, none, some (1, 202, 1, 1342), none, none, some (1, 204, 3, 1351), none, none, none, some (1, 185, 1, 1359), none, none, some (1, 207, 2, 1363), none, none, some (6, 2, 0, 1374)], [some (1, 497, 1, 1375), none, none, none, some (1, 498, 2, 1379), none, none, some (1, 187, 1, 1380), none, none, some (1, 208, 1, 1384), none, none, some (1, 209, 2, 1395), none, none, some (1, 206, 1, 1403), none, none, some (1, 188, 0, 1399), none, none, none, some (1, 161, 0, 1367), none, none, none, some (1, 496, 2, 1371), none, none, none, some (1, 189, 0, 1388)], [none, none, some (2, 292, 2, 1392), none, none, some (8, 13, 0, 1411), none, none, none, some (1, 186, 1, 1412), none, none, none, some (1, 211, 2, 1416), none, none, none, some (1, 212, 1, 1420), none, none, some (0, 7, 3, 316), none, none, some (1, 171, 1, 1428), none, none, some (0, 7, 1, 311), none, none, some (1, 214, 2, 1433)], [some (1, 172, 1, 1442), none, none, some (1, 215, 1, 1447), none, none, some (1, 216, 1, 1458), none, none, some (1, 166, 2, 1451), none, none, none, some (1, 167, 1, 1463), none, none, some (1, 217, 2, 1467), none, none, some (1, 170, 1, 1437), none, none, some (0, 7, 0, 307), none, none, some (1, 169, 2, 1441), none, none, none, some (1, 514, 4, 1452)], [none, none, some (10, 0, 0, 1462), none, none, none, none, none, some (1, 168, 1, 1471), none, none, some (1, 220, 2, 1157), none, none, some (1, 221, 2, 1161), none, none, some (1, 222, 1, 1173), none, none, some (1, 223, 2, 1181), none, none, some (1, 224, 2, 1185), none, none, some (1, 181, 2, 1189)]]
def zlkT_8 : Nat → Option (Nat × Nat × Nat × Nat) := fun k => zlook 32 zlkL_8 k
def zlk_8 : Nat → Option (Nat × Nat × Nat × Nat) := fun k => cond (Nat.blt k 1060) (zlkT_8 k) none
def zlkL_9 : List (List (Option (Nat × Nat × Nat × Nat))) := [[none, none, none, some (9, 0, 0, 624), none, none, none, none, none, some (0, 9, 1, 629), none, none, none, none, none, some (0, 9, 2, 630), none, none, some (0, 9, 3, 632), none, none, none, some (0, 9, 4, 633), none, none, some (0, 9, 5, 634), none, none, some (0, 9, 6, 635), none, none, some (0, 9, 7, 637)], [none, none, some (0, 9, 0, 628), none, none, none, some (1, 513, 2, 625), none, none, none, none, none, some (0, 9, 12, 647), none, none, some (2, 290, 2, 2161), none, none, none, some (2, 289, 2, 2162), none, none, none, some (0, 9, 9, 641), none, none, none, some (0, 9, 10, 642), none, none, some (0, 9, 11, 644)], [none, none, some (1, 228, 0, 1028), none, none, some (2, 288, 3, 2227), none, none, none, some (0, 9, 13, 648), none, none, some (0, 9, 14, 649), none, none, some (0, 7, 0, 305), none, none, none, none, some (10, 0, 0, 1024), none, none, none, none, none, some (1, 169, 2, 1027), none, none, none, some (1, 168, 1, 1207)], [none, none, some (0, 9, 8, 639), none, none, some (1, 165, 1, 1211), none, none, none, some (1, 500, 2, 1212), none, none, none, none, none, some (1, 234, 1, 1215), none, none, none, some (1, 232, 0, 1614), none, none, none, some (1, 235, 2, 1618)]]
def zlkT_9 : Nat → Option (Nat × Nat × Nat × Nat) := fun k => zlook 32 zlkL_9 k
def zlk_9 : Nat → Option (Nat × Nat × Nat × Nat) := fun k => cond (Nat.blt k 1060) (zlkT_9 k) none
def zlkL_10 : List (List (Option (Nat × Nat × Nat × Nat))) := [[none, none, none, some (9, 0, 0, 464), none, none, none, none, none, some (0, 10, 0, 528), none, none, none, none, none, some (0, 10, 1, 532), none, none, some (0, 10, 2, 533), none, none, some (0, 10, 3, 534), none, none, none, some (0, 10, 4, 538), none, none, some (0, 10, 5, 541), none, none, some (0, 10, 6, 544)], [none, none, some (0, 10, 7, 545), none, none, some (0, 10, 8, 546), none, none, some (0, 10, 9, 549), none, none, some (0, 10, 10, 552), none, none, some (0, 10, 11, 555), none, none, some (0, 10, 13, 560), none, none, none, some (7, 0, 0, 465), none, some (1, 239, 1, 466), none, none, none, some (7, 1, 0, 520), none, some (7, 2, 0, 521), none, some (7, 3, 0, 522)], [none, some (7, 4, 0, 523), none, some (7, 5, 0, 524), none, some (7, 6, 0, 525), none, some (7, 7, 0, 526), none, some (7, 8, 0, 527), none, some (1, 501, 0, 470), none, none, none, none, none, some (1, 502, 1, 480), none, none, none, some (0, 10, 12, 558), none, none, some (8, 15, 0, 518), none, none, some (2, 290, 2, 2147), none, none, none, some (2, 289, 2, 2148)], [none, none, none, some (1, 251, 2, 2215), none, none, none, some (1, 252, 2, 2216), none, none, some (1, 242, 1, 1096), none, none, none, some (1, 245, 2, 1793), none, none, none, some (1, 244, 2, 1794), none, none, some (10, 0, 0, 1535), none, none, none, none, none, some (2, 291, 5, 1249)]]
def zlkT_10 : Nat → Option (Nat × Nat × Nat × Nat) := fun k => zlook 32 zlkL_10 k
def zlk_10 : Nat → Option (Nat × Nat × Nat × Nat) := fun k => cond (Nat.blt k 1060) (zlkT_10 k) none
def zlkL_11 : List (List (Option (Nat × Nat × Nat × Nat))) := [[none, some (9, 0, 0, 287), none, none, none, none, none, none, none, some (0, 11, 0, 966), none, none, none, some (3, 1, 0, 290), none, some (0, 11, 2, 968), none, none, none, some (0, 11, 4, 970), none, none, some (0, 11, 5, 971), none, none, none, some (3, 0, 0, 292), none, some (2, 0, 0, 294), some (0, 11, 6, 972)], [none, some (1, 16, 0, 453), some (0, 11, 1, 967), none, none, none, some (0, 11, 3, 969), none, none, some (1, 17, 2, 1000), none, none, none, some (1, 255, 0, 1012), none, none, none, some (1, 284, 1, 1013), none, none, none, some (1, 286, 1, 1017), none, none, none, some (0, 1, 3, 908), none, none, none, some (0, 9, 11, 645)], [none, none, none, some (1, 229, 2, 1020), none, none, none, some (1, 26, 1, 1032), none, none, none, some (0, 1, 6, 912), none, none, none, some (1, 149, 1, 1874), none, none, none, none, some (1, 20, 1, 1882), none, none, some (0, 1, 11, 920), none, none, some (0, 1, 12, 922), none, none, some (0, 1, 13, 924)], [some (1, 285, 2, 1894), none, none, none, some (1, 179, 1, 1898), none, none, none, none, some (1, 180, 2, 1906), none, none, none, some (0, 8, 14, 369), none, none, some (0, 8, 15, 371), none, none, some (0, 1, 0, 900), none, none, none, some (0, 7, 1, 310), none, none, none, none, some (1, 166, 2, 1918)], [some (1, 167, 1, 1919), none, none, some (1, 168, 1, 1920), none, none, some (1, 21, 2, 1925), none, none, none, some (0, 1, 1, 903), none, none, none, some (1, 251, 2, 1930), none, none, none, none, some (1, 252, 2, 1938), none, none, some (0, 1, 2, 906), none, none, none, some (1, 82, 1, 1946), none, none, none, some (0, 2, 0, 600)], [none, some (0, 2, 1, 605), none, none, none, some (1, 246, 1, 1951), none, none, some (0, 10, 8, 548), none, none, some (0, 10, 9, 551), none, none, some (0, 10, 10, 554), none, none, some (0, 10, 11, 557), none, none, some (0, 1, 7, 914), none, none, none, some (1, 102, 1, 1960), none, none, none, none, some (1, 23, 0, 1966)], [none, some (1, 103, 1, 1970), none, none, some (1, 2, 2, 2017), none, none, none, some (1, 1, 1, 2076), some (0, 0, 0, 415), none, some (1, 11, 1, 2084), none, none, some (1, 12, 1, 2093), some (1, 15, 1, 2117), none, some (0, 0, 3, 420), none, none, none, some (0, 0, 4, 422), some (0, 0, 2, 418), some (0, 9, 2, 631), none, none, some (10, 0, 0, 2071)], [some (1, 18, 1, 2138), none, none, none, some (1, 19, 1, 2193), none, none, none, some (0, 1, 8, 916), none, none, none, some (1, 499, 2, 2070)]]
def zlkT_11 : Nat → Option (Nat × Nat × Nat × Nat) := fun k => zlook 32 zlkL_11 k
def zlk_11 : Nat → Option (Nat × Nat × Nat × Nat) := fun k => cond (Nat.blt k 1060) (zlkT_11 k) none
def zlkL_12 : List (List (Option (Nat × Nat × Nat × Nat))) := [[none, some (0, 12, 5, 2249), none, none, none, none, none, some (1, 293, 0, 2442), none, none, none, some (1, 294, 0, 2486), none, none, none, some (6, 4096, 0, 2571), none, some (1, 295, 1, 2482), none, none, none, some (1, 297, 2, 2567), none, none, none, some (0, 12, 6, 2250), none, none, some (0, 12, 0, 2244)], [some (0, 12, 3, 2247), none, none, some (1, 299, 1, 2576), none, none, none, some (1, 301, 0, 2384), none, none, none, some (1, 296, 1, 2438), none, none, some (1, 300, 2, 2388), none, none, none, some (0, 12, 4, 2248), none, none, some (1, 304, 0, 2430), none, none, some (1, 307, 1, 2434), none, none, none, some (1, 306, 0, 2474), none, none, some (1, 311, 0, 2506)], [none, none, some (1, 312, 1, 2510), none, none, none, some (5, 34356, 0, 2609), some (5, 2147483647, 0, 2610), some (5, 33332, 0, 2412), some (6, 4, 0, 2413), none, some (1, 302, 1, 2572), none, none, some (1, 316, 0, 2645), none, none, some (1, 318, 1, 2649), none, none, some (1, 320, 0, 2653), none, none, some (0, 12, 10, 2254), none, none, some (1, 303, 2, 2380), none, none, some (1, 319, 2, 2657)], [none, some (1, 321, 1, 2661), none, none, none, some (0, 12, 9, 2253), none, none, some (1, 327, 1, 2786), none, none, some (1, 324, 1, 2376), none, none, some (1, 328, 2, 2782), none, none, none, some (1, 322, 0, 2641), none, none, some (1, 325, 1, 2705), none, none, some (5, 37612, 0, 2717), some (1, 333, 1, 2697), none, none, some (1, 332, 2, 2701)], [some (1, 330, 2, 2372), none, none, none, some (1, 334, 0, 2709), none, none, some (1, 336, 0, 2713), none, none, some (5, 37420, 0, 2864), some (1, 340, 2, 2869), none, none, some (6, 18446744073709551615, 0, 2550), none, some (1, 308, 1, 2470), none, none, some (1, 345, 1, 2478), none, none, none, some (1, 305, 2, 2426), none, none, some (1, 313, 1, 2502), none, none, some (1, 346, 1, 2494)], [some (1, 348, 1, 2498), none, none, some (1, 347, 0, 2514), none, none, some (1, 350, 2, 2530), none, none, none, some (1, 351, 2, 2526), none, none, some (1, 310, 0, 2546), none, none, some (1, 352, 1, 2522), none, none, some (6, 2, 0, 2533), none, some (1, 353, 0, 2534), none, none, none, some (1, 309, 1, 2538), none, none, some (1, 354, 1, 2542)], [some (1, 343, 1, 2555), none, none, some (6, 256, 0, 2584), none, some (1, 298, 2, 2563), none, none, none, some (1, 357, 1, 2580), none, none, some (1, 358, 1, 2585), none, none, none, some (1, 360, 2, 2589), none, none, some (6, 10, 0, 2614), none, some (6, 48, 0, 2615), none, some (6, 65, 0, 2616), none, some (1, 342, 0, 2601), none, none, some (1, 362, 1, 2611), none, none, some (1, 361, 1, 2629)], [none, none, some (1, 315, 1, 2605), none, none, some (1, 364, 1, 2597), none, none, some (1, 366, 1, 2617), none, none, some (1, 365, 2, 2621), none, none, none, some (1, 363, 1, 2625), none, none, some (0, 12, 8, 2252), none, none, some (1, 344, 1, 2466), none, none, some (1, 349, 1, 2490), none, none, some (1, 355, 1, 2518), none, none, some (1, 356, 1, 2551)], [none, some (1, 359, 1, 2559), none, none, some (1, 367, 1, 2593), none, none, some (1, 323, 1, 2810), none, none, some (1, 369, 0, 2814), none, none, some (1, 370, 1, 2770), none, none, some (6, 128, 0, 2818), none, some (6, 512, 0, 2823), none, some (1, 329, 0, 2778), none, none, some (1, 501, 0, 2833), none, none, none, none, some (1, 502, 1, 2371)], [some (7, 10, 0, 2828), none, some (1, 375, 1, 2829), none, none, none, some (7, 11, 0, 2834), none, some (7, 12, 0, 2835), none, some (1, 331, 0, 2637), none, none, some (1, 377, 0, 2668), none, none, some (5, 39112, 0, 2672), some (1, 378, 0, 2664), none, none, some (1, 374, 0, 2798), none, none, some (1, 382, 2, 2802), none, none, some (1, 326, 1, 2446), none, none, none, some (1, 373, 0, 2774)], [none, some (1, 338, 0, 2722), none, none, some (1, 441, 1, 2726), none, none, some (1, 335, 2, 2766), none, none, some (1, 337, 2, 2693), none, none, none, some (1, 384, 1, 2718), none, none, some (1, 383, 0, 2790), none, none, some (1, 381, 1, 2794), none, none, some (1, 371, 1, 2806), none, none, some (1, 372, 0, 2819), none, none, some (1, 376, 0, 2824)], [some (1, 339, 3, 2860), none, none, none, some (1, 386, 0, 2873), none, none, some (1, 391, 3, 2893), none, none, some (1, 387, 1, 2856), none, none, some (1, 388, 0, 2865), none, none, some (1, 390, 1, 2877), none, none, some (1, 341, 1, 2881), none, none, some (1, 389, 0, 2885), none, none, some (1, 392, 1, 2889), none, none, some (1, 393, 0, 2897), none, none, some (1, 395, 0, 2901)], [none, none, some (1, 400, 1, 2454), none, none, some (1, 397, 1, 2947), none, none, some (1, 379, 2, 2951), none, none, none, some (1, 314, 1, 2685), none, none, some (1, 398, 1, 2458), none, none, some (1, 368, 1, 2462), none, none, some (1, 380, 1, 2633), none, none, some (1, 401, 1, 2673), none, none, some (1, 385, 1, 2689), none, none, some (1, 406, 1, 2836)], [none, some (1, 394, 1, 2852), none, none, some (1, 413, 1, 2905), none, none, some (1, 418, 1, 2909), none, none, some (1, 421, 1, 2941), none, none, some (1, 402, 3, 2677), none, none, some (1, 396, 2, 2450), none, none, some (1, 317, 0, 2681), none, none, some (1, 405, 0, 2840), none, none, some (1, 403, 0, 2844), none, none, some (1, 404, 1, 2848), none, none, some (1, 410, 3, 2978)], [none, none, some (1, 407, 2, 2982), none, none, some (1, 408, 3, 2986), none, none, none, some (1, 412, 3, 2990), none, none, some (1, 411, 2, 2994), none, none, some (1, 414, 1, 2408), none, none, some (1, 416, 1, 2913), none, none, some (1, 415, 0, 2917), none, none, some (1, 422, 0, 2925), none, none, some (1, 417, 1, 2921), none, none, some (1, 419, 0, 2937)], [none, some (1, 420, 0, 2422), none, none, some (6, 7, 0, 2945), none, some (5, 37356, 0, 2946), some (1, 423, 1, 2929), none, none, some (1, 424, 1, 2933), none, none, some (0, 12, 11, 2255), none, none, none, some (0, 12, 14, 2258), none, none, some (0, 12, 13, 2257), none, none, none, some (0, 12, 12, 2256), none, none, some (1, 425, 1, 2971), none, none, some (1, 428, 0, 2959)], [none, some (1, 399, 1, 2963), none, none, some (1, 426, 0, 2967), none, none, some (1, 427, 0, 2955), none, none, some (1, 409, 1, 2974), none, none, some (5, 39700, 0, 2369), some (1, 430, 1, 2404), none, none, some (1, 429, 0, 2418), none, none, some (0, 12, 19, 2263), none, none, some (0, 12, 20, 2264), none, none, some (0, 12, 17, 2261), none, none, some (0, 12, 18, 2262)], [some (1, 432, 2, 2750), none, none, some (0, 12, 16, 2260), none, none, some (0, 12, 15, 2259), none, none, some (0, 12, 21, 2265), none, none, some (0, 12, 23, 2267), none, none, some (0, 12, 24, 2268), none, none, some (1, 437, 5, 2734), none, none, none, some (0, 12, 22, 2266), none, none, some (1, 439, 9, 2738), none, none, none, some (1, 433, 5, 2758)], [none, some (1, 435, 3, 2754), none, none, none, some (1, 438, 5, 2762), none, none, some (1, 436, 4, 2746), none, none, none, some (1, 440, 5, 2742), none, none, some (1, 434, 4, 2730), none, none, none, some (0, 12, 25, 2269), none, none, none, some (1, 456, 3, 2354), none, none, none, some (1, 447, 3, 3074), none, none, some (1, 443, 2, 3078)], [none, some (1, 445, 1, 3082), none, none, some (1, 444, 4, 3085), none, none, none, some (1, 446, 1, 3089), none, none, some (0, 12, 34, 2278), none, none, some (0, 12, 32, 2276), none, none, some (0, 12, 33, 2277), none, none, some (0, 12, 27, 2271), none, none, some (1, 450, 1, 3104), none, none, some (0, 12, 7, 2251), none, none, some (1, 449, 1, 3096)], [some (0, 12, 26, 2270), none, none, some (5, 16777216, 0, 3112), some (5, 285212672, 0, 3113), some (0, 12, 28, 2272), none, none, some (5, 16777215, 0, 3135), some (0, 12, 30, 2274), none, none, some (1, 454, 0, 3136), none, none, some (5, 238201, 0, 3140), some (5, 238204, 0, 3141), some (5, 238200, 0, 3142), some (0, 12, 29, 2273), none, none, some (0, 12, 31, 2275), none, none, some (9, 0, 0, 2242), none, none, none, none, some (5, 238220, 0, 2243), some (0, 12, 1, 2245)], [none, none, some (0, 12, 2, 2246), none, none, some (1, 461, 0, 2365), none, none, some (7, 9, 0, 2370), none, some (1, 460, 0, 2396), none, none, some (1, 457, 1, 2400), none, none, some (1, 431, 2, 2414), none, none, some (1, 473, 2, 3038), none, none, some (1, 477, 2, 3054), none, none, some (1, 442, 1, 3066), none, none, some (1, 448, 2, 3070), none, none, some (1, 451, 1, 3100)], [none, none, some (1, 452, 1, 3108), none, none, some (5, 198500, 0, 3114), some (1, 483, 0, 3123), none, none, some (1, 453, 0, 3131), none, none, some (5, 229192, 0, 3147), some (5, 198600, 0, 3156), some (1, 490, 2, 3165), none, none, some (1, 493, 4, 3177), none, none, none, some (1, 495, 2, 3180)]]
def zlkT_12 : Nat → Option (Nat × Nat × Nat × Nat) := fun k => zlook 32 zlkL_12 k
def zlk_12 : Nat → Option (Nat × Nat × Nat × Nat) := fun k => cond (Nat.blt k 1060) (zlkT_12 k) none
def zlkL_13 : List (List (Option (Nat × Nat × Nat × Nat))) := [[none, none, none, none, none, none, none, some (3, 11, 0, 282), none, some (1, 253, 0, 284), some (3, 12, 0, 2237), none, some (1, 455, 0, 2239), some (6, 4294967295, 0, 3184), none, some (1, 254, 2, 988), none, none, none, some (1, 458, 2, 2350), some (1, 255, 0, 992), none, none, none, some (1, 459, 0, 2357), some (1, 256, 2, 996), none, none, none, some (1, 462, 2, 2361), some (1, 257, 2, 1008)], [none, some (1, 463, 2, 2392), some (1, 258, 2, 1866), none, none, some (1, 464, 2, 2998), some (1, 259, 2, 1870), none, none, some (1, 465, 2, 3002), some (1, 260, 2, 1878), none, none, some (1, 466, 2, 3006), some (1, 261, 2, 1886), none, none, some (1, 467, 2, 3010), some (1, 262, 3, 1890), none, none, none, some (1, 468, 3, 3014), some (1, 263, 4, 1902), none, none, none, some (1, 469, 4, 3018), some (1, 264, 2, 1910), none, none, some (1, 470, 2, 3022)], [some (1, 265, 3, 1914), none, none, some (1, 471, 3, 3026), some (1, 266, 1, 1921), none, none, none, some (1, 472, 1, 3030), some (1, 267, 3, 1926), none, none, some (1, 474, 3, 3034), some (1, 268, 3, 1934), none, none, some (1, 475, 3, 3042), some (1, 269, 3, 1942), none, none, some (1, 476, 3, 3046), some (1, 270, 2, 1947), none, none, some (1, 478, 2, 3050), some (1, 271, 3, 1952), none, none, some (1, 479, 3, 3058), some (1, 272, 2, 1956)], [some (1, 480, 2, 3062), some (1, 273, 2, 2013), none, none, some (1, 481, 2, 3092), some (1, 274, 1, 2072), none, none, some (1, 482, 1, 3115), some (1, 275, 1, 2080), none, none, some (1, 484, 1, 3119), some (1, 276, 1, 2089), none, none, some (1, 485, 1, 3127), some (1, 277, 1, 2113), none, none, some (1, 486, 1, 3143), some (1, 278, 1, 2122), none, none, some (1, 487, 1, 3148), some (1, 279, 1, 2126), none, none, some (1, 488, 1, 3152), some (1, 280, 3, 2130)], [some (1, 489, 3, 3157), some (1, 281, 2, 2134), none, none, some (1, 491, 2, 3161), some (1, 282, 2, 2185), none, none, some (1, 492, 2, 3169), some (1, 283, 2, 2189), none, none, none, some (1, 494, 2, 3173)]]
def zlkT_13 : Nat → Option (Nat × Nat × Nat × Nat) := fun k => zlook 32 zlkL_13 k
def zlk_13 : Nat → Option (Nat × Nat × Nat × Nat) := fun k => cond (Nat.blt k 1060) (zlkT_13 k) none
def zlkL_14 : List (List (Option (Nat × Nat × Nat × Nat))) := []
def zlkT_14 : Nat → Option (Nat × Nat × Nat × Nat) := fun k => zlook 32 zlkL_14 k
def zlk_14 : Nat → Option (Nat × Nat × Nat × Nat) := fun k => cond (Nat.blt k 1060) (zlkT_14 k) none
def zlkL_15 : List (List (Option (Nat × Nat × Nat × Nat))) := [[none, none, none, none, none, none, none, none, none, none, none, none, none, some (1, 511, 3, 1455)]]
def zlkT_15 : Nat → Option (Nat × Nat × Nat × Nat) := fun k => zlook 32 zlkL_15 k
def zlk_15 : Nat → Option (Nat × Nat × Nat × Nat) := fun k => cond (Nat.blt k 1060) (zlkT_15 k) none
def zlkL_16 : List (List (Option (Nat × Nat × Nat × Nat))) := [[none, none, none, none, none, none, none, none, none, some (11, 0, 0, 3185), none, none, none, none, none, some (11, 1, 0, 3186)], [none, none, none, none, none, none, some (12, 0, 0, 478)], [], [], [], [], [], [], [], [], [none, none, none, none, none, none, none, none, none, none, none, none, none, none, none, some (1, 503, 0, 474)], [], [], [], [], [none, none, none, none, none, none, none, none, none, none, none, none, some (1, 504, 0, 484), none, none, some (1, 506, 2, 488), none, none, some (1, 509, 2, 499)], [], [], [], [], [], [], [], [], [], [], [], [], [], [], [], [], [none, none, none, none, none, none, none, none, none, none, none, none, none, none, none, none, none, none, none, none, none, none, none, none, none, none, none, none, none, some (13, 0, 0, 494)], [none, none, none, some (1, 515, 3, 496)]]
def zlkT_16 : Nat → Option (Nat × Nat × Nat × Nat) := fun k => zlook 32 zlkL_16 k
def zlk_16 : Nat → Option (Nat × Nat × Nat × Nat) := fun k => cond (Nat.blt k 1060) (zlkT_16 k) none
def zlkL_17 : List (List (Option (Nat × Nat × Nat × Nat))) := [[none, none, none, none, none, none, none, none, none, some (1, 505, 2, 491)]]
def zlkT_17 : Nat → Option (Nat × Nat × Nat × Nat) := fun k => zlook 32 zlkL_17 k
def zlk_17 : Nat → Option (Nat × Nat × Nat × Nat) := fun k => cond (Nat.blt k 1060) (zlkT_17 k) none
def zlkL_18 : List (List (Option (Nat × Nat × Nat × Nat))) := [[], [none, none, none, none, none, none, none, none, none, none, none, none, none, none, none, none, some (1, 508, 1, 505)], [none, none, none, some (1, 510, 2, 502), none, none, none, some (1, 507, 2, 509)], [], [], [], [], [], [], [], [], [], [none, none, none, none, none, none, none, none, none, none, none, none, none, none, none, none, none, none, none, none, none, none, none, none, none, none, none, none, none, none, some (1, 505, 2, 508)]]
def zlkT_18 : Nat → Option (Nat × Nat × Nat × Nat) := fun k => zlook 32 zlkL_18 k
def zlk_18 : Nat → Option (Nat × Nat × Nat × Nat) := fun k => cond (Nat.blt k 1060) (zlkT_18 k) none
def zlkL_19 : List (List (Option (Nat × Nat × Nat × Nat))) := []
def zlkT_19 : Nat → Option (Nat × Nat × Nat × Nat) := fun k => zlook 32 zlkL_19 k
def zlk_19 : Nat → Option (Nat × Nat × Nat × Nat) := fun k => cond (Nat.blt k 1060) (zlkT_19 k) none
def zlkL_20 : List (List (Option (Nat × Nat × Nat × Nat))) := []
def zlkT_20 : Nat → Option (Nat × Nat × Nat × Nat) := fun k => zlook 32 zlkL_20 k
def zlk_20 : Nat → Option (Nat × Nat × Nat × Nat) := fun k => cond (Nat.blt k 1060) (zlkT_20 k) none
def zlkA : List (Nat → Option (Nat × Nat × Nat × Nat)) := [zlk_0, zlk_1, zlk_2, zlk_3, zlk_4, zlk_5, zlk_6, zlk_7, zlk_8, zlk_9, zlk_10, zlk_11, zlk_12, zlk_13, zlk_14, zlk_15, zlk_16, zlk_17, zlk_18, zlk_19, zlk_20]
def zlk : Nat → Nat → Option (Nat × Nat × Nat × Nat) := fun o => zlkA.getD o (fun _ => none)
/-- the word that stands behind a link -/
def zlkw (own : String) (k : Nat) (r : Nat × Nat × Nat × Nat) : Option Cond := match r with
  | (0, ci, j, _) => match zcls[ci]? with
    | some q => if j < q.2.2 then some (.fieldLink own k (q.2.1 j).1 (q.2.1 j).2.1 (q.2.1 j).2.2.1) else none
    | none => none
  | (1, a, _, _) => some (.methodLink own k (zmn a))
  | (2, a, _, _) => some (.methodLinkNest own k (zmn a) "ForthHouse")
  | (3, ci, _, _) => match zcls[ci]? with
    | some q => some (.classLink own k q.1)
    | none => none
  | (5, a, _, _) => some (.constant own k (Int32.ofNat a))
  | (6, a, _, _) => some (.constantLong own k (Int64.ofNat a))
  | (8, a, _, _) => some (.fieldLinkNest own k "ForthHouse" (if a = 13 then "TAKES" else if a = 14 then "LEAVES" else "TRAITS") "[B" "ForthHouse")
  | (9, _, _, _) => some (.methodLink own k objectInit)
  | (10, _, _, _) => some (.methodLink own k arraycopyName)
  | (11, 0, _, _) => some (.fieldLink own k "java/lang/String" "value" "[B")
  | (11, 1, _, _) => some (.fieldLink own k "java/lang/String" "coder" "B")
  | (12, _, _, _) => some (.fieldLink own k "java/lang/String" "COMPACT_STRINGS" "Z")
  | (13, _, _, _) => some (.fieldLink own k "jdk/internal/util/Preconditions" "SIOOBE_FORMATTER" "Ljava/util/function/BiFunction;")
  | _ => none
def zsel : List Cond → Nat → List Nat → List Cond
  | [], _, _ => []
  | _ :: _, _, [] => []
  | a :: l, i, p :: ps => cond (Nat.beq i p) (a :: zsel l (i + 1) ps) (zsel l (i + 1) (p :: ps))
theorem zsel_mem {w : Cond} : ∀ (l : List Cond) (i : Nat) (ps : List Nat), w ∈ zsel l i ps → w ∈ l := by
  intro l
  induction l with
  | nil => intro i ps h; cases ps <;> simp [zsel] at h
  | cons a l ih =>
    intro i ps h
    cases ps with
    | nil => simp [zsel] at h
    | cons p ps =>
      unfold zsel at h
      cases hq : Nat.beq i p with
      | true =>
        rw [hq] at h
        rcases List.mem_cons.mp h with h | h
        · exact h ▸ List.mem_cons_self
        · exact List.mem_cons_of_mem _ (ih _ _ h)
      | false =>
        rw [hq] at h
        exact List.mem_cons_of_mem _ (ih _ _ h)
/-- the links to members of the nest's host -/
def zN : List Cond := lw_tbl.filter fun w => match w with
  | .methodLinkNest _ _ _ _ => true
  | .fieldLinkNest _ _ _ _ _ _ => true
  | _ => false
def znest (w : Cond) : Bool := match w with
  | .methodLinkNest _ _ _ _ => true
  | .fieldLinkNest _ _ _ _ _ _ => true
  | _ => false
abbrev zKE : Type := Nat × (Nat × Nat × Nat × Nat)
def zlkE (own : String) (es : List zKE) : List (Option Cond) := es.map fun q => zlkw own q.1 q.2
theorem zlk_gen {f : Nat → Option (Nat × Nat × Nat × Nat)} {own : String} (es : List zKE) (ps : List Nat) (h1 : zlkE own es = (zsel lw_tbl 0 ps).map some) (h2 : ((List.range 1060).all fun k => match f k with | some r => r.1 == 7 || es.contains (k, r) | none => true) = true) (h3 : (es.all fun q => match zlkw own q.1 q.2 with | some w => goodWord w || znest w | none => false) = true) (hf : ∀ k, ¬ k < 1060 → f k = none) :
    ∀ k r, f k = some r → r.1 ≠ 7 → ∃ w, zlkw own k r = some w ∧ (w ∈ zW ∨ (w ∈ zN ∧ znest w = true)) := by
  intro k r hr h7
  have hm : (k, r) ∈ es := by
    by_cases hk : k < 1060
    · have := List.all_eq_true.mp h2 k (List.mem_range.mpr hk)
      rw [hr] at this
      simp only [Bool.or_eq_true, beq_iff_eq] at this
      rcases this with q | q
      · exact absurd q h7
      · simpa using q
    · rw [hf k hk] at hr; cases hr
  have h4 := List.all_eq_true.mp h3 (k, r) hm
  cases hw : zlkw own k r with
  | none =>
    rw [hw] at h4
    cases h4
  | some w =>
    rw [hw] at h4
    refine ⟨w, rfl, ?_⟩
    have h5 : some w ∈ (zsel lw_tbl 0 ps).map some := by
      rw [← h1, ← hw]
      exact List.mem_map.mpr ⟨(k, r), hm, rfl⟩
    obtain ⟨w', h6, h8⟩ := List.mem_map.mp h5
    cases h8
    have h9 := zsel_mem _ _ _ h6
    simp only [Bool.or_eq_true] at h4
    rcases h4 with q | q
    · exact Or.inl (List.mem_filter.mpr ⟨h9, q⟩)
    · refine Or.inr ⟨List.mem_filter.mpr ⟨h9, ?_⟩, q⟩
      cases w <;> simp [znest] at q <;> rfl
theorem zlk_no {g : Nat → Option (Nat × Nat × Nat × Nat)} (k : Nat) (h : ¬ k < 1060) : cond (Nat.blt k 1060) (g k) none = none := by
  have : Nat.blt k 1060 = false := by
    cases hq : Nat.blt k 1060 with
    | false => rfl
    | true => exact absurd (Nat.le_of_ble_eq_true hq) h
  rw [this]
  rfl
def zes_0 : List zKE := [(3, 9, 0, 0, 297), (15, 3, 7, 0, 298), (17, 2, 158, 0, 300), (22, 3, 8, 0, 333), (24, 1, 175, 1, 335), (146, 0, 8, 7, 351), (187, 0, 8, 8, 354), (190, 0, 8, 9, 356), (193, 0, 8, 10, 358), (177, 0, 8, 11, 360), (73, 0, 8, 13, 365), (9, 0, 0, 0, 414), (40, 0, 0, 1, 416), (18, 0, 0, 2, 417), (27, 0, 0, 3, 419), (47, 0, 0, 4, 421), (50, 0, 0, 5, 423), (53, 0, 0, 6, 424), (31, 0, 0, 7, 425), (34, 0, 0, 8, 426), (37, 0, 0, 9, 427), (60, 0, 0, 10, 428), (125, 0, 10, 0, 529), (99, 0, 10, 3, 536), (102, 0, 10, 4, 540), (129, 0, 10, 5, 542), (117, 0, 2, 0, 598), (121, 0, 2, 1, 603), (67, 0, 1, 0, 899), (86, 0, 1, 1, 902), (105, 0, 1, 2, 905), (44, 1, 178, 0, 2021), (56, 1, 4, 2, 2022), (76, 1, 512, 2, 2026), (82, 1, 3, 1, 2029), (89, 1, 246, 1, 2033), (95, 1, 244, 2, 2034), (109, 1, 82, 1, 2035), (114, 1, 5, 2, 2036), (124, 1, 242, 1, 2040), (126, 1, 6, 1, 2041), (63, 1, 7, 2, 2044), (132, 1, 9, 1, 2048), (141, 5, 16777216, 0, 2052), (142, 1, 10, 1, 2053), (135, 1, 8, 2, 2057), (145, 5, 285212672, 0, 2061), (138, 1, 86, 1, 2062), (70, 1, 159, 1, 2063), (149, 1, 185, 1, 2088), (153, 1, 13, 1, 2097), (157, 1, 1, 1, 2101), (158, 1, 219, 2, 2102), (162, 1, 194, 1, 2103), (165, 8, 13, 0, 2104), (168, 8, 14, 0, 2105), (171, 1, 181, 2, 2106), (174, 1, 199, 1, 2107), (180, 1, 196, 0, 2108), (184, 1, 14, 0, 2109), (196, 1, 179, 1, 2121)]
set_option maxRecDepth 100000 in
theorem zlk_0_ok : ∀ k r, zlk_0 k = some r → r.1 ≠ 7 → ∃ w, zlkw (zown 0) k r = some w ∧ (w ∈ zW ∨ (w ∈ zN ∧ znest w = true)) := zlk_gen zes_0 [297, 298, 300, 333, 335, 351, 354, 356, 358, 360, 365, 414, 416, 417, 419, 421, 423, 424, 425, 426, 427, 428, 529, 536, 540, 542, 598, 603, 899, 902, 905, 2021, 2022, 2026, 2029, 2033, 2034, 2035, 2036, 2040, 2041, 2044, 2048, 2052, 2053, 2057, 2061, 2062, 2063, 2088, 2097, 2101, 2102, 2103, 2104, 2105, 2106, 2107, 2108, 2109, 2121] (by decide +kernel) (by decide +kernel) (by decide +kernel) (fun k h => zlk_no (g := zlkT_0) k h)
def zes_1 : List zKE := [(348, 0, 7, 0, 306), (90, 0, 7, 1, 308), (93, 0, 7, 2, 312), (160, 0, 7, 3, 315), (511, 0, 7, 4, 318), (414, 0, 8, 5, 346), (286, 0, 8, 6, 348), (562, 0, 8, 7, 352), (484, 0, 8, 11, 361), (292, 0, 8, 12, 363), (298, 0, 8, 13, 366), (87, 0, 8, 14, 367), (444, 0, 8, 15, 372), (237, 0, 8, 16, 374), (244, 0, 8, 17, 376), (3, 9, 0, 0, 456), (9, 3, 7, 0, 457), (11, 2, 158, 0, 458), (18, 3, 10, 0, 459), (20, 1, 238, 0, 461), (450, 0, 10, 0, 531), (430, 0, 10, 3, 537), (329, 0, 10, 5, 543), (163, 0, 10, 12, 559), (188, 0, 10, 13, 561), (25, 3, 2, 0, 591), (27, 2, 79, 0, 593), (305, 0, 2, 0, 601), (302, 0, 2, 1, 606), (166, 0, 2, 2, 610), (32, 3, 9, 0, 619), (34, 1, 225, 1, 621), (385, 0, 9, 6, 636), (362, 0, 9, 7, 638), (365, 0, 9, 8, 640), (194, 0, 9, 10, 643), (185, 0, 9, 11, 646), (41, 3, 5, 0, 681), (43, 1, 120, 1, 683), (168, 0, 5, 1, 689), (602, 0, 5, 2, 691), (438, 0, 5, 3, 693), (209, 0, 5, 4, 695), (427, 0, 5, 5, 697), (624, 0, 5, 7, 700), (191, 0, 5, 12, 706), (50, 3, 4, 0, 740), (52, 1, 111, 0, 742), (197, 0, 4, 0, 747), (173, 0, 4, 1, 749), (172, 0, 4, 2, 751), (176, 0, 4, 3, 753), (487, 0, 4, 4, 755), (493, 0, 4, 5, 757), (496, 0, 4, 7, 760), (490, 0, 4, 8, 762), (57, 3, 6, 0, 791), (59, 2, 147, 0, 793), (167, 0, 6, 1, 799), (695, 0, 6, 3, 802), (179, 0, 6, 6, 806), (182, 0, 6, 7, 808), (64, 3, 3, 0, 826), (66, 1, 89, 3, 828), (73, 3, 8, 0, 895), (86, 1, 175, 1, 897), (12, 0, 1, 0, 898), (21, 0, 1, 1, 901), (28, 0, 1, 2, 904), (37, 0, 1, 3, 907), (46, 0, 1, 4, 909), (53, 0, 1, 5, 910), (60, 0, 1, 6, 911), (69, 0, 1, 7, 913), (75, 0, 1, 8, 915), (123, 0, 1, 9, 917), (126, 0, 1, 10, 918), (129, 0, 1, 11, 919), (132, 0, 1, 12, 921), (135, 0, 1, 13, 923), (79, 0, 1, 14, 925), (268, 0, 1, 15, 926), (83, 0, 1, 16, 927), (215, 0, 1, 17, 928), (96, 1, 169, 2, 1004), (218, 1, 27, 0, 1036), (233, 1, 25, 0, 1040), (240, 1, 29, 1, 1044), (271, 1, 242, 1, 1048), (275, 1, 28, 2, 1052), (247, 1, 30, 1, 1056), (279, 1, 31, 1, 1060), (282, 1, 181, 2, 1064), (289, 1, 182, 1, 1068), (250, 1, 192, 0, 1072), (253, 1, 33, 1, 1080), (301, 1, 82, 1, 1084), (309, 1, 34, 2, 1088), (325, 1, 245, 2, 1092), (331, 1, 196, 0, 1097), (313, 1, 66, 1, 1106), (334, 1, 183, 0, 1110), (316, 1, 84, 2, 1114), (319, 1, 35, 1, 1118), (337, 1, 165, 1, 1122), (341, 1, 36, 2, 1126), (345, 1, 166, 2, 1130), (351, 1, 153, 3, 1135), (322, 1, 219, 2, 1151), (256, 1, 32, 1, 1190), (295, 1, 195, 0, 1194), (259, 1, 24, 0, 1195), (262, 1, 37, 0, 1199), (355, 1, 233, 1, 1203), (359, 1, 38, 0, 1218), (388, 1, 231, 2, 1222), (201, 1, 162, 0, 1226), (368, 1, 130, 3, 1230), (372, 1, 21, 2, 1241), (205, 1, 250, 4, 1245), (376, 1, 39, 0, 1250), (391, 1, 41, 2, 1254), (401, 1, 164, 1, 1258), (405, 1, 163, 0, 1259), (408, 1, 83, 1, 1260), (395, 1, 173, 0, 1264), (398, 1, 40, 1, 1269), (379, 1, 244, 2, 1272), (382, 8, 15, 0, 1276), (265, 1, 44, 1, 1277), (424, 1, 178, 0, 1281), (447, 1, 45, 0, 1285), (222, 1, 46, 0, 1289), (451, 1, 194, 1, 1293), (454, 1, 48, 2, 1301), (460, 1, 47, 2, 1305), (457, 1, 49, 2, 1309), (212, 1, 22, 0, 1313), (499, 1, 119, 1, 1317), (463, 8, 13, 0, 1322), (466, 8, 14, 0, 1324), (469, 1, 199, 1, 1326), (472, 1, 50, 2, 1476), (501, 1, 51, 2, 1480), (524, 1, 154, 2, 1484), (505, 1, 151, 1, 1496), (508, 1, 152, 1, 1497), (514, 1, 52, 2, 1502), (527, 1, 189, 0, 1506), (530, 2, 292, 2, 1507), (534, 1, 155, 1, 1508), (521, 1, 174, 1, 1509), (538, 1, 187, 1, 1513), (517, 1, 188, 0, 1514), (475, 1, 53, 2, 1515), (541, 1, 54, 1, 1519), (544, 1, 55, 1, 1523), (599, 1, 243, 0, 1527), (605, 1, 248, 5, 1531), (609, 1, 123, 2, 1536), (547, 1, 56, 1, 1540), (612, 1, 127, 0, 1544), (615, 1, 57, 0, 1552), (565, 1, 125, 0, 1556), (618, 1, 249, 2, 1560), (550, 1, 61, 2, 1564), (553, 1, 62, 1, 1568), (633, 1, 170, 1, 1572), (634, 1, 118, 3, 1573), (556, 1, 63, 0, 1577), (621, 1, 247, 2, 1581), (559, 1, 64, 2, 1585), (568, 1, 65, 1, 1589), (571, 1, 60, 0, 1593), (630, 1, 129, 1, 1597), (574, 1, 67, 2, 1601), (577, 1, 235, 2, 1605), (637, 10, 0, 0, 1609), (580, 1, 236, 1, 1610), (584, 1, 68, 0, 1619), (643, 1, 128, 1, 1623), (646, 1, 237, 2, 1624), (649, 1, 69, 2, 1628), (656, 1, 132, 1, 1632), (652, 1, 131, 3, 1637), (587, 1, 58, 0, 1642), (590, 1, 59, 0, 1646), (627, 1, 85, 1, 1650), (593, 1, 71, 1, 1655), (659, 1, 72, 4, 1659), (663, 1, 193, 1, 1663), (665, 1, 230, 3, 1664), (596, 1, 70, 2, 1668), (478, 1, 136, 1, 1672), (481, 1, 73, 2, 1735), (668, 1, 74, 1, 1739), (421, 1, 168, 1, 1743), (671, 1, 115, 1, 1744), (674, 1, 116, 0, 1748), (677, 1, 117, 0, 1752), (680, 1, 114, 0, 1756), (683, 1, 75, 1, 1760), (686, 1, 76, 1, 1764), (704, 1, 186, 1, 1768), (689, 1, 77, 1, 1769), (692, 1, 78, 1, 1773), (698, 1, 156, 1, 1777), (701, 1, 157, 1, 1781), (225, 1, 90, 1, 1785), (229, 1, 42, 1, 1845), (411, 1, 197, 0, 1849), (417, 1, 198, 2, 1853), (418, 1, 43, 1, 1857), (433, 1, 499, 2, 1861), (441, 1, 124, 0, 1862), (100, 1, 159, 1, 2142), (103, 1, 240, 1, 2143), (106, 1, 80, 1, 2151), (108, 1, 226, 1, 2157), (111, 1, 121, 1, 2163), (114, 1, 112, 1, 2169), (117, 1, 148, 1, 2174), (120, 1, 176, 1, 2180), (138, 1, 177, 1, 2197), (142, 1, 160, 1, 2204), (145, 1, 241, 1, 2211), (148, 1, 81, 1, 2217), (151, 1, 227, 1, 2223), (154, 1, 122, 1, 2228), (157, 1, 113, 1, 2232)]
set_option maxRecDepth 100000 in
theorem zlk_1_ok : ∀ k r, zlk_1 k = some r → r.1 ≠ 7 → ∃ w, zlkw (zown 1) k r = some w ∧ (w ∈ zW ∨ (w ∈ zN ∧ znest w = true)) := zlk_gen zes_1 [306, 308, 312, 315, 318, 346, 348, 352, 361, 363, 366, 367, 372, 374, 376, 456, 457, 458, 459, 461, 531, 537, 543, 559, 561, 591, 593, 601, 606, 610, 619, 621, 636, 638, 640, 643, 646, 681, 683, 689, 691, 693, 695, 697, 700, 706, 740, 742, 747, 749, 751, 753, 755, 757, 760, 762, 791, 793, 799, 802, 806, 808, 826, 828, 895, 897, 898, 901, 904, 907, 909, 910, 911, 913, 915, 917, 918, 919, 921, 923, 925, 926, 927, 928, 1004, 1036, 1040, 1044, 1048, 1052, 1056, 1060, 1064, 1068, 1072, 1080, 1084, 1088, 1092, 1097, 1106, 1110, 1114, 1118, 1122, 1126, 1130, 1135, 1151, 1190, 1194, 1195, 1199, 1203, 1218, 1222, 1226, 1230, 1241, 1245, 1250, 1254, 1258, 1259, 1260, 1264, 1269, 1272, 1276, 1277, 1281, 1285, 1289, 1293, 1301, 1305, 1309, 1313, 1317, 1322, 1324, 1326, 1476, 1480, 1484, 1496, 1497, 1502, 1506, 1507, 1508, 1509, 1513, 1514, 1515, 1519, 1523, 1527, 1531, 1536, 1540, 1544, 1552, 1556, 1560, 1564, 1568, 1572, 1573, 1577, 1581, 1585, 1589, 1593, 1597, 1601, 1605, 1609, 1610, 1619, 1623, 1624, 1628, 1632, 1637, 1642, 1646, 1650, 1655, 1659, 1663, 1664, 1668, 1672, 1735, 1739, 1743, 1744, 1748, 1752, 1756, 1760, 1764, 1768, 1769, 1773, 1777, 1781, 1785, 1845, 1849, 1853, 1857, 1861, 1862, 2142, 2143, 2151, 2157, 2163, 2169, 2174, 2180, 2197, 2204, 2211, 2217, 2223, 2228, 2232] (by decide +kernel) (by decide +kernel) (by decide +kernel) (fun k h => zlk_no (g := zlkT_1) k h)
def zes_2 : List zKE := [(3, 9, 0, 0, 596), (9, 0, 2, 0, 597), (15, 0, 2, 1, 602), (27, 0, 2, 2, 608), (39, 1, 82, 1, 1654), (19, 2, 290, 2, 2155), (23, 2, 289, 2, 2156), (31, 2, 288, 3, 2221), (35, 2, 287, 4, 2222)]
set_option maxRecDepth 100000 in
theorem zlk_2_ok : ∀ k r, zlk_2 k = some r → r.1 ≠ 7 → ∃ w, zlkw (zown 2) k r = some w ∧ (w ∈ zW ∨ (w ∈ zN ∧ znest w = true)) := zlk_gen zes_2 [596, 597, 602, 608, 1654, 2155, 2156, 2221, 2222] (by decide +kernel) (by decide +kernel) (by decide +kernel) (fun k h => zlk_no (g := zlkT_2) k h)
def zes_3 : List zKE := [(169, 0, 10, 0, 530), (52, 0, 10, 3, 535), (58, 0, 10, 4, 539), (104, 0, 10, 8, 547), (107, 0, 10, 9, 550), (110, 0, 10, 10, 553), (113, 0, 10, 11, 556), (143, 0, 2, 0, 599), (140, 0, 2, 1, 604), (61, 0, 2, 2, 609), (3, 9, 0, 0, 831), (33, 3, 8, 0, 832), (35, 1, 175, 1, 833), (25, 0, 3, 0, 834), (29, 0, 3, 1, 835), (38, 0, 3, 2, 836), (9, 0, 3, 3, 837), (15, 0, 3, 4, 838), (18, 0, 3, 5, 839), (21, 0, 3, 6, 840), (48, 0, 3, 7, 841), (55, 0, 3, 8, 842), (72, 0, 3, 9, 843), (122, 0, 3, 10, 844), (85, 0, 3, 11, 845), (116, 0, 3, 12, 846), (88, 0, 3, 13, 847), (94, 0, 3, 14, 848), (119, 0, 3, 15, 849), (75, 0, 3, 16, 850), (79, 0, 3, 17, 851), (91, 0, 3, 18, 852), (97, 0, 3, 19, 853), (42, 1, 246, 1, 1789), (66, 1, 499, 2, 1795), (82, 1, 91, 0, 1796), (125, 1, 94, 4, 1800), (129, 1, 92, 0, 1804), (133, 1, 98, 1, 1808), (146, 1, 245, 2, 1812), (150, 1, 101, 2, 1813), (163, 1, 97, 1, 1817), (100, 1, 93, 2, 1821), (170, 8, 15, 0, 1825), (173, 8, 13, 0, 1826), (137, 1, 95, 2, 1827), (176, 8, 14, 0, 1831), (153, 1, 100, 2, 1832), (166, 1, 242, 1, 1836), (156, 1, 96, 3, 1837), (160, 1, 99, 2, 1841), (179, 1, 244, 2, 1964), (182, 1, 88, 2, 1965), (183, 1, 104, 0, 1974), (186, 1, 105, 0, 1978), (205, 1, 86, 1, 1982), (189, 1, 110, 2, 1986), (192, 1, 106, 1, 1990), (208, 1, 87, 2, 1994), (195, 1, 107, 1, 1998), (198, 1, 109, 3, 2001), (211, 1, 178, 0, 2005), (214, 1, 182, 1, 2006), (217, 1, 205, 1, 2007), (221, 1, 210, 1, 2008), (224, 1, 183, 0, 2009), (202, 1, 108, 1, 2010)]
set_option maxRecDepth 100000 in
theorem zlk_3_ok : ∀ k r, zlk_3 k = some r → r.1 ≠ 7 → ∃ w, zlkw (zown 3) k r = some w ∧ (w ∈ zW ∨ (w ∈ zN ∧ znest w = true)) := zlk_gen zes_3 [530, 535, 539, 547, 550, 553, 556, 599, 604, 609, 831, 832, 833, 834, 835, 836, 837, 838, 839, 840, 841, 842, 843, 844, 845, 846, 847, 848, 849, 850, 851, 852, 853, 1789, 1795, 1796, 1800, 1804, 1808, 1812, 1813, 1817, 1821, 1825, 1826, 1827, 1831, 1832, 1836, 1837, 1841, 1964, 1965, 1974, 1978, 1982, 1986, 1990, 1994, 1998, 2001, 2005, 2006, 2007, 2008, 2009, 2010] (by decide +kernel) (by decide +kernel) (by decide +kernel) (fun k h => zlk_no (g := zlkT_3) k h)
def zes_4 : List zKE := [(3, 9, 0, 0, 745), (9, 0, 4, 0, 746), (15, 0, 4, 1, 748), (19, 0, 4, 2, 750), (22, 0, 4, 3, 752), (50, 0, 4, 4, 754), (25, 0, 4, 5, 756), (28, 0, 4, 6, 758), (31, 0, 4, 7, 759), (34, 0, 4, 8, 761), (37, 0, 4, 9, 763), (40, 0, 4, 10, 764), (43, 0, 4, 11, 765), (57, 10, 0, 0, 1321), (46, 2, 289, 2, 2173), (53, 2, 287, 4, 2236)]
set_option maxRecDepth 100000 in
theorem zlk_4_ok : ∀ k r, zlk_4 k = some r → r.1 ≠ 7 → ∃ w, zlkw (zown 4) k r = some w ∧ (w ∈ zW ∨ (w ∈ zN ∧ znest w = true)) := zlk_gen zes_4 [745, 746, 748, 750, 752, 754, 756, 758, 759, 761, 763, 764, 765, 1321, 2173, 2236] (by decide +kernel) (by decide +kernel) (by decide +kernel) (fun k h => zlk_no (g := zlkT_4) k h)
def zes_5 : List zKE := [(151, 0, 2, 1, 607), (95, 0, 2, 2, 611), (3, 9, 0, 0, 686), (40, 0, 5, 0, 687), (44, 0, 5, 1, 688), (48, 0, 5, 2, 690), (51, 0, 5, 3, 692), (55, 0, 5, 4, 694), (9, 0, 5, 5, 696), (15, 0, 5, 6, 698), (18, 0, 5, 7, 699), (21, 0, 5, 8, 701), (24, 0, 5, 9, 702), (27, 0, 5, 10, 703), (31, 0, 5, 11, 704), (66, 0, 5, 12, 705), (34, 0, 5, 13, 707), (37, 0, 5, 14, 708), (73, 1, 128, 1, 1234), (77, 2, 291, 5, 1238), (69, 1, 126, 0, 1548), (87, 1, 129, 1, 1636), (81, 10, 0, 0, 1641), (91, 1, 138, 2, 1676), (132, 1, 83, 1, 1680), (128, 1, 135, 3, 1681), (135, 1, 84, 2, 1685), (100, 1, 137, 2, 1686), (103, 1, 139, 0, 1690), (138, 1, 133, 1, 1694), (141, 1, 134, 1, 1698), (144, 1, 85, 1, 1702), (106, 1, 140, 2, 1703), (109, 1, 141, 1, 1707), (113, 1, 142, 0, 1711), (116, 1, 143, 0, 1715), (119, 1, 144, 1, 1719), (147, 1, 88, 2, 1723), (122, 1, 145, 0, 1727), (125, 1, 146, 0, 1731), (58, 2, 289, 2, 2167), (62, 2, 290, 2, 2168)]
set_option maxRecDepth 100000 in
theorem zlk_5_ok : ∀ k r, zlk_5 k = some r → r.1 ≠ 7 → ∃ w, zlkw (zown 5) k r = some w ∧ (w ∈ zW ∨ (w ∈ zN ∧ znest w = true)) := zlk_gen zes_5 [607, 611, 686, 687, 688, 690, 692, 694, 696, 698, 699, 701, 702, 703, 704, 705, 707, 708, 1234, 1238, 1548, 1636, 1641, 1676, 1680, 1681, 1685, 1686, 1690, 1694, 1698, 1702, 1703, 1707, 1711, 1715, 1719, 1723, 1727, 1731, 2167, 2168] (by decide +kernel) (by decide +kernel) (by decide +kernel) (fun k h => zlk_no (g := zlkT_5) k h)
def zes_6 : List zKE := [(89, 0, 8, 1, 341), (84, 0, 8, 7, 350), (3, 9, 0, 0, 796), (9, 0, 6, 0, 797), (26, 0, 6, 1, 798), (15, 0, 6, 2, 800), (30, 0, 6, 3, 801), (18, 0, 6, 4, 803), (37, 0, 6, 5, 804), (40, 0, 6, 6, 805), (43, 0, 6, 7, 807), (51, 1, 498, 2, 1139), (57, 1, 499, 2, 1142), (66, 10, 0, 0, 1145), (47, 1, 150, 1, 1146), (46, 5, 2147483647, 0, 1150), (72, 1, 497, 1, 1488), (76, 1, 155, 1, 1489), (80, 1, 151, 1, 1492), (60, 1, 514, 4, 1501), (22, 2, 290, 2, 2178), (33, 2, 289, 2, 2179)]
set_option maxRecDepth 100000 in
theorem zlk_6_ok : ∀ k r, zlk_6 k = some r → r.1 ≠ 7 → ∃ w, zlkw (zown 6) k r = some w ∧ (w ∈ zW ∨ (w ∈ zN ∧ znest w = true)) := zlk_gen zes_6 [341, 350, 796, 797, 798, 800, 801, 803, 804, 805, 807, 1139, 1142, 1145, 1146, 1150, 1488, 1489, 1492, 1501, 2178, 2179] (by decide +kernel) (by decide +kernel) (by decide +kernel) (fun k h => zlk_no (g := zlkT_6) k h)
def zes_7 : List zKE := [(3, 9, 0, 0, 303), (9, 0, 7, 0, 304), (26, 0, 7, 1, 309), (29, 0, 7, 2, 313), (15, 0, 7, 3, 314), (19, 0, 7, 4, 317), (36, 6, 4096, 0, 1134), (46, 1, 168, 1, 1268), (38, 6, 256, 0, 1432), (40, 1, 498, 2, 1446), (22, 2, 290, 2, 2067), (32, 2, 288, 3, 2208)]
set_option maxRecDepth 100000 in
theorem zlk_7_ok : ∀ k r, zlk_7 k = some r → r.1 ≠ 7 → ∃ w, zlkw (zown 7) k r = some w ∧ (w ∈ zW ∨ (w ∈ zN ∧ znest w = true)) := zlk_gen zes_7 [303, 304, 309, 313, 314, 317, 1134, 1268, 1432, 1446, 2067, 2208] (by decide +kernel) (by decide +kernel) (by decide +kernel) (fun k h => zlk_no (g := zlkT_7) k h)
def zes_8 : List zKE := [(246, 0, 7, 0, 307), (218, 0, 7, 1, 311), (212, 0, 7, 3, 316), (3, 9, 0, 0, 338), (37, 0, 8, 0, 339), (9, 0, 8, 1, 340), (15, 0, 8, 2, 342), (18, 0, 8, 3, 343), (21, 0, 8, 4, 344), (24, 0, 8, 5, 345), (27, 0, 8, 6, 347), (45, 0, 8, 7, 349), (48, 0, 8, 8, 353), (51, 0, 8, 9, 355), (54, 0, 8, 10, 357), (57, 0, 8, 11, 359), (60, 0, 8, 12, 362), (30, 0, 8, 13, 364), (63, 0, 8, 14, 368), (66, 0, 8, 15, 370), (34, 0, 8, 16, 373), (69, 0, 8, 17, 375), (98, 1, 191, 1, 1076), (106, 1, 192, 0, 1101), (109, 1, 195, 0, 1102), (83, 1, 182, 1, 1155), (91, 1, 183, 0, 1156), (267, 1, 220, 2, 1157), (270, 1, 221, 2, 1161), (87, 1, 163, 0, 1165), (77, 1, 164, 1, 1169), (273, 1, 222, 1, 1173), (136, 1, 184, 1, 1177), (276, 1, 223, 2, 1181), (279, 1, 224, 2, 1185), (282, 1, 181, 2, 1189), (102, 1, 193, 1, 1297), (118, 1, 200, 1, 1330), (139, 1, 190, 1, 1334), (142, 1, 201, 0, 1338), (145, 1, 202, 1, 1342), (94, 1, 165, 1, 1346), (121, 1, 203, 1, 1347), (148, 1, 204, 3, 1351), (124, 1, 205, 1, 1355), (152, 1, 185, 1, 1359), (155, 1, 207, 2, 1363), (183, 1, 161, 0, 1367), (187, 1, 496, 2, 1371), (158, 6, 2, 0, 1374), (160, 1, 497, 1, 1375), (112, 1, 499, 2, 1378), (164, 1, 498, 2, 1379), (167, 1, 187, 1, 1380), (170, 1, 208, 1, 1384), (191, 1, 189, 0, 1388), (194, 2, 292, 2, 1392), (173, 1, 209, 2, 1395), (179, 1, 188, 0, 1399), (176, 1, 206, 1, 1403), (127, 1, 210, 1, 1407), (197, 8, 13, 0, 1411), (201, 1, 186, 1, 1412), (205, 1, 211, 2, 1416), (209, 1, 212, 1, 1420), (130, 1, 213, 1, 1424), (215, 1, 171, 1, 1428), (221, 1, 214, 2, 1433), (243, 1, 170, 1, 1437), (249, 1, 169, 2, 1441), (224, 1, 172, 1, 1442), (227, 1, 215, 1, 1447), (233, 1, 166, 2, 1451), (253, 1, 514, 4, 1452), (230, 1, 216, 1, 1458), (258, 10, 0, 0, 1462), (237, 1, 167, 1, 1463), (240, 1, 217, 2, 1467), (264, 1, 168, 1, 1471), (133, 1, 218, 1, 1472), (41, 2, 289, 2, 2184), (73, 2, 287, 4, 2201)]
set_option maxRecDepth 100000 in
theorem zlk_8_ok : ∀ k r, zlk_8 k = some r → r.1 ≠ 7 → ∃ w, zlkw (zown 8) k r = some w ∧ (w ∈ zW ∨ (w ∈ zN ∧ znest w = true)) := zlk_gen zes_8 [307, 311, 316, 338, 339, 340, 342, 343, 344, 345, 347, 349, 353, 355, 357, 359, 362, 364, 368, 370, 373, 375, 1076, 1101, 1102, 1155, 1156, 1157, 1161, 1165, 1169, 1173, 1177, 1181, 1185, 1189, 1297, 1330, 1334, 1338, 1342, 1346, 1347, 1351, 1355, 1359, 1363, 1367, 1371, 1374, 1375, 1378, 1379, 1380, 1384, 1388, 1392, 1395, 1399, 1403, 1407, 1411, 1412, 1416, 1420, 1424, 1428, 1433, 1437, 1441, 1442, 1447, 1451, 1452, 1458, 1462, 1463, 1467, 1471, 1472, 2184, 2201] (by decide +kernel) (by decide +kernel) (by decide +kernel) (fun k h => zlk_no (g := zlkT_8) k h)
def zes_9 : List zKE := [(79, 0, 7, 0, 305), (3, 9, 0, 0, 624), (38, 1, 513, 2, 625), (34, 0, 9, 0, 628), (9, 0, 9, 1, 629), (15, 0, 9, 2, 630), (18, 0, 9, 3, 632), (22, 0, 9, 4, 633), (25, 0, 9, 5, 634), (28, 0, 9, 6, 635), (31, 0, 9, 7, 637), (98, 0, 9, 8, 639), (55, 0, 9, 9, 641), (59, 0, 9, 10, 642), (62, 0, 9, 11, 644), (44, 0, 9, 12, 647), (73, 0, 9, 13, 648), (76, 0, 9, 14, 649), (84, 10, 0, 0, 1024), (90, 1, 169, 2, 1027), (66, 1, 228, 0, 1028), (94, 1, 168, 1, 1207), (101, 1, 165, 1, 1211), (105, 1, 500, 2, 1212), (111, 1, 234, 1, 1215), (115, 1, 232, 0, 1614), (119, 1, 235, 2, 1618), (47, 2, 290, 2, 2161), (51, 2, 289, 2, 2162), (69, 2, 288, 3, 2227)]
set_option maxRecDepth 100000 in
theorem zlk_9_ok : ∀ k r, zlk_9 k = some r → r.1 ≠ 7 → ∃ w, zlkw (zown 9) k r = some w ∧ (w ∈ zW ∨ (w ∈ zN ∧ znest w = true)) := zlk_gen zes_9 [305, 624, 625, 628, 629, 630, 632, 633, 634, 635, 637, 639, 641, 642, 644, 647, 648, 649, 1024, 1027, 1028, 1207, 1211, 1212, 1215, 1614, 1618, 2161, 2162, 2227] (by decide +kernel) (by decide +kernel) (by decide +kernel) (fun k h => zlk_no (g := zlkT_9) k h)
def zes_10 : List zKE := [(3, 9, 0, 0, 464), (55, 1, 239, 1, 466), (75, 1, 501, 0, 470), (81, 1, 502, 1, 480), (88, 8, 15, 0, 518), (9, 0, 10, 0, 528), (15, 0, 10, 1, 532), (18, 0, 10, 2, 533), (21, 0, 10, 3, 534), (25, 0, 10, 4, 538), (28, 0, 10, 5, 541), (31, 0, 10, 6, 544), (34, 0, 10, 7, 545), (37, 0, 10, 8, 546), (40, 0, 10, 9, 549), (43, 0, 10, 10, 552), (46, 0, 10, 11, 555), (85, 0, 10, 12, 558), (49, 0, 10, 13, 560), (106, 1, 242, 1, 1096), (123, 2, 291, 5, 1249), (117, 10, 0, 0, 1535), (110, 1, 245, 2, 1793), (114, 1, 244, 2, 1794), (91, 2, 290, 2, 2147), (95, 2, 289, 2, 2148), (99, 1, 251, 2, 2215), (103, 1, 252, 2, 2216)]
set_option maxRecDepth 100000 in
theorem zlk_10_ok : ∀ k r, zlk_10 k = some r → r.1 ≠ 7 → ∃ w, zlkw (zown 10) k r = some w ∧ (w ∈ zW ∨ (w ∈ zN ∧ znest w = true)) := zlk_gen zes_10 [464, 466, 470, 480, 518, 528, 532, 533, 534, 538, 541, 544, 545, 546, 549, 552, 555, 558, 560, 1096, 1249, 1535, 1793, 1794, 2147, 2148, 2215, 2216] (by decide +kernel) (by decide +kernel) (by decide +kernel) (fun k h => zlk_no (g := zlkT_10) k h)
def zes_11 : List zKE := [(1, 9, 0, 0, 287), (13, 3, 1, 0, 290), (26, 3, 0, 0, 292), (28, 2, 0, 0, 294), (119, 0, 7, 1, 310), (109, 0, 8, 14, 369), (112, 0, 8, 15, 371), (201, 0, 0, 0, 415), (214, 0, 0, 2, 418), (209, 0, 0, 3, 420), (213, 0, 0, 4, 422), (33, 1, 16, 0, 453), (168, 0, 10, 8, 548), (171, 0, 10, 9, 551), (174, 0, 10, 10, 554), (177, 0, 10, 11, 557), (158, 0, 2, 0, 600), (161, 0, 2, 1, 605), (215, 0, 9, 2, 631), (61, 0, 9, 11, 645), (115, 0, 1, 0, 900), (138, 0, 1, 1, 903), (150, 0, 1, 2, 906), (57, 0, 1, 3, 908), (75, 0, 1, 6, 912), (180, 0, 1, 7, 914), (232, 0, 1, 8, 916), (87, 0, 1, 11, 920), (90, 0, 1, 12, 922), (93, 0, 1, 13, 924), (9, 0, 11, 0, 966), (34, 0, 11, 1, 967), (15, 0, 11, 2, 968), (38, 0, 11, 3, 969), (19, 0, 11, 4, 970), (22, 0, 11, 5, 971), (29, 0, 11, 6, 972), (41, 1, 17, 2, 1000), (45, 1, 255, 0, 1012), (49, 1, 284, 1, 1013), (53, 1, 286, 1, 1017), (67, 1, 229, 2, 1020), (71, 1, 26, 1, 1032), (79, 1, 149, 1, 1874), (84, 1, 20, 1, 1882), (96, 1, 285, 2, 1894), (100, 1, 179, 1, 1898), (105, 1, 180, 2, 1906), (124, 1, 166, 2, 1918), (128, 1, 167, 1, 1919), (131, 1, 168, 1, 1920), (134, 1, 21, 2, 1925), (142, 1, 251, 2, 1930), (147, 1, 252, 2, 1938), (154, 1, 82, 1, 1946), (165, 1, 246, 1, 1951), (184, 1, 102, 1, 1960), (189, 1, 23, 0, 1966), (193, 1, 103, 1, 1970), (196, 1, 2, 2, 2017), (236, 1, 499, 2, 2070), (218, 10, 0, 0, 2071), (200, 1, 1, 1, 2076), (203, 1, 11, 1, 2084), (206, 1, 12, 1, 2093), (207, 1, 15, 1, 2117), (224, 1, 18, 1, 2138), (228, 1, 19, 1, 2193)]
set_option maxRecDepth 100000 in
theorem zlk_11_ok : ∀ k r, zlk_11 k = some r → r.1 ≠ 7 → ∃ w, zlkw (zown 11) k r = some w ∧ (w ∈ zW ∨ (w ∈ zN ∧ znest w = true)) := zlk_gen zes_11 [287, 290, 292, 294, 310, 369, 371, 415, 418, 420, 422, 453, 548, 551, 554, 557, 600, 605, 631, 645, 900, 903, 906, 908, 912, 914, 916, 920, 922, 924, 966, 967, 968, 969, 970, 971, 972, 1000, 1012, 1013, 1017, 1020, 1032, 1874, 1882, 1894, 1898, 1906, 1918, 1919, 1920, 1925, 1930, 1938, 1946, 1951, 1960, 1966, 1970, 2017, 2070, 2071, 2076, 2084, 2093, 2117, 2138, 2193] (by decide +kernel) (by decide +kernel) (by decide +kernel) (fun k h => zlk_no (g := zlkT_11) k h)
def zes_12 : List zKE := [(664, 9, 0, 0, 2242), (669, 5, 238220, 0, 2243), (28, 0, 12, 0, 2244), (670, 0, 12, 1, 2245), (674, 0, 12, 2, 2246), (32, 0, 12, 3, 2247), (50, 0, 12, 4, 2248), (1, 0, 12, 5, 2249), (25, 0, 12, 6, 2250), (634, 0, 12, 7, 2251), (242, 0, 12, 8, 2252), (101, 0, 12, 9, 2253), (87, 0, 12, 10, 2254), (493, 0, 12, 11, 2255), (504, 0, 12, 12, 2256), (500, 0, 12, 13, 2257), (497, 0, 12, 14, 2258), (550, 0, 12, 15, 2259), (547, 0, 12, 16, 2260), (538, 0, 12, 17, 2261), (541, 0, 12, 18, 2262), (532, 0, 12, 19, 2263), (535, 0, 12, 20, 2264), (553, 0, 12, 21, 2265), (566, 0, 12, 22, 2266), (556, 0, 12, 23, 2267), (559, 0, 12, 24, 2268), (595, 0, 12, 25, 2269), (640, 0, 12, 26, 2270), (628, 0, 12, 27, 2271), (645, 0, 12, 28, 2272), (658, 0, 12, 29, 2273), (649, 0, 12, 30, 2274), (661, 0, 12, 31, 2275), (622, 0, 12, 32, 2276), (625, 0, 12, 33, 2277), (619, 0, 12, 34, 2278), (599, 1, 456, 3, 2354), (677, 1, 461, 0, 2365), (525, 5, 39700, 0, 2369), (284, 1, 502, 1, 2371), (128, 1, 330, 2, 2372), (107, 1, 324, 1, 2376), (90, 1, 303, 2, 2380), (39, 1, 301, 0, 2384), (46, 1, 300, 2, 2388), (682, 1, 460, 0, 2396), (685, 1, 457, 1, 2400), (526, 1, 430, 1, 2404), (463, 1, 414, 1, 2408), (72, 5, 33332, 0, 2412), (73, 6, 4, 0, 2413), (688, 1, 431, 2, 2414), (529, 1, 429, 0, 2418), (481, 1, 420, 0, 2422), (151, 1, 305, 2, 2426), (53, 1, 304, 0, 2430), (56, 1, 307, 1, 2434), (43, 1, 296, 1, 2438), (7, 1, 293, 0, 2442), (314, 1, 326, 1, 2446), (432, 1, 396, 2, 2450), (386, 1, 400, 1, 2454), (399, 1, 398, 1, 2458), (402, 1, 368, 1, 2462), (245, 1, 344, 1, 2466), (144, 1, 308, 1, 2470), (60, 1, 306, 0, 2474), (147, 1, 345, 1, 2478), (17, 1, 295, 1, 2482), (11, 1, 294, 0, 2486), (248, 1, 349, 1, 2490), (157, 1, 346, 1, 2494), (160, 1, 348, 1, 2498), (154, 1, 313, 1, 2502), (63, 1, 311, 0, 2506), (66, 1, 312, 1, 2510), (163, 1, 347, 0, 2514), (251, 1, 355, 1, 2518), (176, 1, 352, 1, 2522), (170, 1, 351, 2, 2526), (166, 1, 350, 2, 2530), (179, 6, 2, 0, 2533), (181, 1, 353, 0, 2534), (185, 1, 309, 1, 2538), (188, 1, 354, 1, 2542), (173, 1, 310, 0, 2546), (142, 6, 18446744073709551615, 0, 2550), (254, 1, 356, 1, 2551), (192, 1, 343, 1, 2555), (257, 1, 359, 1, 2559), (197, 1, 298, 2, 2563), (21, 1, 297, 2, 2567), (15, 6, 4096, 0, 2571), (75, 1, 302, 1, 2572), (35, 1, 299, 1, 2576), (201, 1, 357, 1, 2580), (195, 6, 256, 0, 2584), (204, 1, 358, 1, 2585), (208, 1, 360, 2, 2589), (260, 1, 367, 1, 2593), (229, 1, 364, 1, 2597), (217, 1, 342, 0, 2601), (226, 1, 315, 1, 2605), (70, 5, 34356, 0, 2609), (71, 5, 2147483647, 0, 2610), (220, 1, 362, 1, 2611), (211, 6, 10, 0, 2614), (213, 6, 48, 0, 2615), (215, 6, 65, 0, 2616), (232, 1, 366, 1, 2617), (235, 1, 365, 2, 2621), (239, 1, 363, 1, 2625), (223, 1, 361, 1, 2629), (405, 1, 380, 1, 2633), (298, 1, 331, 0, 2637), (114, 1, 322, 0, 2641), (78, 1, 316, 0, 2645), (81, 1, 318, 1, 2649), (84, 1, 320, 0, 2653), (93, 1, 319, 2, 2657), (97, 1, 321, 1, 2661), (305, 1, 378, 0, 2664), (301, 1, 377, 0, 2668), (304, 5, 39112, 0, 2672), (408, 1, 401, 1, 2673), (429, 1, 402, 3, 2677), (435, 1, 317, 0, 2681), (396, 1, 314, 1, 2685), (411, 1, 385, 1, 2689), (330, 1, 337, 2, 2693), (121, 1, 333, 1, 2697), (124, 1, 332, 2, 2701), (117, 1, 325, 1, 2705), (132, 1, 334, 0, 2709), (135, 1, 336, 0, 2713), (120, 5, 37612, 0, 2717), (334, 1, 384, 1, 2718), (321, 1, 338, 0, 2722), (324, 1, 441, 1, 2726), (591, 1, 434, 4, 2730), (562, 1, 437, 5, 2734), (569, 1, 439, 9, 2738), (588, 1, 440, 5, 2742), (584, 1, 436, 4, 2746), (544, 1, 432, 2, 2750), (577, 1, 435, 3, 2754), (573, 1, 433, 5, 2758), (581, 1, 438, 5, 2762), (327, 1, 335, 2, 2766), (269, 1, 370, 1, 2770), (318, 1, 373, 0, 2774), (276, 1, 329, 0, 2778), (110, 1, 328, 2, 2782), (104, 1, 327, 1, 2786), (337, 1, 383, 0, 2790), (340, 1, 381, 1, 2794), (308, 1, 374, 0, 2798), (311, 1, 382, 2, 2802), (343, 1, 371, 1, 2806), (263, 1, 323, 1, 2810), (266, 1, 369, 0, 2814), (272, 6, 128, 0, 2818), (346, 1, 372, 0, 2819), (274, 6, 512, 0, 2823), (349, 1, 376, 0, 2824), (290, 1, 375, 1, 2829), (279, 1, 501, 0, 2833), (414, 1, 406, 1, 2836), (438, 1, 405, 0, 2840), (441, 1, 403, 0, 2844), (444, 1, 404, 1, 2848), (417, 1, 394, 1, 2852), (362, 1, 387, 1, 2856), (352, 1, 339, 3, 2860), (138, 5, 37420, 0, 2864), (365, 1, 388, 0, 2865), (139, 1, 340, 2, 2869), (356, 1, 386, 0, 2873), (368, 1, 390, 1, 2877), (371, 1, 341, 1, 2881), (374, 1, 389, 0, 2885), (377, 1, 392, 1, 2889), (359, 1, 391, 3, 2893), (380, 1, 393, 0, 2897), (383, 1, 395, 0, 2901), (420, 1, 413, 1, 2905), (423, 1, 418, 1, 2909), (466, 1, 416, 1, 2913), (469, 1, 415, 0, 2917), (475, 1, 417, 1, 2921), (472, 1, 422, 0, 2925), (487, 1, 423, 1, 2929), (490, 1, 424, 1, 2933), (478, 1, 419, 0, 2937), (426, 1, 421, 1, 2941), (484, 6, 7, 0, 2945), (486, 5, 37356, 0, 2946), (389, 1, 397, 1, 2947), (392, 1, 379, 2, 2951), (519, 1, 427, 0, 2955), (510, 1, 428, 0, 2959), (513, 1, 399, 1, 2963), (516, 1, 426, 0, 2967), (507, 1, 425, 1, 2971), (522, 1, 409, 1, 2974), (447, 1, 410, 3, 2978), (450, 1, 407, 2, 2982), (453, 1, 408, 3, 2986), (457, 1, 412, 3, 2990), (460, 1, 411, 2, 2994), (691, 1, 473, 2, 3038), (694, 1, 477, 2, 3054), (697, 1, 442, 1, 3066), (700, 1, 448, 2, 3070), (603, 1, 447, 3, 3074), (606, 1, 443, 2, 3078), (609, 1, 445, 1, 3082), (612, 1, 444, 4, 3085), (616, 1, 446, 1, 3089), (637, 1, 449, 1, 3096), (703, 1, 451, 1, 3100), (631, 1, 450, 1, 3104), (706, 1, 452, 1, 3108), (643, 5, 16777216, 0, 3112), (644, 5, 285212672, 0, 3113), (709, 5, 198500, 0, 3114), (710, 1, 483, 0, 3123), (713, 1, 453, 0, 3131), (648, 5, 16777215, 0, 3135), (652, 1, 454, 0, 3136), (655, 5, 238201, 0, 3140), (656, 5, 238204, 0, 3141), (657, 5, 238200, 0, 3142), (716, 5, 229192, 0, 3147), (717, 5, 198600, 0, 3156), (718, 1, 490, 2, 3165), (721, 1, 493, 4, 3177), (725, 1, 495, 2, 3180)]
set_option maxRecDepth 100000 in
theorem zlk_12_ok : ∀ k r, zlk_12 k = some r → r.1 ≠ 7 → ∃ w, zlkw (zown 12) k r = some w ∧ (w ∈ zW ∨ (w ∈ zN ∧ znest w = true)) := zlk_gen zes_12 [2242, 2243, 2244, 2245, 2246, 2247, 2248, 2249, 2250, 2251, 2252, 2253, 2254, 2255, 2256, 2257, 2258, 2259, 2260, 2261, 2262, 2263, 2264, 2265, 2266, 2267, 2268, 2269, 2270, 2271, 2272, 2273, 2274, 2275, 2276, 2277, 2278, 2354, 2365, 2369, 2371, 2372, 2376, 2380, 2384, 2388, 2396, 2400, 2404, 2408, 2412, 2413, 2414, 2418, 2422, 2426, 2430, 2434, 2438, 2442, 2446, 2450, 2454, 2458, 2462, 2466, 2470, 2474, 2478, 2482, 2486, 2490, 2494, 2498, 2502, 2506, 2510, 2514, 2518, 2522, 2526, 2530, 2533, 2534, 2538, 2542, 2546, 2550, 2551, 2555, 2559, 2563, 2567, 2571, 2572, 2576, 2580, 2584, 2585, 2589, 2593, 2597, 2601, 2605, 2609, 2610, 2611, 2614, 2615, 2616, 2617, 2621, 2625, 2629, 2633, 2637, 2641, 2645, 2649, 2653, 2657, 2661, 2664, 2668, 2672, 2673, 2677, 2681, 2685, 2689, 2693, 2697, 2701, 2705, 2709, 2713, 2717, 2718, 2722, 2726, 2730, 2734, 2738, 2742, 2746, 2750, 2754, 2758, 2762, 2766, 2770, 2774, 2778, 2782, 2786, 2790, 2794, 2798, 2802, 2806, 2810, 2814, 2818, 2819, 2823, 2824, 2829, 2833, 2836, 2840, 2844, 2848, 2852, 2856, 2860, 2864, 2865, 2869, 2873, 2877, 2881, 2885, 2889, 2893, 2897, 2901, 2905, 2909, 2913, 2917, 2921, 2925, 2929, 2933, 2937, 2941, 2945, 2946, 2947, 2951, 2955, 2959, 2963, 2967, 2971, 2974, 2978, 2982, 2986, 2990, 2994, 3038, 3054, 3066, 3070, 3074, 3078, 3082, 3085, 3089, 3096, 3100, 3104, 3108, 3112, 3113, 3114, 3123, 3131, 3135, 3136, 3140, 3141, 3142, 3147, 3156, 3165, 3177, 3180] (by decide +kernel) (by decide +kernel) (by decide +kernel) (fun k h => zlk_no (g := zlkT_12) k h)
def zes_13 : List zKE := [(7, 3, 11, 0, 282), (9, 1, 253, 0, 284), (15, 1, 254, 2, 988), (20, 1, 255, 0, 992), (25, 1, 256, 2, 996), (30, 1, 257, 2, 1008), (34, 1, 258, 2, 1866), (38, 1, 259, 2, 1870), (42, 1, 260, 2, 1878), (46, 1, 261, 2, 1886), (50, 1, 262, 3, 1890), (55, 1, 263, 4, 1902), (60, 1, 264, 2, 1910), (64, 1, 265, 3, 1914), (68, 1, 266, 1, 1921), (73, 1, 267, 3, 1926), (77, 1, 268, 3, 1934), (81, 1, 269, 3, 1942), (85, 1, 270, 2, 1947), (89, 1, 271, 3, 1952), (93, 1, 272, 2, 1956), (97, 1, 273, 2, 2013), (101, 1, 274, 1, 2072), (105, 1, 275, 1, 2080), (109, 1, 276, 1, 2089), (113, 1, 277, 1, 2113), (117, 1, 278, 1, 2122), (121, 1, 279, 1, 2126), (125, 1, 280, 3, 2130), (129, 1, 281, 2, 2134), (133, 1, 282, 2, 2185), (137, 1, 283, 2, 2189), (10, 3, 12, 0, 2237), (12, 1, 455, 0, 2239), (19, 1, 458, 2, 2350), (24, 1, 459, 0, 2357), (29, 1, 462, 2, 2361), (33, 1, 463, 2, 2392), (37, 1, 464, 2, 2998), (41, 1, 465, 2, 3002), (45, 1, 466, 2, 3006), (49, 1, 467, 2, 3010), (54, 1, 468, 3, 3014), (59, 1, 469, 4, 3018), (63, 1, 470, 2, 3022), (67, 1, 471, 3, 3026), (72, 1, 472, 1, 3030), (76, 1, 474, 3, 3034), (80, 1, 475, 3, 3042), (84, 1, 476, 3, 3046), (88, 1, 478, 2, 3050), (92, 1, 479, 3, 3058), (96, 1, 480, 2, 3062), (100, 1, 481, 2, 3092), (104, 1, 482, 1, 3115), (108, 1, 484, 1, 3119), (112, 1, 485, 1, 3127), (116, 1, 486, 1, 3143), (120, 1, 487, 1, 3148), (124, 1, 488, 1, 3152), (128, 1, 489, 3, 3157), (132, 1, 491, 2, 3161), (136, 1, 492, 2, 3169), (141, 1, 494, 2, 3173), (13, 6, 4294967295, 0, 3184)]
set_option maxRecDepth 100000 in
theorem zlk_13_ok : ∀ k r, zlk_13 k = some r → r.1 ≠ 7 → ∃ w, zlkw (zown 13) k r = some w ∧ (w ∈ zW ∨ (w ∈ zN ∧ znest w = true)) := zlk_gen zes_13 [282, 284, 988, 992, 996, 1008, 1866, 1870, 1878, 1886, 1890, 1902, 1910, 1914, 1921, 1926, 1934, 1942, 1947, 1952, 1956, 2013, 2072, 2080, 2089, 2113, 2122, 2126, 2130, 2134, 2185, 2189, 2237, 2239, 2350, 2357, 2361, 2392, 2998, 3002, 3006, 3010, 3014, 3018, 3022, 3026, 3030, 3034, 3042, 3046, 3050, 3058, 3062, 3092, 3115, 3119, 3127, 3143, 3148, 3152, 3157, 3161, 3169, 3173, 3184] (by decide +kernel) (by decide +kernel) (by decide +kernel) (fun k h => zlk_no (g := zlkT_13) k h)
def zes_14 : List zKE := []
set_option maxRecDepth 100000 in
theorem zlk_14_ok : ∀ k r, zlk_14 k = some r → r.1 ≠ 7 → ∃ w, zlkw (zown 14) k r = some w ∧ (w ∈ zW ∨ (w ∈ zN ∧ znest w = true)) := zlk_gen zes_14 [] (by decide +kernel) (by decide +kernel) (by decide +kernel) (fun k h => zlk_no (g := zlkT_14) k h)
def zes_15 : List zKE := [(13, 1, 511, 3, 1455)]
set_option maxRecDepth 100000 in
theorem zlk_15_ok : ∀ k r, zlk_15 k = some r → r.1 ≠ 7 → ∃ w, zlkw (zown 15) k r = some w ∧ (w ∈ zW ∨ (w ∈ zN ∧ znest w = true)) := zlk_gen zes_15 [1455] (by decide +kernel) (by decide +kernel) (by decide +kernel) (fun k h => zlk_no (g := zlkT_15) k h)
def zes_16 : List zKE := [(335, 1, 503, 0, 474), (38, 12, 0, 0, 478), (492, 1, 504, 0, 484), (495, 1, 506, 2, 488), (1053, 13, 0, 0, 494), (1059, 1, 515, 3, 496), (498, 1, 509, 2, 499), (9, 11, 0, 0, 3185), (15, 11, 1, 0, 3186)]
set_option maxRecDepth 100000 in
theorem zlk_16_ok : ∀ k r, zlk_16 k = some r → r.1 ≠ 7 → ∃ w, zlkw (zown 16) k r = some w ∧ (w ∈ zW ∨ (w ∈ zN ∧ znest w = true)) := zlk_gen zes_16 [474, 478, 484, 488, 494, 496, 499, 3185, 3186] (by decide +kernel) (by decide +kernel) (by decide +kernel) (fun k h => zlk_no (g := zlkT_16) k h)
def zes_17 : List zKE := [(9, 1, 505, 2, 491)]
set_option maxRecDepth 100000 in
theorem zlk_17_ok : ∀ k r, zlk_17 k = some r → r.1 ≠ 7 → ∃ w, zlkw (zown 17) k r = some w ∧ (w ∈ zW ∨ (w ∈ zN ∧ znest w = true)) := zlk_gen zes_17 [491] (by decide +kernel) (by decide +kernel) (by decide +kernel) (fun k h => zlk_no (g := zlkT_17) k h)
def zes_18 : List zKE := [(67, 1, 510, 2, 502), (48, 1, 508, 1, 505), (414, 1, 505, 2, 508), (71, 1, 507, 2, 509)]
set_option maxRecDepth 100000 in
theorem zlk_18_ok : ∀ k r, zlk_18 k = some r → r.1 ≠ 7 → ∃ w, zlkw (zown 18) k r = some w ∧ (w ∈ zW ∨ (w ∈ zN ∧ znest w = true)) := zlk_gen zes_18 [502, 505, 508, 509] (by decide +kernel) (by decide +kernel) (by decide +kernel) (fun k h => zlk_no (g := zlkT_18) k h)
def zes_19 : List zKE := []
set_option maxRecDepth 100000 in
theorem zlk_19_ok : ∀ k r, zlk_19 k = some r → r.1 ≠ 7 → ∃ w, zlkw (zown 19) k r = some w ∧ (w ∈ zW ∨ (w ∈ zN ∧ znest w = true)) := zlk_gen zes_19 [] (by decide +kernel) (by decide +kernel) (by decide +kernel) (fun k h => zlk_no (g := zlkT_19) k h)
def zes_20 : List zKE := []
set_option maxRecDepth 100000 in
theorem zlk_20_ok : ∀ k r, zlk_20 k = some r → r.1 ≠ 7 → ∃ w, zlkw (zown 20) k r = some w ∧ (w ∈ zW ∨ (w ∈ zN ∧ znest w = true)) := zlk_gen zes_20 [] (by decide +kernel) (by decide +kernel) (by decide +kernel) (fun k h => zlk_no (g := zlkT_20) k h)
theorem zlk_ok : ∀ (o : Nat), o < 21 → ∀ k r, zlk o k = some r → r.1 ≠ 7 → ∃ w, zlkw (zown o) k r = some w ∧ (w ∈ zW ∨ (w ∈ zN ∧ znest w = true))
  | 0, _ => zlk_0_ok
  | 1, _ => zlk_1_ok
  | 2, _ => zlk_2_ok
  | 3, _ => zlk_3_ok
  | 4, _ => zlk_4_ok
  | 5, _ => zlk_5_ok
  | 6, _ => zlk_6_ok
  | 7, _ => zlk_7_ok
  | 8, _ => zlk_8_ok
  | 9, _ => zlk_9_ok
  | 10, _ => zlk_10_ok
  | 11, _ => zlk_11_ok
  | 12, _ => zlk_12_ok
  | 13, _ => zlk_13_ok
  | 14, _ => zlk_14_ok
  | 15, _ => zlk_15_ok
  | 16, _ => zlk_16_ok
  | 17, _ => zlk_17_ok
  | 18, _ => zlk_18_ok
  | 19, _ => zlk_19_ok
  | 20, _ => zlk_20_ok
  | k + 21, h => by omega
theorem zw_arr0 : Cond.arrayClass .int ∈ zW := zW_of 332 (by decide +kernel) (by decide +kernel)
theorem zw_arr1 : Cond.arrayClass .byte ∈ zW := zW_of 330 (by decide +kernel) (by decide +kernel)
theorem zw_arr2 : Cond.arrayClass .boolean ∈ zW := zW_of 331 (by decide +kernel) (by decide +kernel)
theorem zw_obj1 : Cond.instanceMethod objectInit ∈ zW := zW_of 288 (by decide +kernel) (by decide +kernel)
theorem zw_obj2 : Cond.code objectInit ⟨#[0xb1]⟩ 1 none ∈ zW := zW_of 289 (by decide +kernel) (by decide +kernel)
theorem zw_cpy1 : Cond.native arraycopyName ∈ zW := zW_of 1026 (by decide +kernel) (by decide +kernel)
theorem zw_cpy2 : Cond.static arraycopyName ∈ zW := zW_of 1025 (by decide +kernel) (by decide +kernel)
theorem zw_cpy3 : Cond.initialized "java/lang/System" ∈ zW := zW_of 280 (by decide +kernel) (by decide +kernel)
theorem zw_cls0 : Cond.instantiable RX0 11 ∈ zW ∧ Cond.initialized RX0 ∈ zW := ⟨zW_of 293 (by decide +kernel) (by decide +kernel), zW_of 263 (by decide +kernel) (by decide +kernel)⟩
theorem zw_cls1 : Cond.instantiable RX1 18 ∈ zW ∧ Cond.initialized RX1 ∈ zW := ⟨zW_of 452 (by decide +kernel) (by decide +kernel), zW_of 266 (by decide +kernel) (by decide +kernel)⟩
theorem zw_cls2 : Cond.instantiable RX2 3 ∈ zW ∧ Cond.initialized RX2 ∈ zW := ⟨zW_of 592 (by decide +kernel) (by decide +kernel), zW_of 272 (by decide +kernel) (by decide +kernel)⟩
theorem zw_cls3 : Cond.instantiable RX3 20 ∈ zW ∧ Cond.initialized RX3 ∈ zW := ⟨zW_of 827 (by decide +kernel) (by decide +kernel), zW_of 278 (by decide +kernel) (by decide +kernel)⟩
theorem zw_cls4 : Cond.instantiable RX4 12 ∈ zW ∧ Cond.initialized RX4 ∈ zW := ⟨zW_of 741 (by decide +kernel) (by decide +kernel), zW_of 276 (by decide +kernel) (by decide +kernel)⟩
theorem zw_cls5 : Cond.instantiable RX5 15 ∈ zW ∧ Cond.initialized RX5 ∈ zW := ⟨zW_of 682 (by decide +kernel) (by decide +kernel), zW_of 275 (by decide +kernel) (by decide +kernel)⟩
theorem zw_cls6 : Cond.instantiable RX6 8 ∈ zW ∧ Cond.initialized RX6 ∈ zW := ⟨zW_of 792 (by decide +kernel) (by decide +kernel), zW_of 277 (by decide +kernel) (by decide +kernel)⟩
theorem zw_cls7 : Cond.instantiable RX7 5 ∈ zW ∧ Cond.initialized RX7 ∈ zW := ⟨zW_of 299 (by decide +kernel) (by decide +kernel), zW_of 264 (by decide +kernel) (by decide +kernel)⟩
theorem zw_cls8 : Cond.instantiable RX8 18 ∈ zW ∧ Cond.initialized RX8 ∈ zW := ⟨zW_of 334 (by decide +kernel) (by decide +kernel), zW_of 265 (by decide +kernel) (by decide +kernel)⟩
theorem zw_cls9 : Cond.instantiable RX9 15 ∈ zW ∧ Cond.initialized RX9 ∈ zW := ⟨zW_of 620 (by decide +kernel) (by decide +kernel), zW_of 273 (by decide +kernel) (by decide +kernel)⟩
theorem zw_cls10 : Cond.instantiable RX10 14 ∈ zW ∧ Cond.initialized RX10 ∈ zW := ⟨zW_of 460 (by decide +kernel) (by decide +kernel), zW_of 267 (by decide +kernel) (by decide +kernel)⟩
theorem zw_cls11 : Cond.instantiable RX11 7 ∈ zW ∧ Cond.initialized RX11 ∈ zW := ⟨zW_of 283 (by decide +kernel) (by decide +kernel), zW_of 262 (by decide +kernel) (by decide +kernel)⟩
theorem zw_cls12 : Cond.instantiable RX12 35 ∈ zW ∧ Cond.initialized RX12 ∈ zW := ⟨zW_of 2238 (by decide +kernel) (by decide +kernel), zW_of 279 (by decide +kernel) (by decide +kernel)⟩
theorem zw_cls : ∀ (ci : Nat) (q : vw_C), zcls[ci]? = some q → Cond.instantiable q.1 q.2.2 ∈ zW ∧ Cond.initialized q.1 ∈ zW
  | 0, q, h => by cases h; exact zw_cls0
  | 1, q, h => by cases h; exact zw_cls1
  | 2, q, h => by cases h; exact zw_cls2
  | 3, q, h => by cases h; exact zw_cls3
  | 4, q, h => by cases h; exact zw_cls4
  | 5, q, h => by cases h; exact zw_cls5
  | 6, q, h => by cases h; exact zw_cls6
  | 7, q, h => by cases h; exact zw_cls7
  | 8, q, h => by cases h; exact zw_cls8
  | 9, q, h => by cases h; exact zw_cls9
  | 10, q, h => by cases h; exact zw_cls10
  | 11, q, h => by cases h; exact zw_cls11
  | 12, q, h => by cases h; exact zw_cls12
  | k + 13, q, h => by simp [zcls] at h
