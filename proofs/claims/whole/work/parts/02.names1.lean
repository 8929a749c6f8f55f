def RX0 : String := "MockParcels$Auction"
def TX0 : u_T := fun k => match k with
  | 0 => ("MockParcels$Auction", "cast", "LMockParcels$Cast;", true)
  | 1 => ("MockParcels$Auction", "law", "LMockParcels$Law;", true)
  | 2 => ("MockParcels$Auction", "plans", "LMockParcels$Plans;", true)
  | 3 => ("MockParcels$Auction", "book", "[I", true)
  | 4 => ("MockParcels$Auction", "quay", "LMockParcels$Quay;", true)
  | 5 => ("MockParcels$Auction", "thinking", "Z", true)
  | 6 => ("MockParcels$Auction", "last", "I", false)
  | 7 => ("MockParcels$Auction", "price", "I", false)
  | _ => ("MockParcels$Auction", "rounds", "I", false)
def tyX0 : Nat → FieldType := fun k => match k with
  | 0 => .object "MockParcels$Cast"
  | 1 => .object "MockParcels$Law"
  | 2 => .object "MockParcels$Plans"
  | 3 => .array .int
  | 4 => .object "MockParcels$Quay"
  | 5 => .boolean
  | 6 => .int
  | 7 => .int
  | _ => .int
abbrev wsX00 : List Cond := u_ws RX0 TX0 9
theorem nmX0 : ∀ a, a < 9 → ∀ b, b < 9 → a ≠ b → (TX0 a).2.1 ≠ (TX0 b).2.1 := by decide +kernel
theorem tyX0_ok : ∀ k, k < 9 → parseFieldDescriptor (TX0 k).2.2.1 = some (tyX0 k) := by decide +kernel
def RX1 : String := "MockParcels$Cast"
def TX1 : u_T := fun k => match k with
  | 0 => ("MockParcels$Cast", "parcels", "I", false)
  | 1 => ("MockParcels$Cast", "bidders", "I", false)
  | 2 => ("MockParcels$Cast", "weight", "[I", true)
  | 3 => ("MockParcels$Cast", "rattle", "[I", true)
  | 4 => ("MockParcels$Cast", "knots", "[I", true)
  | 5 => ("MockParcels$Cast", "care", "[I", true)
  | _ => ("MockParcels$Cast", "shill", "[I", true)
def tyX1 : Nat → FieldType := fun k => match k with
  | 0 => .int
  | 1 => .int
  | 2 => .array .int
  | 3 => .array .int
  | 4 => .array .int
  | 5 => .array .int
  | _ => .array .int
abbrev wsX10 : List Cond := u_ws RX1 TX1 7
theorem nmX1 : ∀ a, a < 7 → ∀ b, b < 7 → a ≠ b → (TX1 a).2.1 ≠ (TX1 b).2.1 := by decide +kernel
theorem tyX1_ok : ∀ k, k < 7 → parseFieldDescriptor (TX1 k).2.2.1 = some (tyX1 k) := by decide +kernel
def RX2 : String := "MockParcels$Law"
def TX2 : u_T := fun k => match k with
  | 0 => ("MockParcels$Law", "codes", "[I", true)
  | 1 => ("MockParcels$Law", "words", "[I", true)
  | 2 => ("MockParcels$Law", "middles", "[I", true)
  | 3 => ("MockParcels$Law", "ends", "[I", true)
  | 4 => ("MockParcels$Law", "scene", "[I", true)
  | 5 => ("MockParcels$Law", "stack", "[I", true)
  | 6 => ("MockParcels$Law", "size", "I", false)
  | _ => ("MockParcels$Law", "lines", "I", false)
def tyX2 : Nat → FieldType := fun k => match k with
  | 0 => .array .int
  | 1 => .array .int
  | 2 => .array .int
  | 3 => .array .int
  | 4 => .array .int
  | 5 => .array .int
  | 6 => .int
  | _ => .int
abbrev wsX20 : List Cond := u_ws RX2 TX2 8
theorem nmX2 : ∀ a, a < 8 → ∀ b, b < 8 → a ≠ b → (TX2 a).2.1 ≠ (TX2 b).2.1 := by decide +kernel
theorem tyX2_ok : ∀ k, k < 8 → parseFieldDescriptor (TX2 k).2.2.1 = some (tyX2 k) := by decide +kernel
def RX3 : String := "MockParcels$Parser"
def TX3 : u_T := fun k => match k with
  | 0 => ("MockParcels$Parser", "law", "LMockParcels$Law;", true)
  | 1 => ("MockParcels$Parser", "plans", "LMockParcels$Plans;", true)
  | 2 => ("MockParcels$Parser", "reader", "LMockParcels$Reader;", true)
  | 3 => ("MockParcels$Parser", "parcels", "I", false)
  | _ => ("MockParcels$Parser", "bidders", "I", false)
def tyX3 : Nat → FieldType := fun k => match k with
  | 0 => .object "MockParcels$Law"
  | 1 => .object "MockParcels$Plans"
  | 2 => .object "MockParcels$Reader"
  | 3 => .int
  | _ => .int
abbrev wsX30 : List Cond := u_ws RX3 TX3 5
theorem nmX3 : ∀ a, a < 5 → ∀ b, b < 5 → a ≠ b → (TX3 a).2.1 ≠ (TX3 b).2.1 := by decide +kernel
theorem tyX3_ok : ∀ k, k < 5 → parseFieldDescriptor (TX3 k).2.2.1 = some (tyX3 k) := by decide +kernel
def RX4 : String := "MockParcels$Past"
def TX4 : u_T := fun k => match k with
  | 0 => ("MockParcels$Past", "rows", "[LMockParcels$Quay;", true)
  | 1 => ("MockParcels$Past", "first", "I", false)
  | _ => ("MockParcels$Past", "count", "I", false)
def tyX4 : Nat → FieldType := fun k => match k with
  | 0 => .array (.object "MockParcels$Quay")
  | 1 => .int
  | _ => .int
abbrev wsX40 : List Cond := u_ws RX4 TX4 3
theorem nmX4 : ∀ a, a < 3 → ∀ b, b < 3 → a ≠ b → (TX4 a).2.1 ≠ (TX4 b).2.1 := by decide +kernel
theorem tyX4_ok : ∀ k, k < 3 → parseFieldDescriptor (TX4 k).2.2.1 = some (tyX4 k) := by decide +kernel
def RX5 : String := "MockParcels$Plans"
def TX5 : u_T := fun k => match k with
  | 0 => ("MockParcels$Plans", "follows", "[I", true)
  | 1 => ("MockParcels$Plans", "wants", "[I", true)
  | 2 => ("MockParcels$Plans", "weekDay", "[I", true)
  | 3 => ("MockParcels$Plans", "weekAct", "[I", true)
  | 4 => ("MockParcels$Plans", "weekWho", "[I", true)
  | 5 => ("MockParcels$Plans", "weekMuch", "[I", true)
  | 6 => ("MockParcels$Plans", "followsLines", "I", false)
  | 7 => ("MockParcels$Plans", "wantsLines", "I", false)
  | _ => ("MockParcels$Plans", "weekLines", "I", false)
def tyX5 : Nat → FieldType := fun k => match k with
  | 0 => .array .int
  | 1 => .array .int
  | 2 => .array .int
  | 3 => .array .int
  | 4 => .array .int
  | 5 => .array .int
  | 6 => .int
  | 7 => .int
  | _ => .int
abbrev wsX50 : List Cond := u_ws RX5 TX5 9
theorem nmX5 : ∀ a, a < 9 → ∀ b, b < 9 → a ≠ b → (TX5 a).2.1 ≠ (TX5 b).2.1 := by decide +kernel
theorem tyX5_ok : ∀ k, k < 9 → parseFieldDescriptor (TX5 k).2.2.1 = some (tyX5 k) := by decide +kernel
def RX6 : String := "MockParcels$Quay"
def TX6 : u_T := fun k => match k with
  | 0 => ("MockParcels$Quay", "sold", "[I", true)
  | 1 => ("MockParcels$Quay", "in", "[I", true)
  | 2 => ("MockParcels$Quay", "bill", "[I", true)
  | 3 => ("MockParcels$Quay", "purse", "[I", true)
  | 4 => ("MockParcels$Quay", "owes", "[I", true)
  | 5 => ("MockParcels$Quay", "has", "[I", true)
  | 6 => ("MockParcels$Quay", "draws", "I", false)
  | 7 => ("MockParcels$Quay", "till", "I", false)
  | 8 => ("MockParcels$Quay", "crowd", "I", false)
  | 9 => ("MockParcels$Quay", "wet", "I", false)
  | 10 => ("MockParcels$Quay", "day", "I", false)
  | 11 => ("MockParcels$Quay", "box", "I", false)
  | _ => ("MockParcels$Quay", "lines", "I", false)
def tyX6 : Nat → FieldType := fun k => match k with
  | 0 => .array .int
  | 1 => .array .int
  | 2 => .array .int
  | 3 => .array .int
  | 4 => .array .int
  | 5 => .array .int
  | 6 => .int
  | 7 => .int
  | 8 => .int
  | 9 => .int
  | 10 => .int
  | 11 => .int
  | _ => .int
abbrev wsX60 : List Cond := u_ws RX6 TX6 13
theorem nmX6 : ∀ a, a < 13 → ∀ b, b < 13 → a ≠ b → (TX6 a).2.1 ≠ (TX6 b).2.1 := by decide +kernel
theorem tyX6_ok : ∀ k, k < 13 → parseFieldDescriptor (TX6 k).2.2.1 = some (tyX6 k) := by decide +kernel
def RX7 : String := "MockParcels$Reader"
def TX7 : u_T := fun k => match k with
  | 0 => ("MockParcels$Reader", "tape", "[I", true)
  | 1 => ("MockParcels$Reader", "size", "I", false)
  | 2 => ("MockParcels$Reader", "tokens", "[I", true)
  | 3 => ("MockParcels$Reader", "starts", "[I", true)
  | 4 => ("MockParcels$Reader", "count", "I", false)
  | 5 => ("MockParcels$Reader", "at", "I", false)
  | 6 => ("MockParcels$Reader", "token", "I", false)
  | 7 => ("MockParcels$Reader", "fault", "I", false)
  | _ => ("MockParcels$Reader", "faultAt", "I", false)
def tyX7 : Nat → FieldType := fun k => match k with
  | 0 => .array .int
  | 1 => .int
  | 2 => .array .int
  | 3 => .array .int
  | 4 => .int
  | 5 => .int
  | 6 => .int
  | 7 => .int
  | _ => .int
abbrev wsX70 : List Cond := u_ws RX7 TX7 9
theorem nmX7 : ∀ a, a < 9 → ∀ b, b < 9 → a ≠ b → (TX7 a).2.1 ≠ (TX7 b).2.1 := by decide +kernel
theorem tyX7_ok : ∀ k, k < 9 → parseFieldDescriptor (TX7 k).2.2.1 = some (tyX7 k) := by decide +kernel
def RX8 : String := "MockParcels$Sums"
def TX8 : u_T := fun k => match k with
  | 0 => ("MockParcels$Sums", "fewest", "[I", true)
  | 1 => ("MockParcels$Sums", "ways", "[I", true)
  | 2 => ("MockParcels$Sums", "got", "[I", true)
  | 3 => ("MockParcels$Sums", "cut", "[I", true)
  | 4 => ("MockParcels$Sums", "most", "[I", true)
  | 5 => ("MockParcels$Sums", "marks", "[I", true)
  | _ => ("MockParcels$Sums", "points", "[I", true)
def tyX8 : Nat → FieldType := fun k => match k with
  | 0 => .array .int
  | 1 => .array .int
  | 2 => .array .int
  | 3 => .array .int
  | 4 => .array .int
  | 5 => .array .int
  | _ => .array .int
abbrev wsX80 : List Cond := u_ws RX8 TX8 7
theorem nmX8 : ∀ a, a < 7 → ∀ b, b < 7 → a ≠ b → (TX8 a).2.1 ≠ (TX8 b).2.1 := by decide +kernel
theorem tyX8_ok : ∀ k, k < 7 → parseFieldDescriptor (TX8 k).2.2.1 = some (tyX8 k) := by decide +kernel
def RX9 : String := "MockParcels$Told"
def TX9 : u_T := fun k => match k with
  | 0 => ("MockParcels$Told", "weights", "[I", true)
  | 1 => ("MockParcels$Told", "lengths", "[I", true)
  | 2 => ("MockParcels$Told", "coins", "[I", true)
  | 3 => ("MockParcels$Told", "ranks", "[I", true)
  | 4 => ("MockParcels$Told", "prices", "[I", true)
  | 5 => ("MockParcels$Told", "dues", "[I", true)
  | 6 => ("MockParcels$Told", "clues", "[I", true)
  | 7 => ("MockParcels$Told", "clueIs", "[I", true)
  | 8 => ("MockParcels$Told", "raids", "[I", true)
  | 9 => ("MockParcels$Told", "lengthCount", "I", false)
  | 10 => ("MockParcels$Told", "coinCount", "I", false)
  | 11 => ("MockParcels$Told", "putCount", "I", false)
  | 12 => ("MockParcels$Told", "clueCount", "I", false)
  | _ => ("MockParcels$Told", "raidCount", "I", false)
def tyX9 : Nat → FieldType := fun k => match k with
  | 0 => .array .int
  | 1 => .array .int
  | 2 => .array .int
  | 3 => .array .int
  | 4 => .array .int
  | 5 => .array .int
  | 6 => .array .int
  | 7 => .array .int
  | 8 => .array .int
  | 9 => .int
  | 10 => .int
  | 11 => .int
  | 12 => .int
  | _ => .int
abbrev wsX90 : List Cond := u_ws RX9 TX9 14
theorem nmX9 : ∀ a, a < 14 → ∀ b, b < 14 → a ≠ b → (TX9 a).2.1 ≠ (TX9 b).2.1 := by decide +kernel
theorem tyX9_ok : ∀ k, k < 14 → parseFieldDescriptor (TX9 k).2.2.1 = some (tyX9 k) := by decide +kernel
def RX10 : String := "MockParcels$Whole"
def TX10 : u_T := fun k => match k with
  | 0 => ("MockParcels$Whole", "cast", "LMockParcels$Cast;", true)
  | 1 => ("MockParcels$Whole", "quay", "LMockParcels$Quay;", true)
  | 2 => ("MockParcels$Whole", "book", "[I", true)
  | 3 => ("MockParcels$Whole", "law", "LMockParcels$Law;", true)
  | 4 => ("MockParcels$Whole", "plans", "LMockParcels$Plans;", true)
  | _ => ("MockParcels$Whole", "told", "LMockParcels$Told;", true)
def tyX10 : Nat → FieldType := fun k => match k with
  | 0 => .object "MockParcels$Cast"
  | 1 => .object "MockParcels$Quay"
  | 2 => .array .int
  | 3 => .object "MockParcels$Law"
  | 4 => .object "MockParcels$Plans"
  | _ => .object "MockParcels$Told"
abbrev wsX100 : List Cond := u_ws RX10 TX10 6
theorem nmX10 : ∀ a, a < 6 → ∀ b, b < 6 → a ≠ b → (TX10 a).2.1 ≠ (TX10 b).2.1 := by decide +kernel
theorem tyX10_ok : ∀ k, k < 6 → parseFieldDescriptor (TX10 k).2.2.1 = some (tyX10 k) := by decide +kernel
def RX11 : String := "MockParcels"
def TX11 : u_T := fun k => match k with
  | 0 => ("MockParcels", "now", "LMockParcels$Whole;", true)
  | 1 => ("MockParcels", "kept", "LMockParcels$Whole;", true)
  | 2 => ("MockParcels", "past", "LMockParcels$Past;", true)
  | 3 => ("MockParcels", "dream", "LMockParcels$Quay;", true)
  | 4 => ("MockParcels", "auction", "LMockParcels$Auction;", true)
  | 5 => ("MockParcels", "thought", "LMockParcels$Auction;", true)
  | 6 => ("MockParcels", "reader", "LMockParcels$Reader;", true)
  | 7 => ("MockParcels", "parser", "LMockParcels$Parser;", true)
  | 8 => ("MockParcels", "sums", "LMockParcels$Sums;", true)
  | 9 => ("MockParcels", "taken", "Z", false)
  | 10 => ("MockParcels", "faultKind", "I", false)
  | _ => ("MockParcels", "faultPlace", "I", false)
def tyX11 : Nat → FieldType := fun k => match k with
  | 0 => .object "MockParcels$Whole"
  | 1 => .object "MockParcels$Whole"
  | 2 => .object "MockParcels$Past"
  | 3 => .object "MockParcels$Quay"
  | 4 => .object "MockParcels$Auction"
  | 5 => .object "MockParcels$Auction"
  | 6 => .object "MockParcels$Reader"
  | 7 => .object "MockParcels$Parser"
  | 8 => .object "MockParcels$Sums"
  | 9 => .boolean
  | 10 => .int
  | _ => .int
abbrev wsX110 : List Cond := u_ws RX11 TX11 12
theorem nmX11 : ∀ a, a < 12 → ∀ b, b < 12 → a ≠ b → (TX11 a).2.1 ≠ (TX11 b).2.1 := by decide +kernel
theorem tyX11_ok : ∀ k, k < 12 → parseFieldDescriptor (TX11 k).2.2.1 = some (tyX11 k) := by decide +kernel
def RX12 : String := "MockParcelsModel"
def TX12 : u_T := fun k => match k with
  | 0 => ("MockParcelsModel", "told", "I", false)
  | 1 => ("MockParcelsModel", "now", "[I", true)
  | 2 => ("MockParcelsModel", "rows", "[I", true)
  | 3 => ("MockParcelsModel", "undoable", "I", false)
  | 4 => ("MockParcelsModel", "waiting", "[I", true)
  | 5 => ("MockParcelsModel", "isThought", "Z", false)
  | 6 => ("MockParcelsModel", "parcels", "I", false)
  | 7 => ("MockParcelsModel", "bidders", "I", false)
  | 8 => ("MockParcelsModel", "weight", "[I", true)
  | 9 => ("MockParcelsModel", "rattle", "[I", true)
  | 10 => ("MockParcelsModel", "knots", "[I", true)
  | 11 => ("MockParcelsModel", "care", "[I", true)
  | 12 => ("MockParcelsModel", "isShill", "[I", true)
  | 13 => ("MockParcelsModel", "book", "[I", true)
  | 14 => ("MockParcelsModel", "tape", "[I", true)
  | 15 => ("MockParcelsModel", "taped", "I", false)
  | 16 => ("MockParcelsModel", "spot", "I", false)
  | 17 => ("MockParcelsModel", "from", "I", false)
  | 18 => ("MockParcelsModel", "token", "I", false)
  | 19 => ("MockParcelsModel", "value", "I", false)
  | 20 => ("MockParcelsModel", "words", "[I", true)
  | 21 => ("MockParcelsModel", "lineMany", "[I", true)
  | 22 => ("MockParcelsModel", "lineWord", "[I", true)
  | 23 => ("MockParcelsModel", "lineFrom", "[I", true)
  | 24 => ("MockParcelsModel", "lineWhen", "[I", true)
  | 25 => ("MockParcelsModel", "lineTo", "[I", true)
  | 26 => ("MockParcelsModel", "op", "[I", true)
  | 27 => ("MockParcelsModel", "arg", "[I", true)
  | 28 => ("MockParcelsModel", "which", "I", false)
  | 29 => ("MockParcelsModel", "codes", "I", false)
  | 30 => ("MockParcelsModel", "open", "I", false)
  | 31 => ("MockParcelsModel", "pending", "[I", true)
  | 32 => ("MockParcelsModel", "pendings", "I", false)
  | 33 => ("MockParcelsModel", "readFault", "I", false)
  | 34 => ("MockParcelsModel", "readPlace", "I", false)
  | 35 => ("MockParcelsModel", "faultKind", "I", false)
  | 36 => ("MockParcelsModel", "faultPlace", "I", false)
  | 37 => ("MockParcelsModel", "followMany", "I", false)
  | 38 => ("MockParcelsModel", "followUp", "[I", true)
  | 39 => ("MockParcelsModel", "deedMany", "I", false)
  | 40 => ("MockParcelsModel", "deeds", "[I", true)
  | 41 => ("MockParcelsModel", "wantMany", "I", false)
  | 42 => ("MockParcelsModel", "wants", "[I", true)
  | 43 => ("MockParcelsModel", "asked", "[I", true)
  | 44 => ("MockParcelsModel", "stack", "[I", true)
  | 45 => ("MockParcelsModel", "price", "I", false)
  | 46 => ("MockParcelsModel", "buyer", "I", false)
  | 47 => ("MockParcelsModel", "roundMany", "I", false)
  | 48 => ("MockParcelsModel", "kindWeight", "[I", true)
  | 49 => ("MockParcelsModel", "waysTo", "[I", true)
  | 50 => ("MockParcelsModel", "fewTo", "[I", true)
  | 51 => ("MockParcelsModel", "coinMany", "I", false)
  | 52 => ("MockParcelsModel", "coins", "[I", true)
  | 53 => ("MockParcelsModel", "lengthMany", "I", false)
  | 54 => ("MockParcelsModel", "lengths", "[I", true)
  | 55 => ("MockParcelsModel", "strung", "[I", true)
  | 56 => ("MockParcelsModel", "rankBut", "[I", true)
  | 57 => ("MockParcelsModel", "gotUp", "[I", true)
  | 58 => ("MockParcelsModel", "wishedFrom", "[I", true)
  | 59 => ("MockParcelsModel", "putMany", "I", false)
  | 60 => ("MockParcelsModel", "putPrice", "[I", true)
  | 61 => ("MockParcelsModel", "putDay", "[I", true)
  | 62 => ("MockParcelsModel", "clueMany", "I", false)
  | 63 => ("MockParcelsModel", "clueSet", "[I", true)
  | 64 => ("MockParcelsModel", "clueIs", "[I", true)
  | 65 => ("MockParcelsModel", "dayMany", "I", false)
  | 66 => ("MockParcelsModel", "dayTold", "[I", true)
  | 67 => ("MockParcelsModel", "nimbers", "[I", true)
  | 68 => ("MockParcelsModel", "isTaking", "Z", false)
  | 69 => ("MockParcelsModel", "hasImage", "Z", false)
  | 70 => ("MockParcelsModel", "keptAt", "I", false)
  | _ => ("MockParcelsModel", "images", "[I", true)
def tyX12 : Nat → FieldType := fun k => match k with
  | 0 => .int
  | 1 => .array .int
  | 2 => .array .int
  | 3 => .int
  | 4 => .array .int
  | 5 => .boolean
  | 6 => .int
  | 7 => .int
  | 8 => .array .int
  | 9 => .array .int
  | 10 => .array .int
  | 11 => .array .int
  | 12 => .array .int
  | 13 => .array .int
  | 14 => .array .int
  | 15 => .int
  | 16 => .int
  | 17 => .int
  | 18 => .int
  | 19 => .int
  | 20 => .array .int
  | 21 => .array .int
  | 22 => .array .int
  | 23 => .array .int
  | 24 => .array .int
  | 25 => .array .int
  | 26 => .array .int
  | 27 => .array .int
  | 28 => .int
  | 29 => .int
  | 30 => .int
  | 31 => .array .int
  | 32 => .int
  | 33 => .int
  | 34 => .int
  | 35 => .int
  | 36 => .int
  | 37 => .int
  | 38 => .array .int
  | 39 => .int
  | 40 => .array .int
  | 41 => .int
  | 42 => .array .int
  | 43 => .array .int
  | 44 => .array .int
  | 45 => .int
  | 46 => .int
  | 47 => .int
  | 48 => .array .int
  | 49 => .array .int
  | 50 => .array .int
  | 51 => .int
  | 52 => .array .int
  | 53 => .int
  | 54 => .array .int
  | 55 => .array .int
  | 56 => .array .int
  | 57 => .array .int
  | 58 => .array .int
  | 59 => .int
  | 60 => .array .int
  | 61 => .array .int
  | 62 => .int
  | 63 => .array .int
  | 64 => .array .int
  | 65 => .int
  | 66 => .array .int
  | 67 => .array .int
  | 68 => .boolean
  | 69 => .boolean
  | 70 => .int
  | _ => .array .int
abbrev wsX120 : List Cond := u_ws RX12 TX12 72
theorem nmX12 : ∀ a, a < 72 → ∀ b, b < 72 → a ≠ b → (TX12 a).2.1 ≠ (TX12 b).2.1 := by decide +kernel
theorem tyX12_ok : ∀ k, k < 72 → parseFieldDescriptor (TX12 k).2.2.1 = some (tyX12 k) := by decide +kernel
abbrev fx_cl : List vw_C := [(RX0, TX0, 9), (RX1, TX1, 7), (RX2, TX2, 8), (RX3, TX3, 5), (RX4, TX4, 3), (RX5, TX5, 9), (RX6, TX6, 13), (RX7, TX7, 9), (RX8, TX8, 7), (RX9, TX9, 14), (RX10, TX10, 6), (RX11, TX11, 12), (RX12, TX12, 72)]
def fx_all : List Cond := lw_tbl.filter goodWord
theorem fx_in {w : Cond} (h : w ∈ tables_1) (hg : goodWord w = true) : w ∈ fx_all := List.mem_filter.mpr ⟨List.mem_append_right _ h, hg⟩
theorem fx_s1 {w : Cond} (h : w ∈ tables_1_1) (hg : goodWord w = true) : w ∈ fx_all := fx_in (List.mem_append_left _ h) hg
theorem fx_s2 {w : Cond} (h : w ∈ tables_1_2) (hg : goodWord w = true) : w ∈ fx_all := fx_in (List.mem_append_right _ (List.mem_append_left _ h)) hg
theorem fx_s3 {w : Cond} (h : w ∈ tables_1_3) (hg : goodWord w = true) : w ∈ fx_all := fx_in (List.mem_append_right _ (List.mem_append_right _ (List.mem_append_left _ h))) hg
theorem fx_s4 {w : Cond} (h : w ∈ tables_1_4) (hg : goodWord w = true) : w ∈ fx_all := fx_in (List.mem_append_right _ (List.mem_append_right _ (List.mem_append_right _ (List.mem_append_left _ h)))) hg
theorem fx_s5 {w : Cond} (h : w ∈ tables_1_5) (hg : goodWord w = true) : w ∈ fx_all := fx_in (List.mem_append_right _ (List.mem_append_right _ (List.mem_append_right _ (List.mem_append_right _ (List.mem_append_left _ h))))) hg
theorem fx_s6 {w : Cond} (h : w ∈ tables_1_6) (hg : goodWord w = true) : w ∈ fx_all := fx_in (List.mem_append_right _ (List.mem_append_right _ (List.mem_append_right _ (List.mem_append_right _ (List.mem_append_right _ (List.mem_append_left _ h)))))) hg
theorem fx_s7 {w : Cond} (h : w ∈ tables_1_7) (hg : goodWord w = true) : w ∈ fx_all := fx_in (List.mem_append_right _ (List.mem_append_right _ (List.mem_append_right _ (List.mem_append_right _ (List.mem_append_right _ (List.mem_append_right _ (List.mem_append_left _ h))))))) hg
theorem fx_s8 {w : Cond} (h : w ∈ tables_1_8) (hg : goodWord w = true) : w ∈ fx_all := fx_in (List.mem_append_right _ (List.mem_append_right _ (List.mem_append_right _ (List.mem_append_right _ (List.mem_append_right _ (List.mem_append_right _ (List.mem_append_right _ (List.mem_append_left _ h)))))))) hg
theorem fx_s9 {w : Cond} (h : w ∈ tables_1_9) (hg : goodWord w = true) : w ∈ fx_all := fx_in (List.mem_append_right _ (List.mem_append_right _ (List.mem_append_right _ (List.mem_append_right _ (List.mem_append_right _ (List.mem_append_right _ (List.mem_append_right _ (List.mem_append_right _ h)))))))) hg
theorem fx_sel {q : MethodName × Nat} (h : q ∈ lw_privs) : Cond.selects q.1.cls q.1 q.1 ∈ fx_all := List.mem_filter.mpr ⟨List.mem_append_left _ (List.mem_map.mpr ⟨q, h, rfl⟩), rfl⟩
theorem fx_good : ∀ w ∈ fx_all, goodWord w = true := fun _ h => (List.mem_filter.mp h).2
theorem inX0 : ∀ w ∈ wsX00, w ∈ fx_all := by
  intro w h
  obtain ⟨k, hk, rfl⟩ := List.mem_map.mp h
  have hk := List.mem_range.mp hk
  match k, hk with
  | 0, _ => exact (fx_s2 (List.mem_of_getElem? (i := 139) rfl) rfl)
  | 1, _ => exact (fx_s2 (List.mem_of_getElem? (i := 141) rfl) rfl)
  | 2, _ => exact (fx_s2 (List.mem_of_getElem? (i := 143) rfl) rfl)
  | 3, _ => exact (fx_s2 (List.mem_of_getElem? (i := 145) rfl) rfl)
  | 4, _ => exact (fx_s2 (List.mem_of_getElem? (i := 147) rfl) rfl)
  | 5, _ => exact (fx_s2 (List.mem_of_getElem? (i := 149) rfl) rfl)
  | 6, _ => exact (fx_s2 (List.mem_of_getElem? (i := 151) rfl) rfl)
  | 7, _ => exact (fx_s2 (List.mem_of_getElem? (i := 153) rfl) rfl)
  | 8, _ => exact (fx_s2 (List.mem_of_getElem? (i := 155) rfl) rfl)
  | k + 9, hk => exact absurd hk (by omega)
theorem inX1 : ∀ w ∈ wsX10, w ∈ fx_all := by
  intro w h
  obtain ⟨k, hk, rfl⟩ := List.mem_map.mp h
  have hk := List.mem_range.mp hk
  match k, hk with
  | 0, _ => exact (fx_s1 (List.mem_of_getElem? (i := 65) rfl) rfl)
  | 1, _ => exact (fx_s1 (List.mem_of_getElem? (i := 67) rfl) rfl)
  | 2, _ => exact (fx_s1 (List.mem_of_getElem? (i := 69) rfl) rfl)
  | 3, _ => exact (fx_s1 (List.mem_of_getElem? (i := 71) rfl) rfl)
  | 4, _ => exact (fx_s1 (List.mem_of_getElem? (i := 73) rfl) rfl)
  | 5, _ => exact (fx_s1 (List.mem_of_getElem? (i := 75) rfl) rfl)
  | 6, _ => exact (fx_s1 (List.mem_of_getElem? (i := 77) rfl) rfl)
  | k + 7, hk => exact absurd hk (by omega)
theorem inX2 : ∀ w ∈ wsX20, w ∈ fx_all := by
  intro w h
  obtain ⟨k, hk, rfl⟩ := List.mem_map.mp h
  have hk := List.mem_range.mp hk
  match k, hk with
  | 0, _ => exact (fx_s1 (List.mem_of_getElem? (i := 173) rfl) rfl)
  | 1, _ => exact (fx_s1 (List.mem_of_getElem? (i := 175) rfl) rfl)
  | 2, _ => exact (fx_s1 (List.mem_of_getElem? (i := 177) rfl) rfl)
  | 3, _ => exact (fx_s1 (List.mem_of_getElem? (i := 179) rfl) rfl)
  | 4, _ => exact (fx_s1 (List.mem_of_getElem? (i := 181) rfl) rfl)
  | 5, _ => exact (fx_s1 (List.mem_of_getElem? (i := 183) rfl) rfl)
  | 6, _ => exact (fx_s1 (List.mem_of_getElem? (i := 185) rfl) rfl)
  | 7, _ => exact (fx_s1 (List.mem_of_getElem? (i := 187) rfl) rfl)
  | k + 8, hk => exact absurd hk (by omega)
theorem inX3 : ∀ w ∈ wsX30, w ∈ fx_all := by
  intro w h
  obtain ⟨k, hk, rfl⟩ := List.mem_map.mp h
  have hk := List.mem_range.mp hk
  match k, hk with
  | 0, _ => exact (fx_s2 (List.mem_of_getElem? (i := 213) rfl) rfl)
  | 1, _ => exact (fx_s2 (List.mem_of_getElem? (i := 215) rfl) rfl)
  | 2, _ => exact (fx_s2 (List.mem_of_getElem? (i := 217) rfl) rfl)
  | 3, _ => exact (fx_s2 (List.mem_of_getElem? (i := 219) rfl) rfl)
  | 4, _ => exact (fx_s2 (List.mem_of_getElem? (i := 221) rfl) rfl)
  | k + 5, hk => exact absurd hk (by omega)
theorem inX4 : ∀ w ∈ wsX40, w ∈ fx_all := by
  intro w h
  obtain ⟨k, hk, rfl⟩ := List.mem_map.mp h
  have hk := List.mem_range.mp hk
  match k, hk with
  | 0, _ => exact (fx_s2 (List.mem_of_getElem? (i := 112) rfl) rfl)
  | 1, _ => exact (fx_s2 (List.mem_of_getElem? (i := 114) rfl) rfl)
  | 2, _ => exact (fx_s2 (List.mem_of_getElem? (i := 116) rfl) rfl)
  | k + 3, hk => exact absurd hk (by omega)
theorem inX5 : ∀ w ∈ wsX50, w ∈ fx_all := by
  intro w h
  obtain ⟨k, hk, rfl⟩ := List.mem_map.mp h
  have hk := List.mem_range.mp hk
  match k, hk with
  | 0, _ => exact (fx_s1 (List.mem_of_getElem? (i := 218) rfl) rfl)
  | 1, _ => exact (fx_s1 (List.mem_of_getElem? (i := 220) rfl) rfl)
  | 2, _ => exact (fx_s1 (List.mem_of_getElem? (i := 222) rfl) rfl)
  | 3, _ => exact (fx_s1 (List.mem_of_getElem? (i := 224) rfl) rfl)
  | 4, _ => exact (fx_s1 (List.mem_of_getElem? (i := 226) rfl) rfl)
  | 5, _ => exact (fx_s1 (List.mem_of_getElem? (i := 228) rfl) rfl)
  | 6, _ => exact (fx_s1 (List.mem_of_getElem? (i := 230) rfl) rfl)
  | 7, _ => exact (fx_s1 (List.mem_of_getElem? (i := 232) rfl) rfl)
  | 8, _ => exact (fx_s1 (List.mem_of_getElem? (i := 234) rfl) rfl)
  | k + 9, hk => exact absurd hk (by omega)
theorem inX6 : ∀ w ∈ wsX60, w ∈ fx_all := by
  intro w h
  obtain ⟨k, hk, rfl⟩ := List.mem_map.mp h
  have hk := List.mem_range.mp hk
  match k, hk with
  | 0, _ => exact (fx_s1 (List.mem_of_getElem? (i := 129) rfl) rfl)
  | 1, _ => exact (fx_s1 (List.mem_of_getElem? (i := 131) rfl) rfl)
  | 2, _ => exact (fx_s1 (List.mem_of_getElem? (i := 133) rfl) rfl)
  | 3, _ => exact (fx_s1 (List.mem_of_getElem? (i := 135) rfl) rfl)
  | 4, _ => exact (fx_s1 (List.mem_of_getElem? (i := 137) rfl) rfl)
  | 5, _ => exact (fx_s1 (List.mem_of_getElem? (i := 139) rfl) rfl)
  | 6, _ => exact (fx_s1 (List.mem_of_getElem? (i := 141) rfl) rfl)
  | 7, _ => exact (fx_s1 (List.mem_of_getElem? (i := 143) rfl) rfl)
  | 8, _ => exact (fx_s1 (List.mem_of_getElem? (i := 145) rfl) rfl)
  | 9, _ => exact (fx_s1 (List.mem_of_getElem? (i := 147) rfl) rfl)
  | 10, _ => exact (fx_s1 (List.mem_of_getElem? (i := 149) rfl) rfl)
  | 11, _ => exact (fx_s1 (List.mem_of_getElem? (i := 151) rfl) rfl)
  | 12, _ => exact (fx_s1 (List.mem_of_getElem? (i := 153) rfl) rfl)
  | k + 13, hk => exact absurd hk (by omega)
theorem inX7 : ∀ w ∈ wsX70, w ∈ fx_all := by
  intro w h
  obtain ⟨k, hk, rfl⟩ := List.mem_map.mp h
  have hk := List.mem_range.mp hk
  match k, hk with
  | 0, _ => exact (fx_s2 (List.mem_of_getElem? (i := 177) rfl) rfl)
  | 1, _ => exact (fx_s2 (List.mem_of_getElem? (i := 179) rfl) rfl)
  | 2, _ => exact (fx_s2 (List.mem_of_getElem? (i := 181) rfl) rfl)
  | 3, _ => exact (fx_s2 (List.mem_of_getElem? (i := 183) rfl) rfl)
  | 4, _ => exact (fx_s2 (List.mem_of_getElem? (i := 185) rfl) rfl)
  | 5, _ => exact (fx_s2 (List.mem_of_getElem? (i := 187) rfl) rfl)
  | 6, _ => exact (fx_s2 (List.mem_of_getElem? (i := 189) rfl) rfl)
  | 7, _ => exact (fx_s2 (List.mem_of_getElem? (i := 191) rfl) rfl)
  | 8, _ => exact (fx_s2 (List.mem_of_getElem? (i := 193) rfl) rfl)
  | k + 9, hk => exact absurd hk (by omega)
theorem inX8 : ∀ w ∈ wsX80, w ∈ fx_all := by
  intro w h
  obtain ⟨k, hk, rfl⟩ := List.mem_map.mp h
  have hk := List.mem_range.mp hk
  match k, hk with
  | 0, _ => exact (fx_s3 (List.mem_of_getElem? (i := 0) rfl) rfl)
  | 1, _ => exact (fx_s3 (List.mem_of_getElem? (i := 2) rfl) rfl)
  | 2, _ => exact (fx_s3 (List.mem_of_getElem? (i := 4) rfl) rfl)
  | 3, _ => exact (fx_s3 (List.mem_of_getElem? (i := 6) rfl) rfl)
  | 4, _ => exact (fx_s3 (List.mem_of_getElem? (i := 8) rfl) rfl)
  | 5, _ => exact (fx_s3 (List.mem_of_getElem? (i := 10) rfl) rfl)
  | 6, _ => exact (fx_s3 (List.mem_of_getElem? (i := 12) rfl) rfl)
  | k + 7, hk => exact absurd hk (by omega)
theorem inX9 : ∀ w ∈ wsX90, w ∈ fx_all := by
  intro w h
  obtain ⟨k, hk, rfl⟩ := List.mem_map.mp h
  have hk := List.mem_range.mp hk
  match k, hk with
  | 0, _ => exact (fx_s2 (List.mem_of_getElem? (i := 41) rfl) rfl)
  | 1, _ => exact (fx_s2 (List.mem_of_getElem? (i := 43) rfl) rfl)
  | 2, _ => exact (fx_s2 (List.mem_of_getElem? (i := 45) rfl) rfl)
  | 3, _ => exact (fx_s2 (List.mem_of_getElem? (i := 47) rfl) rfl)
  | 4, _ => exact (fx_s2 (List.mem_of_getElem? (i := 49) rfl) rfl)
  | 5, _ => exact (fx_s2 (List.mem_of_getElem? (i := 51) rfl) rfl)
  | 6, _ => exact (fx_s2 (List.mem_of_getElem? (i := 53) rfl) rfl)
  | 7, _ => exact (fx_s2 (List.mem_of_getElem? (i := 55) rfl) rfl)
  | 8, _ => exact (fx_s2 (List.mem_of_getElem? (i := 57) rfl) rfl)
  | 9, _ => exact (fx_s2 (List.mem_of_getElem? (i := 59) rfl) rfl)
  | 10, _ => exact (fx_s2 (List.mem_of_getElem? (i := 61) rfl) rfl)
  | 11, _ => exact (fx_s2 (List.mem_of_getElem? (i := 63) rfl) rfl)
  | 12, _ => exact (fx_s2 (List.mem_of_getElem? (i := 65) rfl) rfl)
  | 13, _ => exact (fx_s2 (List.mem_of_getElem? (i := 67) rfl) rfl)
  | k + 14, hk => exact absurd hk (by omega)
theorem inX10 : ∀ w ∈ wsX100, w ∈ fx_all := by
  intro w h
  obtain ⟨k, hk, rfl⟩ := List.mem_map.mp h
  have hk := List.mem_range.mp hk
  match k, hk with
  | 0, _ => exact (fx_s2 (List.mem_of_getElem? (i := 86) rfl) rfl)
  | 1, _ => exact (fx_s2 (List.mem_of_getElem? (i := 88) rfl) rfl)
  | 2, _ => exact (fx_s2 (List.mem_of_getElem? (i := 90) rfl) rfl)
  | 3, _ => exact (fx_s2 (List.mem_of_getElem? (i := 92) rfl) rfl)
  | 4, _ => exact (fx_s2 (List.mem_of_getElem? (i := 94) rfl) rfl)
  | 5, _ => exact (fx_s2 (List.mem_of_getElem? (i := 96) rfl) rfl)
  | k + 6, hk => exact absurd hk (by omega)
theorem inX11 : ∀ w ∈ wsX110, w ∈ fx_all := by
  intro w h
  obtain ⟨k, hk, rfl⟩ := List.mem_map.mp h
  have hk := List.mem_range.mp hk
  match k, hk with
  | 0, _ => exact (fx_s3 (List.mem_of_getElem? (i := 27) rfl) rfl)
  | 1, _ => exact (fx_s3 (List.mem_of_getElem? (i := 29) rfl) rfl)
  | 2, _ => exact (fx_s3 (List.mem_of_getElem? (i := 31) rfl) rfl)
  | 3, _ => exact (fx_s3 (List.mem_of_getElem? (i := 33) rfl) rfl)
  | 4, _ => exact (fx_s3 (List.mem_of_getElem? (i := 35) rfl) rfl)
  | 5, _ => exact (fx_s3 (List.mem_of_getElem? (i := 37) rfl) rfl)
  | 6, _ => exact (fx_s3 (List.mem_of_getElem? (i := 39) rfl) rfl)
  | 7, _ => exact (fx_s3 (List.mem_of_getElem? (i := 41) rfl) rfl)
  | 8, _ => exact (fx_s3 (List.mem_of_getElem? (i := 43) rfl) rfl)
  | 9, _ => exact (fx_s3 (List.mem_of_getElem? (i := 45) rfl) rfl)
  | 10, _ => exact (fx_s3 (List.mem_of_getElem? (i := 47) rfl) rfl)
  | 11, _ => exact (fx_s3 (List.mem_of_getElem? (i := 49) rfl) rfl)
  | k + 12, hk => exact absurd hk (by omega)
theorem inX12 : ∀ w ∈ wsX120, w ∈ fx_all := by
  intro w h
  obtain ⟨k, hk, rfl⟩ := List.mem_map.mp h
  have hk := List.mem_range.mp hk
  match k, hk with
  | 0, _ => exact (fx_s6 (List.mem_of_getElem? (i := 160) rfl) rfl)
  | 1, _ => exact (fx_s6 (List.mem_of_getElem? (i := 162) rfl) rfl)
  | 2, _ => exact (fx_s6 (List.mem_of_getElem? (i := 164) rfl) rfl)
  | 3, _ => exact (fx_s6 (List.mem_of_getElem? (i := 166) rfl) rfl)
  | 4, _ => exact (fx_s6 (List.mem_of_getElem? (i := 168) rfl) rfl)
  | 5, _ => exact (fx_s6 (List.mem_of_getElem? (i := 170) rfl) rfl)
  | 6, _ => exact (fx_s6 (List.mem_of_getElem? (i := 172) rfl) rfl)
  | 7, _ => exact (fx_s6 (List.mem_of_getElem? (i := 174) rfl) rfl)
  | 8, _ => exact (fx_s6 (List.mem_of_getElem? (i := 176) rfl) rfl)
  | 9, _ => exact (fx_s6 (List.mem_of_getElem? (i := 178) rfl) rfl)
  | 10, _ => exact (fx_s6 (List.mem_of_getElem? (i := 180) rfl) rfl)
  | 11, _ => exact (fx_s6 (List.mem_of_getElem? (i := 182) rfl) rfl)
  | 12, _ => exact (fx_s6 (List.mem_of_getElem? (i := 184) rfl) rfl)
  | 13, _ => exact (fx_s6 (List.mem_of_getElem? (i := 186) rfl) rfl)
  | 14, _ => exact (fx_s6 (List.mem_of_getElem? (i := 188) rfl) rfl)
  | 15, _ => exact (fx_s6 (List.mem_of_getElem? (i := 190) rfl) rfl)
  | 16, _ => exact (fx_s6 (List.mem_of_getElem? (i := 192) rfl) rfl)
  | 17, _ => exact (fx_s6 (List.mem_of_getElem? (i := 194) rfl) rfl)
  | 18, _ => exact (fx_s6 (List.mem_of_getElem? (i := 196) rfl) rfl)
  | 19, _ => exact (fx_s6 (List.mem_of_getElem? (i := 198) rfl) rfl)
  | 20, _ => exact (fx_s6 (List.mem_of_getElem? (i := 200) rfl) rfl)
  | 21, _ => exact (fx_s6 (List.mem_of_getElem? (i := 202) rfl) rfl)
  | 22, _ => exact (fx_s6 (List.mem_of_getElem? (i := 204) rfl) rfl)
  | 23, _ => exact (fx_s6 (List.mem_of_getElem? (i := 206) rfl) rfl)
  | 24, _ => exact (fx_s6 (List.mem_of_getElem? (i := 208) rfl) rfl)
  | 25, _ => exact (fx_s6 (List.mem_of_getElem? (i := 210) rfl) rfl)
  | 26, _ => exact (fx_s6 (List.mem_of_getElem? (i := 212) rfl) rfl)
  | 27, _ => exact (fx_s6 (List.mem_of_getElem? (i := 214) rfl) rfl)
  | 28, _ => exact (fx_s6 (List.mem_of_getElem? (i := 216) rfl) rfl)
  | 29, _ => exact (fx_s6 (List.mem_of_getElem? (i := 218) rfl) rfl)
  | 30, _ => exact (fx_s6 (List.mem_of_getElem? (i := 220) rfl) rfl)
  | 31, _ => exact (fx_s6 (List.mem_of_getElem? (i := 222) rfl) rfl)
  | 32, _ => exact (fx_s6 (List.mem_of_getElem? (i := 224) rfl) rfl)
  | 33, _ => exact (fx_s6 (List.mem_of_getElem? (i := 226) rfl) rfl)
  | 34, _ => exact (fx_s6 (List.mem_of_getElem? (i := 228) rfl) rfl)
  | 35, _ => exact (fx_s6 (List.mem_of_getElem? (i := 230) rfl) rfl)
  | 36, _ => exact (fx_s6 (List.mem_of_getElem? (i := 232) rfl) rfl)
  | 37, _ => exact (fx_s6 (List.mem_of_getElem? (i := 234) rfl) rfl)
  | 38, _ => exact (fx_s6 (List.mem_of_getElem? (i := 236) rfl) rfl)
  | 39, _ => exact (fx_s6 (List.mem_of_getElem? (i := 238) rfl) rfl)
  | 40, _ => exact (fx_s7 (List.mem_of_getElem? (i := 0) rfl) rfl)
  | 41, _ => exact (fx_s7 (List.mem_of_getElem? (i := 2) rfl) rfl)
  | 42, _ => exact (fx_s7 (List.mem_of_getElem? (i := 4) rfl) rfl)
  | 43, _ => exact (fx_s7 (List.mem_of_getElem? (i := 6) rfl) rfl)
  | 44, _ => exact (fx_s7 (List.mem_of_getElem? (i := 8) rfl) rfl)
  | 45, _ => exact (fx_s7 (List.mem_of_getElem? (i := 10) rfl) rfl)
  | 46, _ => exact (fx_s7 (List.mem_of_getElem? (i := 12) rfl) rfl)
  | 47, _ => exact (fx_s7 (List.mem_of_getElem? (i := 14) rfl) rfl)
  | 48, _ => exact (fx_s7 (List.mem_of_getElem? (i := 16) rfl) rfl)
  | 49, _ => exact (fx_s7 (List.mem_of_getElem? (i := 18) rfl) rfl)
  | 50, _ => exact (fx_s7 (List.mem_of_getElem? (i := 20) rfl) rfl)
  | 51, _ => exact (fx_s7 (List.mem_of_getElem? (i := 22) rfl) rfl)
  | 52, _ => exact (fx_s7 (List.mem_of_getElem? (i := 24) rfl) rfl)
  | 53, _ => exact (fx_s7 (List.mem_of_getElem? (i := 26) rfl) rfl)
  | 54, _ => exact (fx_s7 (List.mem_of_getElem? (i := 28) rfl) rfl)
  | 55, _ => exact (fx_s7 (List.mem_of_getElem? (i := 30) rfl) rfl)
  | 56, _ => exact (fx_s7 (List.mem_of_getElem? (i := 32) rfl) rfl)
  | 57, _ => exact (fx_s7 (List.mem_of_getElem? (i := 34) rfl) rfl)
  | 58, _ => exact (fx_s7 (List.mem_of_getElem? (i := 36) rfl) rfl)
  | 59, _ => exact (fx_s7 (List.mem_of_getElem? (i := 38) rfl) rfl)
  | 60, _ => exact (fx_s7 (List.mem_of_getElem? (i := 40) rfl) rfl)
  | 61, _ => exact (fx_s7 (List.mem_of_getElem? (i := 42) rfl) rfl)
  | 62, _ => exact (fx_s7 (List.mem_of_getElem? (i := 44) rfl) rfl)
  | 63, _ => exact (fx_s7 (List.mem_of_getElem? (i := 46) rfl) rfl)
  | 64, _ => exact (fx_s7 (List.mem_of_getElem? (i := 48) rfl) rfl)
  | 65, _ => exact (fx_s7 (List.mem_of_getElem? (i := 50) rfl) rfl)
  | 66, _ => exact (fx_s7 (List.mem_of_getElem? (i := 52) rfl) rfl)
  | 67, _ => exact (fx_s7 (List.mem_of_getElem? (i := 54) rfl) rfl)
  | 68, _ => exact (fx_s7 (List.mem_of_getElem? (i := 56) rfl) rfl)
  | 69, _ => exact (fx_s7 (List.mem_of_getElem? (i := 58) rfl) rfl)
  | 70, _ => exact (fx_s7 (List.mem_of_getElem? (i := 60) rfl) rfl)
  | 71, _ => exact (fx_s7 (List.mem_of_getElem? (i := 62) rfl) rfl)
  | k + 72, hk => exact absurd hk (by omega)
