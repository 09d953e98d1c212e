def RX0 : String := "SweptDownhill$Acts"
def TX0 : u_T := fun k => match k with
  | 0 => ("SweptDownhill$Acts", "minutes", "[I", true)
  | 1 => ("SweptDownhill$Acts", "places", "[I", true)
  | 2 => ("SweptDownhill$Acts", "kinds", "[I", true)
  | 3 => ("SweptDownhill$Acts", "amounts", "[I", true)
  | 4 => ("SweptDownhill$Acts", "most", "I", true)
  | _ => ("SweptDownhill$Acts", "size", "I", false)
def tyX0 : Nat → FieldType := fun k => match k with
  | 0 => .array .int
  | 1 => .array .int
  | 2 => .array .int
  | 3 => .array .int
  | 4 => .int
  | _ => .int
abbrev wsX00 : List Cond := u_ws RX0 TX0 6
theorem nmX0 : ∀ a, a < 6 → ∀ b, b < 6 → a ≠ b → (TX0 a).2.1 ≠ (TX0 b).2.1 := by decide +kernel
theorem tyX0_ok : ∀ k, k < 6 → parseFieldDescriptor (TX0 k).2.2.1 = some (tyX0 k) := by decide +kernel
def RX1 : String := "SweptDownhill$Course"
def TX1 : u_T := fun k => match k with
  | 0 => ("SweptDownhill$Course", "town", "LSweptDownhill$Town;", true)
  | 1 => ("SweptDownhill$Course", "law", "LSweptDownhill$Law;", true)
  | 2 => ("SweptDownhill$Course", "told", "LSweptDownhill$Told;", true)
  | 3 => ("SweptDownhill$Course", "heaps", "LSweptDownhill$Heaps;", true)
  | 4 => ("SweptDownhill$Course", "against", "I", false)
  | 5 => ("SweptDownhill$Course", "rainInNine", "I", false)
  | 6 => ("SweptDownhill$Course", "sweeps", "I", false)
  | 7 => ("SweptDownhill$Course", "uncarted", "I", false)
  | 8 => ("SweptDownhill$Course", "moreMinute", "I", false)
  | 9 => ("SweptDownhill$Course", "moreDoor", "I", false)
  | _ => ("SweptDownhill$Course", "moreKind", "I", false)
def tyX1 : Nat → FieldType := fun k => match k with
  | 0 => .object "SweptDownhill$Town"
  | 1 => .object "SweptDownhill$Law"
  | 2 => .object "SweptDownhill$Told"
  | 3 => .object "SweptDownhill$Heaps"
  | 4 => .int
  | 5 => .int
  | 6 => .int
  | 7 => .int
  | 8 => .int
  | 9 => .int
  | _ => .int
abbrev wsX10 : List Cond := u_ws RX1 TX1 11
theorem nmX1 : ∀ a, a < 11 → ∀ b, b < 11 → a ≠ b → (TX1 a).2.1 ≠ (TX1 b).2.1 := by decide +kernel
theorem tyX1_ok : ∀ k, k < 11 → parseFieldDescriptor (TX1 k).2.2.1 = some (tyX1 k) := by decide +kernel
def RX2 : String := "SweptDownhill$Heaps"
def TX2 : u_T := fun k => match k with
  | 0 => ("SweptDownhill$Heaps", "barrows", "[I", true)
  | _ => ("SweptDownhill$Heaps", "yards", "[I", true)
def tyX2 : Nat → FieldType := fun k => match k with
  | 0 => .array .int
  | _ => .array .int
abbrev wsX20 : List Cond := u_ws RX2 TX2 2
theorem nmX2 : ∀ a, a < 2 → ∀ b, b < 2 → a ≠ b → (TX2 a).2.1 ≠ (TX2 b).2.1 := by decide +kernel
theorem tyX2_ok : ∀ k, k < 2 → parseFieldDescriptor (TX2 k).2.2.1 = some (tyX2 k) := by decide +kernel
def RX3 : String := "SweptDownhill$Law"
def TX3 : u_T := fun k => match k with
  | 0 => ("SweptDownhill$Law", "rates", "[I", true)
  | 1 => ("SweptDownhill$Law", "holds", "[I", true)
  | 2 => ("SweptDownhill$Law", "prides", "[I", true)
  | _ => ("SweptDownhill$Law", "nine", "I", false)
def tyX3 : Nat → FieldType := fun k => match k with
  | 0 => .array .int
  | 1 => .array .int
  | 2 => .array .int
  | _ => .int
abbrev wsX30 : List Cond := u_ws RX3 TX3 4
theorem nmX3 : ∀ a, a < 4 → ∀ b, b < 4 → a ≠ b → (TX3 a).2.1 ≠ (TX3 b).2.1 := by decide +kernel
theorem tyX3_ok : ∀ k, k < 4 → parseFieldDescriptor (TX3 k).2.2.1 = some (tyX3 k) := by decide +kernel
def RX4 : String := "SweptDownhill$Search"
def TX4 : u_T := fun k => match k with
  | 0 => ("SweptDownhill$Search", "town", "LSweptDownhill$Town;", true)
  | 1 => ("SweptDownhill$Search", "law", "LSweptDownhill$Law;", true)
  | 2 => ("SweptDownhill$Search", "barrows", "[I", true)
  | 3 => ("SweptDownhill$Search", "worths", "[I", true)
  | 4 => ("SweptDownhill$Search", "carted", "[Z", true)
  | 5 => ("SweptDownhill$Search", "row", "[I", true)
  | 6 => ("SweptDownhill$Search", "bestRow", "[I", true)
  | 7 => ("SweptDownhill$Search", "bestSize", "I", false)
  | 8 => ("SweptDownhill$Search", "fines", "I", false)
  | _ => ("SweptDownhill$Search", "leastFines", "I", false)
def tyX4 : Nat → FieldType := fun k => match k with
  | 0 => .object "SweptDownhill$Town"
  | 1 => .object "SweptDownhill$Law"
  | 2 => .array .int
  | 3 => .array .int
  | 4 => .array .boolean
  | 5 => .array .int
  | 6 => .array .int
  | 7 => .int
  | 8 => .int
  | _ => .int
abbrev wsX40 : List Cond := u_ws RX4 TX4 10
theorem nmX4 : ∀ a, a < 10 → ∀ b, b < 10 → a ≠ b → (TX4 a).2.1 ≠ (TX4 b).2.1 := by decide +kernel
theorem tyX4_ok : ∀ k, k < 10 → parseFieldDescriptor (TX4 k).2.2.1 = some (tyX4 k) := by decide +kernel
def RX5 : String := "SweptDownhill$Sheet"
def TX5 : u_T := fun k => match k with
  | 0 => ("SweptDownhill$Sheet", "items", "[I", true)
  | 1 => ("SweptDownhill$Sheet", "form", "I", false)
  | _ => ("SweptDownhill$Sheet", "size", "I", false)
def tyX5 : Nat → FieldType := fun k => match k with
  | 0 => .array .int
  | 1 => .int
  | _ => .int
abbrev wsX50 : List Cond := u_ws RX5 TX5 3
theorem nmX5 : ∀ a, a < 3 → ∀ b, b < 3 → a ≠ b → (TX5 a).2.1 ≠ (TX5 b).2.1 := by decide +kernel
theorem tyX5_ok : ∀ k, k < 3 → parseFieldDescriptor (TX5 k).2.2.1 = some (tyX5 k) := by decide +kernel
def RX6 : String := "SweptDownhill$Text"
def TX6 : u_T := fun k => match k with
  | 0 => ("SweptDownhill$Text", "bytes", "[I", true)
  | 1 => ("SweptDownhill$Text", "most", "I", true)
  | _ => ("SweptDownhill$Text", "size", "I", false)
def tyX6 : Nat → FieldType := fun k => match k with
  | 0 => .array .int
  | 1 => .int
  | _ => .int
abbrev wsX60 : List Cond := u_ws RX6 TX6 3
theorem nmX6 : ∀ a, a < 3 → ∀ b, b < 3 → a ≠ b → (TX6 a).2.1 ≠ (TX6 b).2.1 := by decide +kernel
theorem tyX6_ok : ∀ k, k < 3 → parseFieldDescriptor (TX6 k).2.2.1 = some (tyX6 k) := by decide +kernel
def RX7 : String := "SweptDownhill$Told"
def TX7 : u_T := fun k => match k with
  | 0 => ("SweptDownhill$Told", "falls", "LSweptDownhill$Acts;", true)
  | 1 => ("SweptDownhill$Told", "sweeps", "LSweptDownhill$Acts;", true)
  | 2 => ("SweptDownhill$Told", "carts", "LSweptDownhill$Acts;", true)
  | _ => ("SweptDownhill$Told", "rains", "[I", true)
def tyX7 : Nat → FieldType := fun k => match k with
  | 0 => .object "SweptDownhill$Acts"
  | 1 => .object "SweptDownhill$Acts"
  | 2 => .object "SweptDownhill$Acts"
  | _ => .array .int
abbrev wsX70 : List Cond := u_ws RX7 TX7 4
theorem nmX7 : ∀ a, a < 4 → ∀ b, b < 4 → a ≠ b → (TX7 a).2.1 ≠ (TX7 b).2.1 := by decide +kernel
theorem tyX7_ok : ∀ k, k < 4 → parseFieldDescriptor (TX7 k).2.2.1 = some (tyX7 k) := by decide +kernel
def RX8 : String := "SweptDownhill$Town"
def TX8 : u_T := fun k => match k with
  | 0 => ("SweptDownhill$Town", "doorText", "LSweptDownhill$Text;", true)
  | 1 => ("SweptDownhill$Town", "streetText", "LSweptDownhill$Text;", true)
  | 2 => ("SweptDownhill$Town", "heights", "[I", true)
  | 3 => ("SweptDownhill$Town", "uppers", "[I", true)
  | 4 => ("SweptDownhill$Town", "lowers", "[I", true)
  | 5 => ("SweptDownhill$Town", "doorsDownhill", "[I", true)
  | 6 => ("SweptDownhill$Town", "streetsDownhill", "[I", true)
  | 7 => ("SweptDownhill$Town", "firstStreets", "[I", true)
  | 8 => ("SweptDownhill$Town", "doors", "I", false)
  | 9 => ("SweptDownhill$Town", "streets", "I", false)
  | 10 => ("SweptDownhill$Town", "doorFault", "I", false)
  | _ => ("SweptDownhill$Town", "streetFault", "I", false)
def tyX8 : Nat → FieldType := fun k => match k with
  | 0 => .object "SweptDownhill$Text"
  | 1 => .object "SweptDownhill$Text"
  | 2 => .array .int
  | 3 => .array .int
  | 4 => .array .int
  | 5 => .array .int
  | 6 => .array .int
  | 7 => .array .int
  | 8 => .int
  | 9 => .int
  | 10 => .int
  | _ => .int
abbrev wsX80 : List Cond := u_ws RX8 TX8 12
theorem nmX8 : ∀ a, a < 12 → ∀ b, b < 12 → a ≠ b → (TX8 a).2.1 ≠ (TX8 b).2.1 := by decide +kernel
theorem tyX8_ok : ∀ k, k < 12 → parseFieldDescriptor (TX8 k).2.2.1 = some (tyX8 k) := by decide +kernel
def RX9 : String := "SweptDownhill"
def TX9 : u_T := fun k => match k with
  | 0 => ("SweptDownhill", "town", "LSweptDownhill$Town;", true)
  | 1 => ("SweptDownhill", "law", "LSweptDownhill$Law;", true)
  | 2 => ("SweptDownhill", "told", "LSweptDownhill$Told;", true)
  | 3 => ("SweptDownhill", "course", "LSweptDownhill$Course;", true)
  | 4 => ("SweptDownhill", "trial", "LSweptDownhill$Course;", true)
  | 5 => ("SweptDownhill", "search", "LSweptDownhill$Search;", true)
  | 6 => ("SweptDownhill", "sheets", "[LSweptDownhill$Sheet;", true)
  | _ => ("SweptDownhill", "finding", "I", false)
def tyX9 : Nat → FieldType := fun k => match k with
  | 0 => .object "SweptDownhill$Town"
  | 1 => .object "SweptDownhill$Law"
  | 2 => .object "SweptDownhill$Told"
  | 3 => .object "SweptDownhill$Course"
  | 4 => .object "SweptDownhill$Course"
  | 5 => .object "SweptDownhill$Search"
  | 6 => .array (.object "SweptDownhill$Sheet")
  | _ => .int
abbrev wsX90 : List Cond := u_ws RX9 TX9 8
theorem nmX9 : ∀ a, a < 8 → ∀ b, b < 8 → a ≠ b → (TX9 a).2.1 ≠ (TX9 b).2.1 := by decide +kernel
theorem tyX9_ok : ∀ k, k < 8 → parseFieldDescriptor (TX9 k).2.2.1 = some (tyX9 k) := by decide +kernel
def RX10 : String := "SweptDownhillModel"
def TX10 : u_T := fun k => match k with
  | 0 => ("SweptDownhillModel", "typed", "[I", true)
  | 1 => ("SweptDownhillModel", "texts", "[I", true)
  | 2 => ("SweptDownhillModel", "doors", "I", false)
  | 3 => ("SweptDownhillModel", "heights", "[I", true)
  | 4 => ("SweptDownhillModel", "streets", "I", false)
  | 5 => ("SweptDownhillModel", "upper", "[I", true)
  | 6 => ("SweptDownhillModel", "lower", "[I", true)
  | 7 => ("SweptDownhillModel", "rates", "[I", true)
  | 8 => ("SweptDownhillModel", "holds", "[I", true)
  | 9 => ("SweptDownhillModel", "prides", "[I", true)
  | 10 => ("SweptDownhillModel", "nine", "I", false)
  | 11 => ("SweptDownhillModel", "falls", "I", false)
  | 12 => ("SweptDownhillModel", "fallMinute", "[I", true)
  | 13 => ("SweptDownhillModel", "fallDoor", "[I", true)
  | 14 => ("SweptDownhillModel", "fallKind", "[I", true)
  | 15 => ("SweptDownhillModel", "fallMany", "[I", true)
  | 16 => ("SweptDownhillModel", "sweeps", "I", false)
  | 17 => ("SweptDownhillModel", "sweepMinute", "[I", true)
  | 18 => ("SweptDownhillModel", "sweepStreet", "[I", true)
  | 19 => ("SweptDownhillModel", "carts", "I", false)
  | 20 => ("SweptDownhillModel", "cartMinute", "[I", true)
  | 21 => ("SweptDownhillModel", "cartDoor", "[I", true)
  | 22 => ("SweptDownhillModel", "rains", "[I", true)
  | 23 => ("SweptDownhillModel", "lie", "[I", true)
  | 24 => ("SweptDownhillModel", "from", "[I", true)
  | 25 => ("SweptDownhillModel", "judgedBy", "I", false)
  | 26 => ("SweptDownhillModel", "rowMany", "I", false)
  | 27 => ("SweptDownhillModel", "row", "[I", true)
  | 28 => ("SweptDownhillModel", "rowHeld", "Z", false)
  | 29 => ("SweptDownhillModel", "isThere", "[Z", true)
  | 30 => ("SweptDownhillModel", "forms", "[I", true)
  | 31 => ("SweptDownhillModel", "sizes", "[I", true)
  | 32 => ("SweptDownhillModel", "items", "[I", true)
  | 33 => ("SweptDownhillModel", "moved", "[I", true)
  | _ => ("SweptDownhillModel", "finding", "I", false)
def tyX10 : Nat → FieldType := fun k => match k with
  | 0 => .array .int
  | 1 => .array .int
  | 2 => .int
  | 3 => .array .int
  | 4 => .int
  | 5 => .array .int
  | 6 => .array .int
  | 7 => .array .int
  | 8 => .array .int
  | 9 => .array .int
  | 10 => .int
  | 11 => .int
  | 12 => .array .int
  | 13 => .array .int
  | 14 => .array .int
  | 15 => .array .int
  | 16 => .int
  | 17 => .array .int
  | 18 => .array .int
  | 19 => .int
  | 20 => .array .int
  | 21 => .array .int
  | 22 => .array .int
  | 23 => .array .int
  | 24 => .array .int
  | 25 => .int
  | 26 => .int
  | 27 => .array .int
  | 28 => .boolean
  | 29 => .array .boolean
  | 30 => .array .int
  | 31 => .array .int
  | 32 => .array .int
  | 33 => .array .int
  | _ => .int
abbrev wsX100 : List Cond := u_ws RX10 TX10 35
theorem nmX10 : ∀ a, a < 35 → ∀ b, b < 35 → a ≠ b → (TX10 a).2.1 ≠ (TX10 b).2.1 := by decide +kernel
theorem tyX10_ok : ∀ k, k < 35 → parseFieldDescriptor (TX10 k).2.2.1 = some (tyX10 k) := by decide +kernel
abbrev vwCl : List vw_C := [(RX0, TX0, 6), (RX1, TX1, 11), (RX2, TX2, 2), (RX3, TX3, 4), (RX4, TX4, 10), (RX5, TX5, 3), (RX6, TX6, 3), (RX7, TX7, 4), (RX8, TX8, 12), (RX9, TX9, 8), (RX10, TX10, 35)]
