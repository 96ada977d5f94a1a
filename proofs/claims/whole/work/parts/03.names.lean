def RX0 : String := "ShiftRing$Entry"
def TX0 : u_T := fun k => match k with
  | 0 => ("ShiftRing$Entry", "key", "I", false)
  | 1 => ("ShiftRing$Entry", "newest", "I", false)
  | 2 => ("ShiftRing$Entry", "values", "[I", true)
  | _ => ("ShiftRing$Entry", "versions", "[I", true)
def tyX0 : Nat → FieldType := fun k => match k with
  | 0 => .int
  | 1 => .int
  | 2 => .array .int
  | _ => .array .int
abbrev wsX00 : List Cond := u_ws RX0 TX0 4
theorem nmX0 : ∀ a, a < 4 → ∀ b, b < 4 → a ≠ b → (TX0 a).2.1 ≠ (TX0 b).2.1 := by decide +kernel
theorem tyX0_ok : ∀ k, k < 4 → parseFieldDescriptor (TX0 k).2.2.1 = some (tyX0 k) := by decide +kernel
def RX1 : String := "ShiftRing$Forecast"
def TX1 : u_T := fun k => match k with
  | 0 => ("ShiftRing$Forecast", "trial", "LShiftRing$Ring;", true)
  | _ => ("ShiftRing$Forecast", "sample", "LShiftRing$Sample;", true)
def tyX1 : Nat → FieldType := fun k => match k with
  | 0 => .object "ShiftRing$Ring"
  | _ => .object "ShiftRing$Sample"
abbrev wsX10 : List Cond := u_ws RX1 TX1 2
theorem nmX1 : ∀ a, a < 2 → ∀ b, b < 2 → a ≠ b → (TX1 a).2.1 ≠ (TX1 b).2.1 := by decide +kernel
theorem tyX1_ok : ∀ k, k < 2 → parseFieldDescriptor (TX1 k).2.2.1 = some (tyX1 k) := by decide +kernel
def RX2 : String := "ShiftRing$Node"
def TX2 : u_T := fun k => match k with
  | 0 => ("ShiftRing$Node", "number", "I", true)
  | 1 => ("ShiftRing$Node", "place", "I", false)
  | 2 => ("ShiftRing$Node", "up", "Z", false)
  | 3 => ("ShiftRing$Node", "spot", "I", false)
  | 4 => ("ShiftRing$Node", "table", "LShiftRing$Table;", true)
  | 5 => ("ShiftRing$Node", "next", "I", false)
  | 6 => ("ShiftRing$Node", "arc", "I", false)
  | _ => ("ShiftRing$Node", "load", "I", false)
def tyX2 : Nat → FieldType := fun k => match k with
  | 0 => .int
  | 1 => .int
  | 2 => .boolean
  | 3 => .int
  | 4 => .object "ShiftRing$Table"
  | 5 => .int
  | 6 => .int
  | _ => .int
abbrev wsX20 : List Cond := u_ws RX2 TX2 8
theorem nmX2 : ∀ a, a < 8 → ∀ b, b < 8 → a ≠ b → (TX2 a).2.1 ≠ (TX2 b).2.1 := by decide +kernel
theorem tyX2_ok : ∀ k, k < 8 → parseFieldDescriptor (TX2 k).2.2.1 = some (tyX2 k) := by decide +kernel
def RX3 : String := "ShiftRing$Ring"
def TX3 : u_T := fun k => match k with
  | 0 => ("ShiftRing$Ring", "nodes", "[LShiftRing$Node;", true)
  | 1 => ("ShiftRing$Ring", "nobody", "LShiftRing$Node;", true)
  | 2 => ("ShiftRing$Ring", "fresh", "LShiftRing$Table;", true)
  | 3 => ("ShiftRing$Ring", "size", "I", false)
  | 4 => ("ShiftRing$Ring", "upCount", "I", false)
  | 5 => ("ShiftRing$Ring", "base", "I", false)
  | 6 => ("ShiftRing$Ring", "bits", "I", false)
  | 7 => ("ShiftRing$Ring", "letters", "I", false)
  | _ => ("ShiftRing$Ring", "degree", "I", false)
def tyX3 : Nat → FieldType := fun k => match k with
  | 0 => .array (.object "ShiftRing$Node")
  | 1 => .object "ShiftRing$Node"
  | 2 => .object "ShiftRing$Table"
  | 3 => .int
  | 4 => .int
  | 5 => .int
  | 6 => .int
  | 7 => .int
  | _ => .int
abbrev wsX30 : List Cond := u_ws RX3 TX3 9
theorem nmX3 : ∀ a, a < 9 → ∀ b, b < 9 → a ≠ b → (TX3 a).2.1 ≠ (TX3 b).2.1 := by decide +kernel
theorem tyX3_ok : ∀ k, k < 9 → parseFieldDescriptor (TX3 k).2.2.1 = some (tyX3 k) := by decide +kernel
def RX4 : String := "ShiftRing$Row"
def TX4 : u_T := fun k => match k with
  | 0 => ("ShiftRing$Row", "items", "[I", true)
  | _ => ("ShiftRing$Row", "size", "I", false)
def tyX4 : Nat → FieldType := fun k => match k with
  | 0 => .array .int
  | _ => .int
abbrev wsX40 : List Cond := u_ws RX4 TX4 2
theorem nmX4 : ∀ a, a < 2 → ∀ b, b < 2 → a ≠ b → (TX4 a).2.1 ≠ (TX4 b).2.1 := by decide +kernel
theorem tyX4_ok : ∀ k, k < 2 → parseFieldDescriptor (TX4 k).2.2.1 = some (tyX4 k) := by decide +kernel
def RX5 : String := "ShiftRing$Sample"
def TX5 : u_T := fun k => match k with
  | 0 => ("ShiftRing$Sample", "trip", "LShiftRing$Trip;", true)
  | 1 => ("ShiftRing$Sample", "visits", "[I", true)
  | 2 => ("ShiftRing$Sample", "crossings", "[I", true)
  | 3 => ("ShiftRing$Sample", "hops", "I", false)
  | 4 => ("ShiftRing$Sample", "shifts", "I", false)
  | 5 => ("ShiftRing$Sample", "walks", "I", false)
  | 6 => ("ShiftRing$Sample", "bridges", "I", false)
  | 7 => ("ShiftRing$Sample", "wrong", "I", false)
  | 8 => ("ShiftRing$Sample", "mostHops", "I", false)
  | 9 => ("ShiftRing$Sample", "time", "I", false)
  | _ => ("ShiftRing$Sample", "mostTime", "I", false)
def tyX5 : Nat → FieldType := fun k => match k with
  | 0 => .object "ShiftRing$Trip"
  | 1 => .array .int
  | 2 => .array .int
  | 3 => .int
  | 4 => .int
  | 5 => .int
  | 6 => .int
  | 7 => .int
  | 8 => .int
  | 9 => .int
  | _ => .int
abbrev wsX50 : List Cond := u_ws RX5 TX5 11
theorem nmX5 : ∀ a, a < 11 → ∀ b, b < 11 → a ≠ b → (TX5 a).2.1 ≠ (TX5 b).2.1 := by decide +kernel
theorem tyX5_ok : ∀ k, k < 11 → parseFieldDescriptor (TX5 k).2.2.1 = some (tyX5 k) := by decide +kernel
def RX6 : String := "ShiftRing$Store"
def TX6 : u_T := fun k => match k with
  | 0 => ("ShiftRing$Store", "entries", "[LShiftRing$Entry;", true)
  | 1 => ("ShiftRing$Store", "unknown", "LShiftRing$Entry;", true)
  | 2 => ("ShiftRing$Store", "known", "I", false)
  | 3 => ("ShiftRing$Store", "puts", "I", false)
  | _ => ("ShiftRing$Store", "copies", "I", false)
def tyX6 : Nat → FieldType := fun k => match k with
  | 0 => .array (.object "ShiftRing$Entry")
  | 1 => .object "ShiftRing$Entry"
  | 2 => .int
  | 3 => .int
  | _ => .int
abbrev wsX60 : List Cond := u_ws RX6 TX6 5
theorem nmX6 : ∀ a, a < 5 → ∀ b, b < 5 → a ≠ b → (TX6 a).2.1 ≠ (TX6 b).2.1 := by decide +kernel
theorem tyX6_ok : ∀ k, k < 5 → parseFieldDescriptor (TX6 k).2.2.1 = some (tyX6 k) := by decide +kernel
def RX7 : String := "ShiftRing$Table"
def TX7 : u_T := fun k => match k with
  | 0 => ("ShiftRing$Table", "base", "I", false)
  | 1 => ("ShiftRing$Table", "successors", "LShiftRing$Row;", true)
  | _ => ("ShiftRing$Table", "pointers", "LShiftRing$Row;", true)
def tyX7 : Nat → FieldType := fun k => match k with
  | 0 => .int
  | 1 => .object "ShiftRing$Row"
  | _ => .object "ShiftRing$Row"
abbrev wsX70 : List Cond := u_ws RX7 TX7 3
theorem nmX7 : ∀ a, a < 3 → ∀ b, b < 3 → a ≠ b → (TX7 a).2.1 ≠ (TX7 b).2.1 := by decide +kernel
theorem tyX7_ok : ∀ k, k < 3 → parseFieldDescriptor (TX7 k).2.2.1 = some (tyX7 k) := by decide +kernel
def RX8 : String := "ShiftRing$Trip"
def TX8 : u_T := fun k => match k with
  | 0 => ("ShiftRing$Trip", "ring", "LShiftRing$Ring;", false)
  | 1 => ("ShiftRing$Trip", "key", "I", false)
  | 2 => ("ShiftRing$Trip", "best", "Z", false)
  | 3 => ("ShiftRing$Trip", "at", "LShiftRing$Node;", false)
  | 4 => ("ShiftRing$Trip", "imaginary", "I", false)
  | 5 => ("ShiftRing$Trip", "left", "I", false)
  | 6 => ("ShiftRing$Trip", "end", "I", false)
  | 7 => ("ShiftRing$Trip", "right", "Z", false)
  | 8 => ("ShiftRing$Trip", "steps", "I", false)
  | 9 => ("ShiftRing$Trip", "hops", "I", false)
  | 10 => ("ShiftRing$Trip", "shifts", "I", false)
  | 11 => ("ShiftRing$Trip", "walks", "I", false)
  | 12 => ("ShiftRing$Trip", "bridges", "I", false)
  | 13 => ("ShiftRing$Trip", "time", "I", false)
  | 14 => ("ShiftRing$Trip", "spared", "I", false)
  | 15 => ("ShiftRing$Trip", "record", "[I", true)
  | _ => ("ShiftRing$Trip", "cutBy", "LShiftRing$Row;", true)
def tyX8 : Nat → FieldType := fun k => match k with
  | 0 => .object "ShiftRing$Ring"
  | 1 => .int
  | 2 => .boolean
  | 3 => .object "ShiftRing$Node"
  | 4 => .int
  | 5 => .int
  | 6 => .int
  | 7 => .boolean
  | 8 => .int
  | 9 => .int
  | 10 => .int
  | 11 => .int
  | 12 => .int
  | 13 => .int
  | 14 => .int
  | 15 => .array .int
  | _ => .object "ShiftRing$Row"
abbrev wsX80 : List Cond := u_ws RX8 TX8 17
theorem nmX8 : ∀ a, a < 17 → ∀ b, b < 17 → a ≠ b → (TX8 a).2.1 ≠ (TX8 b).2.1 := by decide +kernel
theorem tyX8_ok : ∀ k, k < 17 → parseFieldDescriptor (TX8 k).2.2.1 = some (tyX8 k) := by decide +kernel
def RX9 : String := "ShiftRing$Ways"
def TX9 : u_T := fun k => match k with
  | 0 => ("ShiftRing$Ways", "links", "[I", true)
  | 1 => ("ShiftRing$Ways", "open", "[J", true)
  | _ => ("ShiftRing$Ways", "cameFrom", "[I", true)
def tyX9 : Nat → FieldType := fun k => match k with
  | 0 => .array .int
  | 1 => .array .long
  | _ => .array .int
abbrev wsX90 : List Cond := u_ws RX9 TX9 3
theorem nmX9 : ∀ a, a < 3 → ∀ b, b < 3 → a ≠ b → (TX9 a).2.1 ≠ (TX9 b).2.1 := by decide +kernel
theorem tyX9_ok : ∀ k, k < 3 → parseFieldDescriptor (TX9 k).2.2.1 = some (tyX9 k) := by decide +kernel
def RX10 : String := "ShiftRing"
def TX10 : u_T := fun k => match k with
  | 0 => ("ShiftRing", "ring", "LShiftRing$Ring;", true)
  | 1 => ("ShiftRing", "store", "LShiftRing$Store;", true)
  | 2 => ("ShiftRing", "last", "LShiftRing$Trip;", true)
  | 3 => ("ShiftRing", "probe", "LShiftRing$Trip;", true)
  | 4 => ("ShiftRing", "sample", "LShiftRing$Sample;", true)
  | 5 => ("ShiftRing", "forecast", "LShiftRing$Forecast;", true)
  | _ => ("ShiftRing", "ways", "LShiftRing$Ways;", true)
def tyX10 : Nat → FieldType := fun k => match k with
  | 0 => .object "ShiftRing$Ring"
  | 1 => .object "ShiftRing$Store"
  | 2 => .object "ShiftRing$Trip"
  | 3 => .object "ShiftRing$Trip"
  | 4 => .object "ShiftRing$Sample"
  | 5 => .object "ShiftRing$Forecast"
  | _ => .object "ShiftRing$Ways"
abbrev wsX100 : List Cond := u_ws RX10 TX10 7
theorem nmX10 : ∀ a, a < 7 → ∀ b, b < 7 → a ≠ b → (TX10 a).2.1 ≠ (TX10 b).2.1 := by decide +kernel
theorem tyX10_ok : ∀ k, k < 7 → parseFieldDescriptor (TX10 k).2.2.1 = some (tyX10 k) := by decide +kernel
def RX11 : String := "ShiftRingModel"
def TX11 : u_T := fun k => match k with
  | 0 => ("ShiftRingModel", "thrown", "I", false)
  | 1 => ("ShiftRingModel", "nodes", "I", false)
  | 2 => ("ShiftRingModel", "placeOf", "[I", true)
  | 3 => ("ShiftRingModel", "isUp", "[I", true)
  | 4 => ("ShiftRingModel", "spot", "[I", true)
  | 5 => ("ShiftRingModel", "table", "[I", true)
  | 6 => ("ShiftRingModel", "aside", "[I", true)
  | 7 => ("ShiftRingModel", "base", "I", false)
  | 8 => ("ShiftRingModel", "degree", "I", false)
  | 9 => ("ShiftRingModel", "copies", "I", false)
  | 10 => ("ShiftRingModel", "at", "I", false)
  | 11 => ("ShiftRingModel", "here", "I", false)
  | 12 => ("ShiftRingModel", "left", "I", false)
  | 13 => ("ShiftRingModel", "hops", "I", false)
  | 14 => ("ShiftRingModel", "shifts", "I", false)
  | 15 => ("ShiftRingModel", "walks", "I", false)
  | 16 => ("ShiftRingModel", "bridges", "I", false)
  | 17 => ("ShiftRingModel", "steps", "I", false)
  | 18 => ("ShiftRingModel", "spared", "I", false)
  | 19 => ("ShiftRingModel", "time", "I", false)
  | 20 => ("ShiftRingModel", "ended", "I", false)
  | 21 => ("ShiftRingModel", "cutAt", "I", false)
  | 22 => ("ShiftRingModel", "keeps", "Z", false)
  | 23 => ("ShiftRingModel", "stepNode", "[I", true)
  | 24 => ("ShiftRingModel", "stepHere", "[I", true)
  | 25 => ("ShiftRingModel", "stepLeft", "[I", true)
  | 26 => ("ShiftRingModel", "stepKind", "[I", true)
  | 27 => ("ShiftRingModel", "last", "[I", true)
  | 28 => ("ShiftRingModel", "lastSteps", "I", false)
  | 29 => ("ShiftRingModel", "lastWhy", "[I", true)
  | 30 => ("ShiftRingModel", "lastWhyMany", "I", false)
  | 31 => ("ShiftRingModel", "cameTo", "[I", true)
  | 32 => ("ShiftRingModel", "betweens", "[I", true)
  | 33 => ("ShiftRingModel", "known", "I", false)
  | 34 => ("ShiftRingModel", "puts", "I", false)
  | 35 => ("ShiftRingModel", "keyOf", "[I", true)
  | 36 => ("ShiftRingModel", "latestOf", "[I", true)
  | 37 => ("ShiftRingModel", "value", "[I", true)
  | 38 => ("ShiftRingModel", "version", "[I", true)
  | 39 => ("ShiftRingModel", "fresh", "[I", true)
  | 40 => ("ShiftRingModel", "sumHops", "I", false)
  | 41 => ("ShiftRingModel", "sumShifts", "I", false)
  | 42 => ("ShiftRingModel", "sumWalks", "I", false)
  | 43 => ("ShiftRingModel", "sumBridges", "I", false)
  | 44 => ("ShiftRingModel", "sumWrong", "I", false)
  | 45 => ("ShiftRingModel", "sumTime", "I", false)
  | 46 => ("ShiftRingModel", "mostHops", "I", false)
  | 47 => ("ShiftRingModel", "mostTime", "I", false)
  | 48 => ("ShiftRingModel", "traffic", "[I", true)
  | 49 => ("ShiftRingModel", "farBy", "[I", true)
  | 50 => ("ShiftRingModel", "queue", "[I", true)
  | 51 => ("ShiftRingModel", "room", "[I", true)
  | _ => ("ShiftRingModel", "led", "[I", true)
def tyX11 : Nat → FieldType := fun k => match k with
  | 0 => .int
  | 1 => .int
  | 2 => .array .int
  | 3 => .array .int
  | 4 => .array .int
  | 5 => .array .int
  | 6 => .array .int
  | 7 => .int
  | 8 => .int
  | 9 => .int
  | 10 => .int
  | 11 => .int
  | 12 => .int
  | 13 => .int
  | 14 => .int
  | 15 => .int
  | 16 => .int
  | 17 => .int
  | 18 => .int
  | 19 => .int
  | 20 => .int
  | 21 => .int
  | 22 => .boolean
  | 23 => .array .int
  | 24 => .array .int
  | 25 => .array .int
  | 26 => .array .int
  | 27 => .array .int
  | 28 => .int
  | 29 => .array .int
  | 30 => .int
  | 31 => .array .int
  | 32 => .array .int
  | 33 => .int
  | 34 => .int
  | 35 => .array .int
  | 36 => .array .int
  | 37 => .array .int
  | 38 => .array .int
  | 39 => .array .int
  | 40 => .int
  | 41 => .int
  | 42 => .int
  | 43 => .int
  | 44 => .int
  | 45 => .int
  | 46 => .int
  | 47 => .int
  | 48 => .array .int
  | 49 => .array .int
  | 50 => .array .int
  | 51 => .array .int
  | _ => .array .int
abbrev wsX110 : List Cond := u_ws RX11 TX11 53
theorem nmX11 : ∀ a, a < 53 → ∀ b, b < 53 → a ≠ b → (TX11 a).2.1 ≠ (TX11 b).2.1 := by decide +kernel
theorem tyX11_ok : ∀ k, k < 53 → parseFieldDescriptor (TX11 k).2.2.1 = some (tyX11 k) := by decide +kernel
abbrev sr_cl : List vw_C := [(RX0, TX0, 4), (RX1, TX1, 2), (RX2, TX2, 8), (RX3, TX3, 9), (RX4, TX4, 2), (RX5, TX5, 11), (RX6, TX6, 5), (RX7, TX7, 3), (RX8, TX8, 17), (RX9, TX9, 3), (RX10, TX10, 7), (RX11, TX11, 53)]
def sr_TB : List Cond := lw_tbl.filter goodWord
def sr_nest (w : Cond) : Bool := match w with
  | .fieldLinkNest .. => true
  | .methodLinkNest .. => true
  | .arrayOver (.object _) => true
  | .castable .. => true
  | .declares _ => true
  | _ => false
def sr_NB : List Cond := lw_tbl.filter sr_nest
