/-! Names: classes, fields, methods; links of the constant pools, each with its place among the tables' words. Written by program. -/
def RX0 : String := "HardestVows$Chooser"
def TX0 : u_T := fun k => match k with
  | 0 => ("HardestVows$Chooser", "worth", "[I", true)
  | 1 => ("HardestVows$Chooser", "most", "[I", true)
  | 2 => ("HardestVows$Chooser", "row", "[I", true)
  | 3 => ("HardestVows$Chooser", "asked", "[I", true)
  | 4 => ("HardestVows$Chooser", "keeps", "[I", true)
  | 5 => ("HardestVows$Chooser", "leastCounts", "Z", false)
  | _ => ("HardestVows$Chooser", "allMustHave", "Z", false)
def tyX0 : Nat → FieldType := fun k => match k with
  | 0 => .array .int
  | 1 => .array .int
  | 2 => .array .int
  | 3 => .array .int
  | 4 => .array .int
  | 5 => .boolean
  | _ => .boolean
abbrev wsX00 : List Cond := u_ws RX0 TX0 7
theorem nmX0 : ∀ a, a < 7 → ∀ b, b < 7 → a ≠ b → (TX0 a).2.1 ≠ (TX0 b).2.1 := by decide +kernel
theorem tyX0_ok : ∀ k, k < 7 → parseFieldDescriptor (TX0 k).2.2.1 = some (tyX0 k) := by decide +kernel
def RX1 : String := "HardestVows$Code"
def TX1 : u_T := fun k => match k with
  | 0 => ("HardestVows$Code", "marks", "[I", true)
  | 1 => ("HardestVows$Code", "steps", "[I", true)
  | 2 => ("HardestVows$Code", "clauses", "I", false)
  | _ => ("HardestVows$Code", "length", "I", false)
def tyX1 : Nat → FieldType := fun k => match k with
  | 0 => .array .int
  | 1 => .array .int
  | 2 => .int
  | _ => .int
abbrev wsX10 : List Cond := u_ws RX1 TX1 4
theorem nmX1 : ∀ a, a < 4 → ∀ b, b < 4 → a ≠ b → (TX1 a).2.1 ≠ (TX1 b).2.1 := by decide +kernel
theorem tyX1_ok : ∀ k, k < 4 → parseFieldDescriptor (TX1 k).2.2.1 = some (tyX1 k) := by decide +kernel
def RX2 : String := "HardestVows$Deeds"
def TX2 : u_T := fun k => match k with
  | 0 => ("HardestVows$Deeds", "now", "LHardestVows$Whole;", true)
  | 1 => ("HardestVows$Deeds", "house", "LHardestVows$House;", true)
  | 2 => ("HardestVows$Deeds", "rules", "LHardestVows$Rules;", true)
  | 3 => ("HardestVows$Deeds", "machine", "LHardestVows$Machine;", true)
  | 4 => ("HardestVows$Deeds", "trail", "LHardestVows$Trail;", true)
  | 5 => ("HardestVows$Deeds", "trailAhead", "LHardestVows$Trail;", true)
  | 6 => ("HardestVows$Deeds", "houseAhead", "LHardestVows$House;", true)
  | 7 => ("HardestVows$Deeds", "words", "[I", true)
  | 8 => ("HardestVows$Deeds", "done", "I", false)
  | 9 => ("HardestVows$Deeds", "latestGiven", "I", false)
  | _ => ("HardestVows$Deeds", "stoppedAt", "I", false)
def tyX2 : Nat → FieldType := fun k => match k with
  | 0 => .object "HardestVows$Whole"
  | 1 => .object "HardestVows$House"
  | 2 => .object "HardestVows$Rules"
  | 3 => .object "HardestVows$Machine"
  | 4 => .object "HardestVows$Trail"
  | 5 => .object "HardestVows$Trail"
  | 6 => .object "HardestVows$House"
  | 7 => .array .int
  | 8 => .int
  | 9 => .int
  | _ => .int
abbrev wsX20 : List Cond := u_ws RX2 TX2 11
theorem nmX2 : ∀ a, a < 11 → ∀ b, b < 11 → a ≠ b → (TX2 a).2.1 ≠ (TX2 b).2.1 := by decide +kernel
theorem tyX2_ok : ∀ k, k < 11 → parseFieldDescriptor (TX2 k).2.2.1 = some (tyX2 k) := by decide +kernel
def RX3 : String := "HardestVows$House"
def TX3 : u_T := fun k => match k with
  | _ => ("HardestVows$House", "cells", "[I", true)
def tyX3 : Nat → FieldType := fun k => match k with
  | _ => .array .int
abbrev wsX30 : List Cond := u_ws RX3 TX3 1
theorem nmX3 : ∀ a, a < 1 → ∀ b, b < 1 → a ≠ b → (TX3 a).2.1 ≠ (TX3 b).2.1 := by decide +kernel
theorem tyX3_ok : ∀ k, k < 1 → parseFieldDescriptor (TX3 k).2.2.1 = some (tyX3 k) := by decide +kernel
def RX4 : String := "HardestVows$Machine"
def TX4 : u_T := fun k => match k with
  | 0 => ("HardestVows$Machine", "stack", "[I", true)
  | 1 => ("HardestVows$Machine", "top", "I", false)
  | _ => ("HardestVows$Machine", "told", "I", false)
def tyX4 : Nat → FieldType := fun k => match k with
  | 0 => .array .int
  | 1 => .int
  | _ => .int
abbrev wsX40 : List Cond := u_ws RX4 TX4 3
theorem nmX4 : ∀ a, a < 3 → ∀ b, b < 3 → a ≠ b → (TX4 a).2.1 ≠ (TX4 b).2.1 := by decide +kernel
theorem tyX4_ok : ∀ k, k < 3 → parseFieldDescriptor (TX4 k).2.2.1 = some (tyX4 k) := by decide +kernel
def RX5 : String := "HardestVows$Paper"
def TX5 : u_T := fun k => match k with
  | 0 => ("HardestVows$Paper", "rules", "LHardestVows$Rules;", true)
  | 1 => ("HardestVows$Paper", "chooser", "LHardestVows$Chooser;", true)
  | 2 => ("HardestVows$Paper", "sheet", "LHardestVows$House;", true)
  | 3 => ("HardestVows$Paper", "drawnHouse", "LHardestVows$House;", true)
  | 4 => ("HardestVows$Paper", "shown", "[I", true)
  | _ => ("HardestVows$Paper", "drawState", "I", false)
def tyX5 : Nat → FieldType := fun k => match k with
  | 0 => .object "HardestVows$Rules"
  | 1 => .object "HardestVows$Chooser"
  | 2 => .object "HardestVows$House"
  | 3 => .object "HardestVows$House"
  | 4 => .array .int
  | _ => .int
abbrev wsX50 : List Cond := u_ws RX5 TX5 6
theorem nmX5 : ∀ a, a < 6 → ∀ b, b < 6 → a ≠ b → (TX5 a).2.1 ≠ (TX5 b).2.1 := by decide +kernel
theorem tyX5_ok : ∀ k, k < 6 → parseFieldDescriptor (TX5 k).2.2.1 = some (tyX5 k) := by decide +kernel
def RX6 : String := "HardestVows$Reader"
def TX6 : u_T := fun k => match k with
  | 0 => ("HardestVows$Reader", "tape", "[I", true)
  | 1 => ("HardestVows$Reader", "draft", "LHardestVows$Code;", true)
  | 2 => ("HardestVows$Reader", "length", "I", false)
  | 3 => ("HardestVows$Reader", "asOrders", "Z", false)
  | 4 => ("HardestVows$Reader", "at", "I", false)
  | 5 => ("HardestVows$Reader", "behind", "I", false)
  | 6 => ("HardestVows$Reader", "kind", "I", false)
  | 7 => ("HardestVows$Reader", "number", "I", false)
  | _ => ("HardestVows$Reader", "parts", "I", false)
def tyX6 : Nat → FieldType := fun k => match k with
  | 0 => .array .int
  | 1 => .object "HardestVows$Code"
  | 2 => .int
  | 3 => .boolean
  | 4 => .int
  | 5 => .int
  | 6 => .int
  | 7 => .int
  | _ => .int
abbrev wsX60 : List Cond := u_ws RX6 TX6 9
theorem nmX6 : ∀ a, a < 9 → ∀ b, b < 9 → a ≠ b → (TX6 a).2.1 ≠ (TX6 b).2.1 := by decide +kernel
theorem tyX6_ok : ∀ k, k < 9 → parseFieldDescriptor (TX6 k).2.2.1 = some (tyX6 k) := by decide +kernel
def RX7 : String := "HardestVows$Rules"
def TX7 : u_T := fun k => match k with
  | 0 => ("HardestVows$Rules", "machine", "LHardestVows$Machine;", true)
  | 1 => ("HardestVows$Rules", "words", "[I", true)
  | 2 => ("HardestVows$Rules", "house", "LHardestVows$House;", false)
  | _ => ("HardestVows$Rules", "law", "LHardestVows$Code;", false)
def tyX7 : Nat → FieldType := fun k => match k with
  | 0 => .object "HardestVows$Machine"
  | 1 => .array .int
  | 2 => .object "HardestVows$House"
  | _ => .object "HardestVows$Code"
abbrev wsX70 : List Cond := u_ws RX7 TX7 4
theorem nmX7 : ∀ a, a < 4 → ∀ b, b < 4 → a ≠ b → (TX7 a).2.1 ≠ (TX7 b).2.1 := by decide +kernel
theorem tyX7_ok : ∀ k, k < 4 → parseFieldDescriptor (TX7 k).2.2.1 = some (tyX7 k) := by decide +kernel
def RX8 : String := "HardestVows$Trail"
def TX8 : u_T := fun k => match k with
  | 0 => ("HardestVows$Trail", "kinds", "[I", true)
  | 1 => ("HardestVows$Trail", "rows", "[I", true)
  | _ => ("HardestVows$Trail", "length", "I", false)
def tyX8 : Nat → FieldType := fun k => match k with
  | 0 => .array .int
  | 1 => .array .int
  | _ => .int
abbrev wsX80 : List Cond := u_ws RX8 TX8 3
theorem nmX8 : ∀ a, a < 3 → ∀ b, b < 3 → a ≠ b → (TX8 a).2.1 ≠ (TX8 b).2.1 := by decide +kernel
theorem tyX8_ok : ∀ k, k < 3 → parseFieldDescriptor (TX8 k).2.2.1 = some (tyX8 k) := by decide +kernel
def RX9 : String := "HardestVows$Whole"
def TX9 : u_T := fun k => match k with
  | 0 => ("HardestVows$Whole", "house", "LHardestVows$House;", true)
  | 1 => ("HardestVows$Whole", "laws", "[LHardestVows$Code;", true)
  | 2 => ("HardestVows$Whole", "seenVows", "[I", true)
  | 3 => ("HardestVows$Whole", "seenShown", "[I", true)
  | 4 => ("HardestVows$Whole", "lawCount", "I", false)
  | 5 => ("HardestVows$Whole", "inForce", "I", false)
  | _ => ("HardestVows$Whole", "seenCount", "I", false)
def tyX9 : Nat → FieldType := fun k => match k with
  | 0 => .object "HardestVows$House"
  | 1 => .array (.object "HardestVows$Code")
  | 2 => .array .int
  | 3 => .array .int
  | 4 => .int
  | 5 => .int
  | _ => .int
abbrev wsX90 : List Cond := u_ws RX9 TX9 7
theorem nmX9 : ∀ a, a < 7 → ∀ b, b < 7 → a ≠ b → (TX9 a).2.1 ≠ (TX9 b).2.1 := by decide +kernel
theorem tyX9_ok : ∀ k, k < 7 → parseFieldDescriptor (TX9 k).2.2.1 = some (tyX9 k) := by decide +kernel
def RX10 : String := "HardestVows"
def TX10 : u_T := fun k => match k with
  | 0 => ("HardestVows", "now", "LHardestVows$Whole;", true)
  | 1 => ("HardestVows", "house", "LHardestVows$House;", true)
  | 2 => ("HardestVows", "images", "[LHardestVows$Whole;", true)
  | 3 => ("HardestVows", "machine", "LHardestVows$Machine;", true)
  | 4 => ("HardestVows", "rules", "LHardestVows$Rules;", true)
  | 5 => ("HardestVows", "chooser", "LHardestVows$Chooser;", true)
  | 6 => ("HardestVows", "paper", "LHardestVows$Paper;", true)
  | 7 => ("HardestVows", "deeds", "LHardestVows$Deeds;", true)
  | 8 => ("HardestVows", "tape", "[I", true)
  | 9 => ("HardestVows", "reader", "LHardestVows$Reader;", true)
  | 10 => ("HardestVows", "refused", "[I", true)
  | 11 => ("HardestVows", "tapeLength", "I", false)
  | 12 => ("HardestVows", "crumbCount", "I", false)
  | 13 => ("HardestVows", "faultPlace", "I", false)
  | _ => ("HardestVows", "latestRefusal", "I", false)
def tyX10 : Nat → FieldType := fun k => match k with
  | 0 => .object "HardestVows$Whole"
  | 1 => .object "HardestVows$House"
  | 2 => .array (.object "HardestVows$Whole")
  | 3 => .object "HardestVows$Machine"
  | 4 => .object "HardestVows$Rules"
  | 5 => .object "HardestVows$Chooser"
  | 6 => .object "HardestVows$Paper"
  | 7 => .object "HardestVows$Deeds"
  | 8 => .array .int
  | 9 => .object "HardestVows$Reader"
  | 10 => .array .int
  | 11 => .int
  | 12 => .int
  | 13 => .int
  | _ => .int
abbrev wsX100 : List Cond := u_ws RX10 TX10 15
theorem nmX10 : ∀ a, a < 15 → ∀ b, b < 15 → a ≠ b → (TX10 a).2.1 ≠ (TX10 b).2.1 := by decide +kernel
theorem tyX10_ok : ∀ k, k < 15 → parseFieldDescriptor (TX10 k).2.2.1 = some (tyX10 k) := by decide +kernel
def RX11 : String := "HardestVowsModel"
def TX11 : u_T := fun k => match k with
  | 0 => ("HardestVowsModel", "status", "I", false)
  | 1 => ("HardestVowsModel", "refused", "[I", true)
  | 2 => ("HardestVowsModel", "kept", "[I", true)
  | 3 => ("HardestVowsModel", "images", "[I", true)
  | 4 => ("HardestVowsModel", "hasImage", "[Z", true)
  | 5 => ("HardestVowsModel", "aside", "[I", true)
  | 6 => ("HardestVowsModel", "crumbs0", "I", false)
  | 7 => ("HardestVowsModel", "words", "[B", true)
  | 8 => ("HardestVowsModel", "firstWord", "I", false)
  | 9 => ("HardestVowsModel", "lastWord", "I", false)
  | 10 => ("HardestVowsModel", "isOrders", "Z", false)
  | 11 => ("HardestVowsModel", "tape", "[B", true)
  | 12 => ("HardestVowsModel", "five", "[I", true)
  | 13 => ("HardestVowsModel", "taped", "I", false)
  | 14 => ("HardestVowsModel", "fault", "I", false)
  | 15 => ("HardestVowsModel", "code", "[I", true)
  | 16 => ("HardestVowsModel", "value", "[I", true)
  | 17 => ("HardestVowsModel", "placed", "[I", true)
  | 18 => ("HardestVowsModel", "tokens", "I", false)
  | 19 => ("HardestVowsModel", "token", "I", false)
  | 20 => ("HardestVowsModel", "leaves", "I", false)
  | 21 => ("HardestVowsModel", "bad", "I", false)
  | 22 => ("HardestVowsModel", "go", "I", false)
  | 23 => ("HardestVowsModel", "goEnd", "I", false)
  | 24 => ("HardestVowsModel", "broken", "Z", false)
  | 25 => ("HardestVowsModel", "inOrders", "Z", false)
  | 26 => ("HardestVowsModel", "asked", "[I", true)
  | 27 => ("HardestVowsModel", "orderDone", "I", false)
  | 28 => ("HardestVowsModel", "orderLatest", "I", false)
  | 29 => ("HardestVowsModel", "then", "[I", true)
  | 30 => ("HardestVowsModel", "left0", "[I", true)
  | 31 => ("HardestVowsModel", "leftAhead", "[I", true)
  | 32 => ("HardestVowsModel", "undoMany", "I", false)
  | 33 => ("HardestVowsModel", "shown", "[I", true)
  | 34 => ("HardestVowsModel", "barred", "[Z", true)
  | 35 => ("HardestVowsModel", "rest", "[I", true)
  | 36 => ("HardestVowsModel", "bestRow", "[I", true)
  | 37 => ("HardestVowsModel", "row0", "[I", true)
  | 38 => ("HardestVowsModel", "fairRow", "[I", true)
  | 39 => ("HardestVowsModel", "fairLeast", "I", false)
  | 40 => ("HardestVowsModel", "fairSum", "I", false)
  | 41 => ("HardestVowsModel", "keeper", "[I", true)
  | 42 => ("HardestVowsModel", "hasAsked", "[Z", true)
  | 43 => ("HardestVowsModel", "stopped0", "I", false)
  | 44 => ("HardestVowsModel", "orderAt", "I", false)
  | 45 => ("HardestVowsModel", "timesOf", "I", false)
  | 46 => ("HardestVowsModel", "head", "I", false)
  | 47 => ("HardestVowsModel", "sumsAre", "Z", false)
  | 48 => ("HardestVowsModel", "testIs", "Z", false)
  | 49 => ("HardestVowsModel", "sums", "[J", true)
  | 50 => ("HardestVowsModel", "drawnMoved", "[I", true)
  | 51 => ("HardestVowsModel", "drawnMany", "I", false)
  | _ => ("HardestVowsModel", "latest", "I", false)
def tyX11 : Nat → FieldType := fun k => match k with
  | 0 => .int
  | 1 => .array .int
  | 2 => .array .int
  | 3 => .array .int
  | 4 => .array .boolean
  | 5 => .array .int
  | 6 => .int
  | 7 => .array .byte
  | 8 => .int
  | 9 => .int
  | 10 => .boolean
  | 11 => .array .byte
  | 12 => .array .int
  | 13 => .int
  | 14 => .int
  | 15 => .array .int
  | 16 => .array .int
  | 17 => .array .int
  | 18 => .int
  | 19 => .int
  | 20 => .int
  | 21 => .int
  | 22 => .int
  | 23 => .int
  | 24 => .boolean
  | 25 => .boolean
  | 26 => .array .int
  | 27 => .int
  | 28 => .int
  | 29 => .array .int
  | 30 => .array .int
  | 31 => .array .int
  | 32 => .int
  | 33 => .array .int
  | 34 => .array .boolean
  | 35 => .array .int
  | 36 => .array .int
  | 37 => .array .int
  | 38 => .array .int
  | 39 => .int
  | 40 => .int
  | 41 => .array .int
  | 42 => .array .boolean
  | 43 => .int
  | 44 => .int
  | 45 => .int
  | 46 => .int
  | 47 => .boolean
  | 48 => .boolean
  | 49 => .array .long
  | 50 => .array .int
  | 51 => .int
  | _ => .int
abbrev wsX110 : List Cond := u_ws RX11 TX11 53
theorem nmX11 : ∀ a, a < 53 → ∀ b, b < 53 → a ≠ b → (TX11 a).2.1 ≠ (TX11 b).2.1 := by decide +kernel
theorem tyX11_ok : ∀ k, k < 53 → parseFieldDescriptor (TX11 k).2.2.1 = some (tyX11 k) := by decide +kernel
abbrev vwCl : List vw_C := [(RX0, TX0, 7), (RX1, TX1, 4), (RX2, TX2, 11), (RX3, TX3, 1), (RX4, TX4, 3), (RX5, TX5, 6), (RX6, TX6, 9), (RX7, TX7, 4), (RX8, TX8, 3), (RX9, TX9, 7), (RX10, TX10, 15), (RX11, TX11, 53)]
def hv_ON : List String := ["HardestVows$Chooser", "HardestVows$Code", "HardestVows$Deeds", "HardestVows$House", "HardestVows$Machine", "HardestVows$Paper", "HardestVows$Reader", "HardestVows$Rules", "HardestVows$Trail", "HardestVows$Whole", "HardestVows", "HardestVowsModel", "java/lang/Integer", "java/lang/Math", "java/util/Arrays", "HardestVowsLaw", "java/lang/String"]
def hv_on (o : Nat) : String := hv_ON.getD o ""
def hv_T (ci : Nat) : u_T := match ci with
  | 0 => TX0
  | 1 => TX1
  | 2 => TX2
  | 3 => TX3
  | 4 => TX4
  | 5 => TX5
  | 6 => TX6
  | 7 => TX7
  | 8 => TX8
  | 9 => TX9
  | 10 => TX10
  | _ => TX11
def hv_N (ci : Nat) : Nat := match ci with
  | 0 => 7
  | 1 => 4
  | 2 => 11
  | 3 => 1
  | 4 => 3
  | 5 => 6
  | 6 => 9
  | 7 => 4
  | 8 => 3
  | 9 => 7
  | 10 => 15
  | 11 => 53
  | _ => 0
def hv_ft (ci : Nat) : Nat → FieldType := match ci with
  | 0 => tyX0
  | 1 => tyX1
  | 2 => tyX2
  | 3 => tyX3
  | 4 => tyX4
  | 5 => tyX5
  | 6 => tyX6
  | 7 => tyX7
  | 8 => tyX8
  | 9 => tyX9
  | 10 => tyX10
  | _ => tyX11
def hv_dv (ci : Nat) : List Value := match ci with
  | 0 => [.null, .null, .null, .null, .null, .int 0, .int 0]
  | 1 => [.null, .null, .int 0, .int 0]
  | 2 => [.null, .null, .null, .null, .null, .null, .null, .null, .int 0, .int 0, .int 0]
  | 3 => [.null]
  | 4 => [.null, .int 0, .int 0]
  | 5 => [.null, .null, .null, .null, .null, .int 0]
  | 6 => [.null, .null, .int 0, .int 0, .int 0, .int 0, .int 0, .int 0, .int 0]
  | 7 => [.null, .null, .null, .null]
  | 8 => [.null, .null, .int 0]
  | 9 => [.null, .null, .null, .null, .int 0, .int 0, .int 0]
  | 10 => [.null, .null, .null, .null, .null, .null, .null, .null, .null, .null, .null, .int 0, .int 0, .int 0, .int 0]
  | 11 => [.int 0, .null, .null, .null, .null, .null, .int 0, .null, .int 0, .int 0, .int 0, .null, .null, .int 0, .int 0, .null, .null, .null, .int 0, .int 0, .int 0, .int 0, .int 0, .int 0, .int 0, .int 0, .null, .int 0, .int 0, .null, .null, .null, .int 0, .null, .null, .null, .null, .null, .null, .int 0, .int 0, .null, .null, .int 0, .int 0, .int 0, .int 0, .int 0, .int 0, .null, .null, .int 0, .int 0]
  | _ => []
/-- a method: name and code; slots and answer; class and whether it makes an object -/
abbrev hv_MR : Type := (MethodName × ByteArray) × (Nat × Option FieldType) × (Nat × Bool)
def hv_MT_0 : List hv_MR := [((⟨"HardestVows", "<init>", "()V"⟩, prog_1_method_1_code), (1, none), (10, true)),
  ((⟨"HardestVows", "monk", "(I)I"⟩, prog_1_method_2_code), (4, (some .int)), (10, false)),
  ((⟨"HardestVows", "put", "(III)I"⟩, prog_1_method_3_code), (5, (some .int)), (10, false)),
  ((⟨"HardestVows", "of", "(III)I"⟩, prog_1_method_4_code), (5, (some .int)), (10, false)),
  ((⟨"HardestVows", "has", "(I)I"⟩, prog_1_method_5_code), (2, (some .int)), (10, false)),
  ((⟨"HardestVows", "terms", "(II)I"⟩, prog_1_method_6_code), (6, (some .int)), (10, false)),
  ((⟨"HardestVows", "feed", "(IIIII)I"⟩, prog_1_method_7_code), (6, (some .int)), (10, false)),
  ((⟨"HardestVows", "addBytes", "(I)V"⟩, prog_1_method_8_code), (3, none), (10, false)),
  ((⟨"HardestVows", "end", "(I)I"⟩, prog_1_method_9_code), (2, (some .int)), (10, false)),
  ((⟨"HardestVows", "row", "()I"⟩, prog_1_method_10_code), (3, (some .int)), (10, false)),
  ((⟨"HardestVows", "isRow", "(I)Z"⟩, prog_1_method_11_code), (3, (some .boolean)), (10, false)),
  ((⟨"HardestVows", "addMonkOfRow", "(I)V"⟩, prog_1_method_12_code), (4, none), (10, false)),
  ((⟨"HardestVows", "crumbs", "()I"⟩, prog_1_method_13_code), (1, (some .int)), (10, false)),
  ((⟨"HardestVows", "law", "()I"⟩, prog_1_method_14_code), (2, (some .int)), (10, false)),
  ((⟨"HardestVows", "orders", "()I"⟩, prog_1_method_15_code), (2, (some .int)), (10, false)),
  ((⟨"HardestVows", "fault", "()I"⟩, prog_1_method_16_code), (1, (some .int)), (10, false)),
  ((⟨"HardestVows", "stopped", "()I"⟩, prog_1_method_17_code), (1, (some .int)), (10, false)),
  ((⟨"HardestVows", "force", "(I)I"⟩, prog_1_method_18_code), (3, (some .int)), (10, false)),
  ((⟨"HardestVows", "give", "(II)I"⟩, prog_1_method_19_code), (3, (some .int)), (10, false)),
  ((⟨"HardestVows", "lay", "(I)I"⟩, prog_1_method_20_code), (2, (some .int)), (10, false)),
  ((⟨"HardestVows", "swap", "(II)I"⟩, prog_1_method_21_code), (3, (some .int)), (10, false)),
  ((⟨"HardestVows", "pass", "()I"⟩, prog_1_method_22_code), (1, (some .int)), (10, false)),
  ((⟨"HardestVows", "undo", "()I"⟩, prog_1_method_23_code), (1, (some .int)), (10, false)),
  ((⟨"HardestVows", "best", "(I)I"⟩, prog_1_method_24_code), (2, (some .int)), (10, false)),
  ((⟨"HardestVows", "chosenOrTotal", "(II)I"⟩, prog_1_method_25_code), (3, (some .int)), (10, false)),
  ((⟨"HardestVows", "fair", "(I)I"⟩, prog_1_method_26_code), (3, (some .int)), (10, false)),
  ((⟨"HardestVows", "wished", "(I)I"⟩, prog_1_method_27_code), (2, (some .int)), (10, false)),
  ((⟨"HardestVows", "swaps", "(I)I"⟩, prog_1_method_28_code), (6, (some .int)), (10, false)),
  ((⟨"HardestVows", "hide", "(II)I"⟩, prog_1_method_29_code), (3, (some .int)), (10, false)),
  ((⟨"HardestVows", "soft", "(I)I"⟩, prog_1_method_30_code), (2, (some .int)), (10, false)),
  ((⟨"HardestVows", "kept", "(II)J"⟩, prog_1_method_31_code), (3, (some .long)), (10, false)),
  ((⟨"HardestVows", "seen", "(II)I"⟩, prog_1_method_32_code), (3, (some .int)), (10, false)),
  ((⟨"HardestVows", "forget", "()I"⟩, prog_1_method_33_code), (2, (some .int)), (10, false)),
  ((⟨"HardestVows", "who", "()I"⟩, prog_1_method_34_code), (1, (some .int)), (10, false)),
  ((⟨"HardestVows", "look", "(I)I"⟩, prog_1_method_35_code), (2, (some .int)), (10, false)),
  ((⟨"HardestVows", "compare", "(I)I"⟩, prog_1_method_36_code), (2, (some .int)), (10, false)),
  ((⟨"HardestVows", "years", "(II)I"⟩, prog_1_method_37_code), (3, (some .int)), (10, false)),
  ((⟨"HardestVows", "drawn", "(II)I"⟩, prog_1_method_38_code), (4, (some .int)), (10, false)),
  ((⟨"HardestVows", "image", "(I)I"⟩, prog_1_method_39_code), (3, (some .int)), (10, false)),
  ((⟨"HardestVows", "back", "(I)I"⟩, prog_1_method_40_code), (3, (some .int)), (10, false)),
  ((⟨"HardestVows", "count", "(I)I"⟩, prog_1_method_41_code), (2, (some .int)), (10, false)),
  ((⟨"HardestVows", "status", "()I"⟩, prog_1_method_42_code), (1, (some .int)), (10, false)),
  ((⟨"HardestVows", "rulesNow", "()LHardestVows$Rules;"⟩, prog_1_method_43_code), (1, (some (.object "HardestVows$Rules"))), (10, false)),
  ((⟨"HardestVows", "accept", "(I)I"⟩, prog_1_method_44_code), (2, (some .int)), (10, false)),
  ((⟨"HardestVows", "acceptDeed", "(I)I"⟩, prog_1_method_45_code), (2, (some .int)), (10, false)),
  ((⟨"HardestVows", "refuse", "(I)I"⟩, prog_1_method_46_code), (2, (some .int)), (10, false)),
  ((⟨"HardestVows", "isVow", "(I)Z"⟩, prog_1_method_47_code), (1, (some .boolean)), (10, false)),
  ((⟨"HardestVows", "isHard", "(I)Z"⟩, prog_1_method_48_code), (1, (some .boolean)), (10, false)),
  ((⟨"HardestVowsModel", "lies", "(III)Z"⟩, prog_13_method_1_code), (3, (some .boolean)), (11, false)),
  ((⟨"HardestVowsModel", "lesser", "(II)I"⟩, prog_13_method_2_code), (2, (some .int)), (11, false))]
def hv_MT_1 : List hv_MR := [((⟨"HardestVowsModel", "greater", "(II)I"⟩, prog_13_method_3_code), (2, (some .int)), (11, false)),
  ((⟨"HardestVowsModel", "refuses", "(I)I"⟩, prog_13_method_4_code), (2, (some .int)), (11, false)),
  ((⟨"HardestVowsModel", "good", "(I)I"⟩, prog_13_method_5_code), (2, (some .int)), (11, false)),
  ((⟨"HardestVowsModel", "settled", "(I)I"⟩, prog_13_method_6_code), (2, (some .int)), (11, false)),
  ((⟨"HardestVowsModel", "isIn", "(II)Z"⟩, prog_13_method_7_code), (2, (some .boolean)), (11, false)),
  ((⟨"HardestVowsModel", "<init>", "()V"⟩, prog_13_method_8_code), (2, none), (11, true)),
  ((⟨"HardestVowsModel", "laysAside", "(I)V"⟩, prog_13_method_9_code), (3, none), (11, false)),
  ((⟨"HardestVowsModel", "takesBack", "(I)V"⟩, prog_13_method_10_code), (3, none), (11, false)),
  ((⟨"HardestVowsModel", "image", "(I)I"⟩, prog_13_method_11_code), (3, (some .int)), (11, false)),
  ((⟨"HardestVowsModel", "back", "(I)I"⟩, prog_13_method_12_code), (3, (some .int)), (11, false)),
  ((⟨"HardestVowsModel", "isMonk", "(I)Z"⟩, prog_13_method_13_code), (2, (some .boolean)), (11, false)),
  ((⟨"HardestVowsModel", "isVow", "(I)Z"⟩, prog_13_method_14_code), (1, (some .boolean)), (11, false)),
  ((⟨"HardestVowsModel", "isHard", "(I)Z"⟩, prog_13_method_15_code), (1, (some .boolean)), (11, false)),
  ((⟨"HardestVowsModel", "hardOf", "(II)I"⟩, prog_13_method_16_code), (3, (some .int)), (11, false)),
  ((⟨"HardestVowsModel", "hasOne", "(I)Z"⟩, prog_13_method_17_code), (2, (some .boolean)), (11, false)),
  ((⟨"HardestVowsModel", "heldOf", "(II)I"⟩, prog_13_method_18_code), (3, (some .int)), (11, false)),
  ((⟨"HardestVowsModel", "holderOf", "(I)I"⟩, prog_13_method_19_code), (4, (some .int)), (11, false)),
  ((⟨"HardestVowsModel", "adds", "()I"⟩, prog_13_method_20_code), (2, (some .int)), (11, false)),
  ((⟨"HardestVowsModel", "monk", "(I)I"⟩, prog_13_method_21_code), (4, (some .int)), (11, false)),
  ((⟨"HardestVowsModel", "put", "(III)I"⟩, prog_13_method_22_code), (5, (some .int)), (11, false)),
  ((⟨"HardestVowsModel", "of", "(III)I"⟩, prog_13_method_23_code), (4, (some .int)), (11, false)),
  ((⟨"HardestVowsModel", "has", "(I)I"⟩, prog_13_method_24_code), (2, (some .int)), (11, false)),
  ((⟨"HardestVowsModel", "terms", "(II)I"⟩, prog_13_method_25_code), (5, (some .int)), (11, false)),
  ((⟨"HardestVowsModel", "areHard", "(I)Z"⟩, prog_13_method_26_code), (4, (some .boolean)), (11, false)),
  ((⟨"HardestVowsModel", "row", "()I"⟩, prog_13_method_27_code), (6, (some .int)), (11, false)),
  ((⟨"HardestVowsModel", "crumbs", "()I"⟩, prog_13_method_28_code), (1, (some .int)), (11, false)),
  ((⟨"HardestVowsModel", "feed", "(IIIII)I"⟩, prog_13_method_29_code), (7, (some .int)), (11, false)),
  ((⟨"HardestVowsModel", "end", "(I)I"⟩, prog_13_method_30_code), (2, (some .int)), (11, false)),
  ((⟨"HardestVowsModel", "isSmall", "(I)Z"⟩, prog_13_method_31_code), (1, (some .boolean)), (11, false)),
  ((⟨"HardestVowsModel", "isDigit", "(I)Z"⟩, prog_13_method_32_code), (1, (some .boolean)), (11, false)),
  ((⟨"HardestVowsModel", "wordOf", "(II)I"⟩, prog_13_method_33_code), (8, (some .int)), (11, false)),
  ((⟨"HardestVowsModel", "splits", "(I)V"⟩, prog_13_method_34_code), (6, none), (11, false)),
  ((⟨"HardestVowsModel", "fine", "()Z"⟩, prog_13_method_35_code), (1, (some .boolean)), (11, false)),
  ((⟨"HardestVowsModel", "faults", "()V"⟩, prog_13_method_36_code), (1, none), (11, false)),
  ((⟨"HardestVowsModel", "takes0", "(I)Z"⟩, prog_13_method_37_code), (3, (some .boolean)), (11, false)),
  ((⟨"HardestVowsModel", "must", "(I)V"⟩, prog_13_method_38_code), (2, none), (11, false)),
  ((⟨"HardestVowsModel", "leaf", "()V"⟩, prog_13_method_39_code), (1, none), (11, false)),
  ((⟨"HardestVowsModel", "sign", "(C)I"⟩, prog_13_method_40_code), (1, (some .int)), (11, false)),
  ((⟨"HardestVowsModel", "mustNumber", "(II)V"⟩, prog_13_method_41_code), (3, none), (11, false)),
  ((⟨"HardestVowsModel", "readClause", "()V"⟩, prog_13_method_42_code), (1, none), (11, false)),
  ((⟨"HardestVowsModel", "readOrder", "()V"⟩, prog_13_method_43_code), (1, none), (11, false)),
  ((⟨"HardestVowsModel", "readOne", "()V"⟩, prog_13_method_44_code), (1, none), (11, false)),
  ((⟨"HardestVowsModel", "readTest", "(I)V"⟩, prog_13_method_45_code), (2, none), (11, false)),
  ((⟨"HardestVowsModel", "readBoth", "(I)V"⟩, prog_13_method_46_code), (2, none), (11, false)),
  ((⟨"HardestVowsModel", "readPlain", "(I)V"⟩, prog_13_method_47_code), (4, none), (11, false)),
  ((⟨"HardestVowsModel", "readSum", "(I)V"⟩, prog_13_method_48_code), (2, none), (11, false)),
  ((⟨"HardestVowsModel", "readTerm", "(I)V"⟩, prog_13_method_49_code), (2, none), (11, false)),
  ((⟨"HardestVowsModel", "readPart", "(I)V"⟩, prog_13_method_50_code), (3, none), (11, false)),
  ((⟨"HardestVowsModel", "reads", "()Z"⟩, prog_13_method_51_code), (2, (some .boolean)), (11, false)),
  ((⟨"HardestVowsModel", "readsAs", "(Z)Z"⟩, prog_13_method_52_code), (2, (some .boolean)), (11, false))]
def hv_MT_2 : List hv_MR := [((⟨"HardestVowsModel", "lays", "(I)V"⟩, prog_13_method_53_code), (3, none), (11, false)),
  ((⟨"HardestVowsModel", "law", "()I"⟩, prog_13_method_54_code), (1, (some .int)), (11, false)),
  ((⟨"HardestVowsModel", "fault", "()I"⟩, prog_13_method_55_code), (1, (some .int)), (11, false)),
  ((⟨"HardestVowsModel", "isLaw", "(I)Z"⟩, prog_13_method_56_code), (2, (some .boolean)), (11, false)),
  ((⟨"HardestVowsModel", "force", "(I)I"⟩, prog_13_method_57_code), (3, (some .int)), (11, false)),
  ((⟨"HardestVowsModel", "codeAt", "(I)I"⟩, prog_13_method_58_code), (2, (some .int)), (11, false)),
  ((⟨"HardestVowsModel", "passes0", "(I)Z"⟩, prog_13_method_59_code), (3, (some .boolean)), (11, false)),
  ((⟨"HardestVowsModel", "bounded", "(JZ)J"⟩, prog_13_method_60_code), (4, (some .long)), (11, false)),
  ((⟨"HardestVowsModel", "sumOf", "(Z)J"⟩, prog_13_method_61_code), (7, (some .long)), (11, false)),
  ((⟨"HardestVowsModel", "termOf", "(Z)J"⟩, prog_13_method_62_code), (7, (some .long)), (11, false)),
  ((⟨"HardestVowsModel", "partOf", "(Z)J"⟩, prog_13_method_63_code), (4, (some .long)), (11, false)),
  ((⟨"HardestVowsModel", "orderValue", "(II)I"⟩, prog_13_method_64_code), (3, (some .int)), (11, false)),
  ((⟨"HardestVowsModel", "testOf", "(Z)Z"⟩, prog_13_method_65_code), (4, (some .boolean)), (11, false)),
  ((⟨"HardestVowsModel", "bothOf", "(Z)Z"⟩, prog_13_method_66_code), (4, (some .boolean)), (11, false)),
  ((⟨"HardestVowsModel", "plainOf", "(Z)Z"⟩, prog_13_method_67_code), (3, (some .boolean)), (11, false)),
  ((⟨"HardestVowsModel", "positiveOf", "(Z)Z"⟩, prog_13_method_68_code), (7, (some .boolean)), (11, false)),
  ((⟨"HardestVowsModel", "tells", "(IIIII)I"⟩, prog_13_method_69_code), (13, (some .int)), (11, false)),
  ((⟨"HardestVowsModel", "fallsBy", "(II)I"⟩, prog_13_method_70_code), (3, (some .int)), (11, false)),
  ((⟨"HardestVowsModel", "risesBy", "(II)I"⟩, prog_13_method_71_code), (3, (some .int)), (11, false)),
  ((⟨"HardestVowsModel", "showsOf", "(II)I"⟩, prog_13_method_72_code), (3, (some .int)), (11, false)),
  ((⟨"HardestVowsModel", "breaksIn", "(II)I"⟩, prog_13_method_73_code), (3, (some .int)), (11, false)),
  ((⟨"HardestVowsModel", "isBarred", "(II)Z"⟩, prog_13_method_74_code), (3, (some .boolean)), (11, false)),
  ((⟨"HardestVowsModel", "givenNow", "()I"⟩, prog_13_method_75_code), (3, (some .int)), (11, false)),
  ((⟨"HardestVowsModel", "hardNow", "()I"⟩, prog_13_method_76_code), (3, (some .int)), (11, false)),
  ((⟨"HardestVowsModel", "canGive", "(II)Z"⟩, prog_13_method_77_code), (3, (some .boolean)), (11, false)),
  ((⟨"HardestVowsModel", "gives", "(II)V"⟩, prog_13_method_78_code), (3, none), (11, false)),
  ((⟨"HardestVowsModel", "yearPasses", "()V"⟩, prog_13_method_79_code), (4, none), (11, false)),
  ((⟨"HardestVowsModel", "keeps", "(I)V"⟩, prog_13_method_80_code), (4, none), (11, false)),
  ((⟨"HardestVowsModel", "undo", "()I"⟩, prog_13_method_81_code), (3, (some .int)), (11, false)),
  ((⟨"HardestVowsModel", "goodOr", "(I)I"⟩, prog_13_method_82_code), (2, (some .int)), (11, false)),
  ((⟨"HardestVowsModel", "givesKept", "(II)I"⟩, prog_13_method_83_code), (3, (some .int)), (11, false)),
  ((⟨"HardestVowsModel", "laysKept", "(I)I"⟩, prog_13_method_84_code), (3, (some .int)), (11, false)),
  ((⟨"HardestVowsModel", "canSwap", "(II)Z"⟩, prog_13_method_85_code), (3, (some .boolean)), (11, false)),
  ((⟨"HardestVowsModel", "swapsKept", "(II)I"⟩, prog_13_method_86_code), (4, (some .int)), (11, false)),
  ((⟨"HardestVowsModel", "passesKept", "()I"⟩, prog_13_method_87_code), (1, (some .int)), (11, false)),
  ((⟨"HardestVowsModel", "give", "(II)I"⟩, prog_13_method_88_code), (3, (some .int)), (11, false)),
  ((⟨"HardestVowsModel", "lay", "(I)I"⟩, prog_13_method_89_code), (2, (some .int)), (11, false)),
  ((⟨"HardestVowsModel", "swap", "(II)I"⟩, prog_13_method_90_code), (3, (some .int)), (11, false)),
  ((⟨"HardestVowsModel", "pass", "()I"⟩, prog_13_method_91_code), (1, (some .int)), (11, false)),
  ((⟨"HardestVowsModel", "laysShown", "()V"⟩, prog_13_method_92_code), (3, none), (11, false)),
  ((⟨"HardestVowsModel", "shownBy", "(III)I"⟩, prog_13_method_93_code), (4, (some .int)), (11, false)),
  ((⟨"HardestVowsModel", "laysBest", "()I"⟩, prog_13_method_94_code), (5, (some .int)), (11, false)),
  ((⟨"HardestVowsModel", "best", "(I)I"⟩, prog_13_method_95_code), (3, (some .int)), (11, false)),
  ((⟨"HardestVowsModel", "compare", "(I)I"⟩, prog_13_method_96_code), (3, (some .int)), (11, false)),
  ((⟨"HardestVowsModel", "hardByBest", "(I)I"⟩, prog_13_method_97_code), (2, (some .int)), (11, false)),
  ((⟨"HardestVowsModel", "hide", "(II)I"⟩, prog_13_method_98_code), (8, (some .int)), (11, false)),
  ((⟨"HardestVowsModel", "sumByBest", "()I"⟩, prog_13_method_99_code), (3, (some .int)), (11, false)),
  ((⟨"HardestVowsModel", "obeysBest", "()V"⟩, prog_13_method_100_code), (3, none), (11, false)),
  ((⟨"HardestVowsModel", "soft", "(I)I"⟩, prog_13_method_101_code), (4, (some .int)), (11, false)),
  ((⟨"HardestVowsModel", "triesFair", "(IIII)V"⟩, prog_13_method_102_code), (6, none), (11, false))]
def hv_MT_3 : List hv_MR := [((⟨"HardestVowsModel", "fair", "(I)I"⟩, prog_13_method_103_code), (2, (some .int)), (11, false)),
  ((⟨"HardestVowsModel", "isKept", "(I)Z"⟩, prog_13_method_104_code), (4, (some .boolean)), (11, false)),
  ((⟨"HardestVowsModel", "wishOf", "(I)I"⟩, prog_13_method_105_code), (4, (some .int)), (11, false)),
  ((⟨"HardestVowsModel", "nextAsker", "()I"⟩, prog_13_method_106_code), (2, (some .int)), (11, false)),
  ((⟨"HardestVowsModel", "wished", "(I)I"⟩, prog_13_method_107_code), (6, (some .int)), (11, false)),
  ((⟨"HardestVowsModel", "isHarder", "(II)Z"⟩, prog_13_method_108_code), (5, (some .boolean)), (11, false)),
  ((⟨"HardestVowsModel", "swaps", "(I)I"⟩, prog_13_method_109_code), (5, (some .int)), (11, false)),
  ((⟨"HardestVowsModel", "kept", "(II)J"⟩, prog_13_method_110_code), (7, (some .long)), (11, false)),
  ((⟨"HardestVowsModel", "seen", "(II)I"⟩, prog_13_method_111_code), (4, (some .int)), (11, false)),
  ((⟨"HardestVowsModel", "forget", "()I"⟩, prog_13_method_112_code), (2, (some .int)), (11, false)),
  ((⟨"HardestVowsModel", "canBe", "(I)Z"⟩, prog_13_method_113_code), (4, (some .boolean)), (11, false)),
  ((⟨"HardestVowsModel", "who", "()I"⟩, prog_13_method_114_code), (3, (some .int)), (11, false)),
  ((⟨"HardestVowsModel", "mostAlike", "(II)I"⟩, prog_13_method_115_code), (7, (some .int)), (11, false)),
  ((⟨"HardestVowsModel", "look", "(I)I"⟩, prog_13_method_116_code), (7, (some .int)), (11, false)),
  ((⟨"HardestVowsModel", "stopped", "()I"⟩, prog_13_method_117_code), (1, (some .int)), (11, false)),
  ((⟨"HardestVowsModel", "orders", "()I"⟩, prog_13_method_118_code), (5, (some .int)), (11, false)),
  ((⟨"HardestVowsModel", "goesAlong", "(IZ)V"⟩, prog_13_method_119_code), (5, none), (11, false)),
  ((⟨"HardestVowsModel", "small", "(J)I"⟩, prog_13_method_120_code), (2, (some .int)), (11, false)),
  ((⟨"HardestVowsModel", "obeys", "()I"⟩, prog_13_method_121_code), (3, (some .int)), (11, false)),
  ((⟨"HardestVowsModel", "runs", "(I)Z"⟩, prog_13_method_122_code), (5, (some .boolean)), (11, false)),
  ((⟨"HardestVowsModel", "draws", "(I)I"⟩, prog_13_method_123_code), (2, (some .int)), (11, false)),
  ((⟨"HardestVowsModel", "yearIsDrawn", "()Z"⟩, prog_13_method_124_code), (4, (some .boolean)), (11, false)),
  ((⟨"HardestVowsModel", "years", "(II)I"⟩, prog_13_method_125_code), (5, (some .int)), (11, false)),
  ((⟨"HardestVowsModel", "drawn", "(II)I"⟩, prog_13_method_126_code), (3, (some .int)), (11, false)),
  ((⟨"HardestVowsModel", "count", "(I)I"⟩, prog_13_method_127_code), (2, (some .int)), (11, false)),
  ((⟨"HardestVowsModel", "status", "()I"⟩, prog_13_method_128_code), (1, (some .int)), (11, false)),
  ((⟨"HardestVows$Chooser", "<init>", "()V"⟩, prog_2_method_1_code), (1, none), (0, true)),
  ((⟨"HardestVows$Chooser", "chosen", "(I)I"⟩, prog_2_method_2_code), (2, (some .int)), (0, false)),
  ((⟨"HardestVows$Chooser", "total", "()I"⟩, prog_2_method_3_code), (1, (some .int)), (0, false)),
  ((⟨"HardestVows$Chooser", "chooseBest", "(LHardestVows$Rules;LHardestVows$House;)I"⟩, prog_2_method_4_code), (3, (some .int)), (0, false)),
  ((⟨"HardestVows$Chooser", "chooseWeighed", "(I)I"⟩, prog_2_method_5_code), (2, (some .int)), (0, false)),
  ((⟨"HardestVows$Chooser", "weighShown", "(LHardestVows$Rules;LHardestVows$House;)V"⟩, prog_2_method_6_code), (6, none), (0, false)),
  ((⟨"HardestVows$Chooser", "worthOf", "(II)I"⟩, prog_2_method_7_code), (3, (some .int)), (0, false)),
  ((⟨"HardestVows$Chooser", "setWorth", "(III)V"⟩, prog_2_method_8_code), (4, none), (0, false)),
  ((⟨"HardestVows$Chooser", "chooseFair", "(LHardestVows$Rules;LHardestVows$House;)I"⟩, prog_2_method_9_code), (5, (some .int)), (0, false)),
  ((⟨"HardestVows$Chooser", "weighHard", "(LHardestVows$Rules;LHardestVows$House;)V"⟩, prog_2_method_10_code), (6, none), (0, false)),
  ((⟨"HardestVows$Chooser", "fillMost", "(I)V"⟩, prog_2_method_11_code), (5, none), (0, false)),
  ((⟨"HardestVows$Chooser", "mostFrom", "(II)I"⟩, prog_2_method_12_code), (5, (some .int)), (0, false)),
  ((⟨"HardestVows$Chooser", "mostWith", "(III)I"⟩, prog_2_method_13_code), (6, (some .int)), (0, false)),
  ((⟨"HardestVows$Chooser", "fillRow", "(I)V"⟩, prog_2_method_14_code), (6, none), (0, false)),
  ((⟨"HardestVows$Chooser", "chooseWished", "(LHardestVows$Rules;LHardestVows$House;)I"⟩, prog_2_method_15_code), (5, (some .int)), (0, false)),
  ((⟨"HardestVows$Chooser", "lowestToAsk", "(LHardestVows$House;)I"⟩, prog_2_method_16_code), (3, (some .int)), (0, false)),
  ((⟨"HardestVows$Chooser", "nextWish", "(LHardestVows$House;I)I"⟩, prog_2_method_17_code), (5, (some .int)), (0, false)),
  ((⟨"HardestVows$Chooser", "askFor", "(II)V"⟩, prog_2_method_18_code), (4, none), (0, false)),
  ((⟨"HardestVows$Code", "<init>", "()V"⟩, prog_3_method_1_code), (1, none), (1, true)),
  ((⟨"HardestVows$Code", "<init>", "(LHardestVows$Code;)V"⟩, prog_3_method_2_code), (2, none), (1, true)),
  ((⟨"HardestVows$Code", "clear", "()V"⟩, prog_3_method_3_code), (1, none), (1, false)),
  ((⟨"HardestVows$Code", "addClause", "(I)V"⟩, prog_3_method_4_code), (2, none), (1, false)),
  ((⟨"HardestVows$Code", "mark", "(II)V"⟩, prog_3_method_5_code), (3, none), (1, false)),
  ((⟨"HardestVows$Code", "marked", "(II)I"⟩, prog_3_method_6_code), (3, (some .int)), (1, false))]
def hv_MT_4 : List hv_MR := [((⟨"HardestVows$Code", "addStep", "(II)I"⟩, prog_3_method_7_code), (3, (some .int)), (1, false)),
  ((⟨"HardestVows$Code", "leadHere", "(I)V"⟩, prog_3_method_8_code), (2, none), (1, false)),
  ((⟨"HardestVows$Deeds", "<init>", "(LHardestVows$Whole;LHardestVows$Rules;LHardestVows$Machine;)V"⟩, prog_4_method_1_code), (4, none), (2, true)),
  ((⟨"HardestVows$Deeds", "giveVow", "(II)I"⟩, prog_4_method_2_code), (4, (some .int)), (2, false)),
  ((⟨"HardestVows$Deeds", "layDown", "(I)I"⟩, prog_4_method_3_code), (3, (some .int)), (2, false)),
  ((⟨"HardestVows$Deeds", "swapVows", "(II)I"⟩, prog_4_method_4_code), (6, (some .int)), (2, false)),
  ((⟨"HardestVows$Deeds", "passYear", "()I"⟩, prog_4_method_5_code), (1, (some .int)), (2, false)),
  ((⟨"HardestVows$Deeds", "takeBack", "()I"⟩, prog_4_method_6_code), (1, (some .int)), (2, false)),
  ((⟨"HardestVows$Deeds", "run", "(LHardestVows$Code;)I"⟩, prog_4_method_7_code), (5, (some .int)), (2, false)),
  ((⟨"HardestVows$Deeds", "isWanted", "(LHardestVows$Code;I)Z"⟩, prog_4_method_8_code), (4, (some .boolean)), (2, false)),
  ((⟨"HardestVows$Deeds", "carryOut", "(LHardestVows$Code;I)I"⟩, prog_4_method_9_code), (7, (some .int)), (2, false)),
  ((⟨"HardestVows$Deeds", "setWords", "()V"⟩, prog_4_method_10_code), (3, none), (2, false)),
  ((⟨"HardestVows$House", "<init>", "()V"⟩, prog_5_method_1_code), (1, none), (3, true)),
  ((⟨"HardestVows$House", "monks", "()I"⟩, prog_5_method_2_code), (1, (some .int)), (3, false)),
  ((⟨"HardestVows$House", "isMonk", "(I)Z"⟩, prog_5_method_3_code), (2, (some .boolean)), (3, false)),
  ((⟨"HardestVows$House", "addMonk", "()I"⟩, prog_5_method_4_code), (2, (some .int)), (3, false)),
  ((⟨"HardestVows$House", "hardOf", "(II)I"⟩, prog_5_method_5_code), (3, (some .int)), (3, false)),
  ((⟨"HardestVows$House", "setHard", "(III)V"⟩, prog_5_method_6_code), (4, none), (3, false)),
  ((⟨"HardestVows$House", "vowOf", "(I)I"⟩, prog_5_method_7_code), (2, (some .int)), (3, false)),
  ((⟨"HardestVows$House", "setVow", "(II)V"⟩, prog_5_method_8_code), (3, none), (3, false)),
  ((⟨"HardestVows$House", "heldOf", "(II)I"⟩, prog_5_method_9_code), (3, (some .int)), (3, false)),
  ((⟨"HardestVows$House", "holdOneMore", "(I)V"⟩, prog_5_method_10_code), (3, none), (3, false)),
  ((⟨"HardestVows$House", "isHad", "(I)Z"⟩, prog_5_method_11_code), (3, (some .boolean)), (3, false)),
  ((⟨"HardestVows$House", "given", "()I"⟩, prog_5_method_12_code), (3, (some .int)), (3, false)),
  ((⟨"HardestVows$House", "hardOfAllHad", "()I"⟩, prog_5_method_13_code), (3, (some .int)), (3, false)),
  ((⟨"HardestVows$House", "year", "()I"⟩, prog_5_method_14_code), (1, (some .int)), (3, false)),
  ((⟨"HardestVows$House", "setYear", "(I)V"⟩, prog_5_method_15_code), (2, none), (3, false)),
  ((⟨"HardestVows$House", "mood", "()I"⟩, prog_5_method_16_code), (1, (some .int)), (3, false)),
  ((⟨"HardestVows$House", "setMood", "(I)V"⟩, prog_5_method_17_code), (2, none), (3, false)),
  ((⟨"HardestVows$House", "copyFrom", "(LHardestVows$House;)V"⟩, prog_5_method_18_code), (2, none), (3, false)),
  ((⟨"HardestVows$Machine", "<init>", "()V"⟩, prog_6_method_1_code), (1, none), (4, true)),
  ((⟨"HardestVows$Machine", "told", "()I"⟩, prog_6_method_2_code), (1, (some .int)), (4, false)),
  ((⟨"HardestVows$Machine", "works", "(LHardestVows$Code;I[I)Z"⟩, prog_6_method_3_code), (7, (some .boolean)), (4, false)),
  ((⟨"HardestVows$Machine", "endsWell", "()Z"⟩, prog_6_method_4_code), (1, (some .boolean)), (4, false)),
  ((⟨"HardestVows$Machine", "push", "(I)V"⟩, prog_6_method_5_code), (2, none), (4, false)),
  ((⟨"HardestVows$Machine", "turn", "()V"⟩, prog_6_method_6_code), (1, none), (4, false)),
  ((⟨"HardestVows$Machine", "isSettled", "(I)Z"⟩, prog_6_method_7_code), (3, (some .boolean)), (4, false)),
  ((⟨"HardestVows$Machine", "combines", "(I)Z"⟩, prog_6_method_8_code), (8, (some .boolean)), (4, false)),
  ((⟨"HardestVows$Paper", "<init>", "(LHardestVows$Rules;LHardestVows$Chooser;)V"⟩, prog_7_method_1_code), (3, none), (5, true)),
  ((⟨"HardestVows$Paper", "hidden", "(LHardestVows$Whole;II)I"⟩, prog_7_method_2_code), (12, (some .int)), (5, false)),
  ((⟨"HardestVows$Paper", "hardOfChosen", "(LHardestVows$House;I)I"⟩, prog_7_method_3_code), (4, (some .int)), (5, false)),
  ((⟨"HardestVows$Paper", "firstSoftYear", "(LHardestVows$Whole;I)I"⟩, prog_7_method_4_code), (5, (some .int)), (5, false)),
  ((⟨"HardestVows$Paper", "takeSheet", "(LHardestVows$Whole;)V"⟩, prog_7_method_5_code), (2, none), (5, false)),
  ((⟨"HardestVows$Paper", "takeChosen", "(I)V"⟩, prog_7_method_6_code), (4, none), (5, false)),
  ((⟨"HardestVows$Paper", "chanceKept", "(LHardestVows$Whole;II)J"⟩, prog_7_method_7_code), (8, (some .long)), (5, false)),
  ((⟨"HardestVows$Paper", "possibleMonks", "(LHardestVows$Whole;)I"⟩, prog_7_method_8_code), (4, (some .int)), (5, false)),
  ((⟨"HardestVows$Paper", "showsAllSeen", "(LHardestVows$Whole;I)Z"⟩, prog_7_method_9_code), (4, (some .boolean)), (5, false)),
  ((⟨"HardestVows$Paper", "nextToSee", "(LHardestVows$Whole;I)I"⟩, prog_7_method_10_code), (8, (some .int)), (5, false)),
  ((⟨"HardestVows$Paper", "mostAlike", "(II)I"⟩, prog_7_method_11_code), (7, (some .int)), (5, false)),
  ((⟨"HardestVows$Paper", "drawYears", "(LHardestVows$Whole;II)I"⟩, prog_7_method_12_code), (8, (some .int)), (5, false))]
def hv_MT_5 : List hv_MR := [((⟨"HardestVows$Paper", "draw", "(I)I"⟩, prog_7_method_13_code), (2, (some .int)), (5, false)),
  ((⟨"HardestVows$Reader", "<init>", "([I)V"⟩, prog_8_method_1_code), (2, none), (6, true)),
  ((⟨"HardestVows$Reader", "faultOf", "(IZ)I"⟩, prog_8_method_2_code), (4, (some .int)), (6, false)),
  ((⟨"HardestVows$Reader", "readsRule", "()Z"⟩, prog_8_method_3_code), (2, (some .boolean)), (6, false)),
  ((⟨"HardestVows$Reader", "readsOrder", "()Z"⟩, prog_8_method_4_code), (3, (some .boolean)), (6, false)),
  ((⟨"HardestVows$Reader", "readsMarkedSum", "(I)Z"⟩, prog_8_method_5_code), (2, (some .boolean)), (6, false)),
  ((⟨"HardestVows$Reader", "readsTimes", "()Z"⟩, prog_8_method_6_code), (1, (some .boolean)), (6, false)),
  ((⟨"HardestVows$Reader", "readsCondition", "()Z"⟩, prog_8_method_7_code), (1, (some .boolean)), (6, false)),
  ((⟨"HardestVows$Reader", "readsTest", "(I)Z"⟩, prog_8_method_8_code), (5, (some .boolean)), (6, false)),
  ((⟨"HardestVows$Reader", "readsBoth", "(I)Z"⟩, prog_8_method_9_code), (5, (some .boolean)), (6, false)),
  ((⟨"HardestVows$Reader", "readsPlain", "(I)Z"⟩, prog_8_method_10_code), (4, (some .boolean)), (6, false)),
  ((⟨"HardestVows$Reader", "readsInner", "(II)Z"⟩, prog_8_method_11_code), (4, (some .boolean)), (6, false)),
  ((⟨"HardestVows$Reader", "readsComparison", "(I)Z"⟩, prog_8_method_12_code), (3, (some .boolean)), (6, false)),
  ((⟨"HardestVows$Reader", "readsSum", "(I)Z"⟩, prog_8_method_13_code), (5, (some .boolean)), (6, false)),
  ((⟨"HardestVows$Reader", "readsTerm", "(I)Z"⟩, prog_8_method_14_code), (5, (some .boolean)), (6, false)),
  ((⟨"HardestVows$Reader", "readsPart", "(I)Z"⟩, prog_8_method_15_code), (2, (some .boolean)), (6, false)),
  ((⟨"HardestVows$Reader", "readsWord", "()Z"⟩, prog_8_method_16_code), (2, (some .boolean)), (6, false)),
  ((⟨"HardestVows$Reader", "takes", "(I)Z"⟩, prog_8_method_17_code), (2, (some .boolean)), (6, false)),
  ((⟨"HardestVows$Reader", "takesWord", "(Ljava/lang/String;)Z"⟩, prog_8_method_18_code), (2, (some .boolean)), (6, false)),
  ((⟨"HardestVows$Reader", "placeIn", "(Ljava/lang/String;)I"⟩, prog_8_method_19_code), (6, (some .int)), (6, false)),
  ((⟨"HardestVows$Reader", "step", "()V"⟩, prog_8_method_20_code), (1, none), (6, false)),
  ((⟨"HardestVows$Reader", "isLetter", "(I)Z"⟩, prog_8_method_21_code), (1, (some .boolean)), (6, false)),
  ((⟨"HardestVows$Reader", "isDigit", "(I)Z"⟩, prog_8_method_22_code), (1, (some .boolean)), (6, false)),
  ((⟨"HardestVows$Rules", "<init>", "(LHardestVows$Machine;LHardestVows$House;)V"⟩, prog_9_method_1_code), (3, none), (7, true)),
  ((⟨"HardestVows$Rules", "take", "(LHardestVows$House;LHardestVows$Code;)V"⟩, prog_9_method_2_code), (3, none), (7, false)),
  ((⟨"HardestVows$Rules", "shownBy", "(II)I"⟩, prog_9_method_3_code), (3, (some .int)), (7, false)),
  ((⟨"HardestVows$Rules", "breaksOf", "(II)I"⟩, prog_9_method_4_code), (3, (some .int)), (7, false)),
  ((⟨"HardestVows$Rules", "fallOf", "(II)I"⟩, prog_9_method_5_code), (3, (some .int)), (7, false)),
  ((⟨"HardestVows$Rules", "riseOf", "(II)I"⟩, prog_9_method_6_code), (3, (some .int)), (7, false)),
  ((⟨"HardestVows$Rules", "isBarred", "(II)Z"⟩, prog_9_method_7_code), (3, (some .boolean)), (7, false)),
  ((⟨"HardestVows$Rules", "told", "(III)I"⟩, prog_9_method_8_code), (7, (some .int)), (7, false)),
  ((⟨"HardestVows$Rules", "toldWithout", "(III)I"⟩, prog_9_method_9_code), (4, (some .int)), (7, false)),
  ((⟨"HardestVows$Rules", "setWords", "(II)V"⟩, prog_9_method_10_code), (3, none), (7, false)),
  ((⟨"HardestVows$Rules", "refusalToGive", "(II)I"⟩, prog_9_method_11_code), (3, (some .int)), (7, false)),
  ((⟨"HardestVows$Rules", "refusalToSwap", "(II)I"⟩, prog_9_method_12_code), (6, (some .int)), (7, false)),
  ((⟨"HardestVows$Rules", "isHarderSwapped", "(II)Z"⟩, prog_9_method_13_code), (6, (some .boolean)), (7, false)),
  ((⟨"HardestVows$Rules", "passYear", "()V"⟩, prog_9_method_14_code), (5, none), (7, false)),
  ((⟨"HardestVows$Rules", "passYearOf", "(II)V"⟩, prog_9_method_15_code), (4, none), (7, false)),
  ((⟨"HardestVows$Trail", "<init>", "()V"⟩, prog_10_method_1_code), (1, none), (8, true)),
  ((⟨"HardestVows$Trail", "length", "()I"⟩, prog_10_method_2_code), (1, (some .int)), (8, false)),
  ((⟨"HardestVows$Trail", "clear", "()V"⟩, prog_10_method_3_code), (1, none), (8, false)),
  ((⟨"HardestVows$Trail", "keep", "(ILHardestVows$House;)V"⟩, prog_10_method_4_code), (3, none), (8, false)),
  ((⟨"HardestVows$Trail", "takeBack", "(LHardestVows$House;)I"⟩, prog_10_method_5_code), (2, (some .int)), (8, false)),
  ((⟨"HardestVows$Trail", "copyFrom", "(LHardestVows$Trail;)V"⟩, prog_10_method_6_code), (2, none), (8, false)),
  ((⟨"HardestVows$Whole", "<init>", "()V"⟩, prog_11_method_1_code), (1, none), (9, true)),
  ((⟨"HardestVows$Whole", "isLaw", "(I)Z"⟩, prog_11_method_2_code), (2, (some .boolean)), (9, false)),
  ((⟨"HardestVows$Whole", "lawOf", "(I)LHardestVows$Code;"⟩, prog_11_method_3_code), (2, (some (.object "HardestVows$Code"))), (9, false)),
  ((⟨"HardestVows$Whole", "addLaw", "(LHardestVows$Code;)I"⟩, prog_11_method_4_code), (2, (some .int)), (9, false)),
  ((⟨"HardestVows$Whole", "addSeen", "(II)V"⟩, prog_11_method_5_code), (3, none), (9, false)),
  ((⟨"HardestVows$Whole", "copyFrom", "(LHardestVows$Whole;)V"⟩, prog_11_method_6_code), (3, none), (9, false))]
def hv_MT_6 : List hv_MR := [((⟨"java/lang/Integer", "bitCount", "(I)I"⟩, prog_15_method_49_code), (1, (some .int)), (12, false)),
  ((⟨"java/lang/Math", "max", "(II)I"⟩, prog_16_method_65_code), (2, (some .int)), (13, false)),
  ((⟨"java/lang/Math", "min", "(II)I"⟩, prog_16_method_69_code), (2, (some .int)), (13, false)),
  ((⟨"java/util/Arrays", "copyOf", "([II)[I"⟩, prog_21_method_123_code), (3, (some (.array .int))), (14, false)),
  ((⟨"java/util/Arrays", "fill", "([II)V"⟩, prog_21_method_103_code), (4, none), (14, false))]
def hv_MT_7 : List hv_MR := [((⟨"java/lang/String", "length", "()I"⟩, prog_17_method_54_code), (1, (some .int)), (16, false)), ((⟨"java/lang/String", "charAt", "(I)C"⟩, prog_17_method_56_code), (2, (some .char)), (16, false))]
def hv_MT : List hv_MR := hv_MT_0 ++ (hv_MT_1 ++ (hv_MT_2 ++ (hv_MT_3 ++ (hv_MT_4 ++ (hv_MT_5 ++ (hv_MT_6 ++ (hv_MT_7)))))))
/-- what a method may make: cells, slots -/
def hv_cm (j : Nat) : Nat × Nat := match j with
  | 0 => (39, 4535)
  | 13 => (3, 804)
  | 38 => (6, 96)
  | 55 => (25, 22354)
  | 176 => (5, 1094)
  | 194 => (2, 460)
  | 195 => (2, 800)
  | 202 => (9, 2236)
  | 212 => (1, 66)
  | 230 => (1, 50)
  | 238 => (5, 141)
  | 251 => (3, 464)
  | 273 => (1, 7)
  | 288 => (2, 1072)
  | 294 => (5, 89)
  | 303 => (1, 400)
  | _ => (0, 0)
/-- the kind of a method's receiver -/
def hv_VK : List (Option Nat) := [(some 10), (some 10), (some 10), (some 10), (some 10), (some 10), (some 10), (some 10), (some 10), (some 10), (some 10), (some 10), (some 10), (some 10), (some 10), (some 10), (some 10), (some 10), (some 10), (some 10), (some 10), (some 10), (some 10), (some 10), (some 10), (some 10), (some 10), (some 10), (some 10), (some 10), (some 10), (some 10), (some 10), (some 10), (some 10), (some 10), (some 10), (some 10), (some 10), (some 10), (some 10), (some 10), (some 10), (some 10), (some 10), (some 10), none, none, none, none, none, (some 11), (some 11), (some 11), none, (some 11), (some 11), (some 11), (some 11), (some 11), (some 11), none, none, (some 11), (some 11), (some 11), (some 11), (some 11), (some 11), (some 11), (some 11), (some 11), (some 11), (some 11), (some 11), (some 11), (some 11), (some 11), none, none, (some 11), (some 11), (some 11), (some 11), (some 11), (some 11), (some 11), none, (some 11), (some 11), (some 11), (some 11), (some 11), (some 11), (some 11), (some 11), (some 11), (some 11), (some 11), (some 11), (some 11), (some 11), (some 11), (some 11), (some 11), (some 11), (some 11), (some 11), (some 11), (some 11), (some 11), (some 11), (some 11), (some 11), (some 11), (some 11), (some 11), (some 11), (some 11), (some 11), (some 11), (some 11), (some 11), (some 11), (some 11), (some 11), (some 11), (some 11), (some 11), (some 11), (some 11), (some 11), (some 11), (some 11), (some 11), (some 11), (some 11), (some 11), (some 11), (some 11), (some 11), (some 11), (some 11), (some 11), (some 11), (some 11), (some 11), (some 11), (some 11), (some 11), (some 11), (some 11), (some 11), (some 11), (some 11), (some 11), (some 11), (some 11), (some 11), (some 11), (some 11), (some 11), (some 11), (some 11), (some 11), (some 11), (some 11), none, (some 11), (some 11), (some 11), (some 11), (some 11), (some 11), (some 11), (some 11), (some 0), (some 0), (some 0), (some 0), (some 0), (some 0), (some 0), (some 0), (some 0), (some 0), (some 0), (some 0), (some 0), (some 0), (some 0), (some 0), (some 0), (some 0), (some 1), (some 1), (some 1), (some 1), (some 1), (some 1), (some 1), (some 1), (some 2), (some 2), (some 2), (some 2), (some 2), (some 2), (some 2), (some 2), (some 2), (some 2), (some 3), (some 3), (some 3), (some 3), (some 3), (some 3), (some 3), (some 3), (some 3), (some 3), (some 3), (some 3), (some 3), (some 3), (some 3), (some 3), (some 3), (some 3), (some 4), (some 4), (some 4), (some 4), (some 4), (some 4), (some 4), (some 4), (some 5), (some 5), (some 5), (some 5), (some 5), (some 5), (some 5), (some 5), (some 5), (some 5), (some 5), (some 5), (some 5), (some 6), (some 6), (some 6), (some 6), (some 6), (some 6), (some 6), (some 6), (some 6), (some 6), (some 6), (some 6), (some 6), (some 6), (some 6), (some 6), (some 6), (some 6), (some 6), (some 6), none, none, (some 7), (some 7), (some 7), (some 7), (some 7), (some 7), (some 7), (some 7), (some 7), (some 7), (some 7), (some 7), (some 7), (some 7), (some 7), (some 8), (some 8), (some 8), (some 8), (some 8), (some 8), (some 9), (some 9), (some 9), (some 9), (some 9), (some 9), none, none, none, none, none, none, none]
def hv_vk (j : Nat) : Option Nat := hv_VK.getD j none
def hv_STR : List String := ["give lay swap pass", "not", "and", "or", "year done latest given sum has held", "monk vow hard held has year mood", "to", "with", "times", "if", "falls rises shows breaks bars"]
/-- fields: class, entry, field, place -/
def hv_FT : List (Nat × Nat × Nat × Nat) := [(0, 9, 0, 255), (0, 15, 1, 256), (0, 18, 2, 257), (0, 21, 3, 258), (0, 24, 4, 259), (0, 27, 5, 260), (0, 31, 6, 261), (1, 9, 102, 380), (1, 15, 103, 383), (1, 18, 100, 377), (1, 22, 101, 378), (2, 12, 204, 333), (2, 18, 205, 335), (2, 24, 206, 336), (2, 28, 207, 337), (2, 32, 208, 338), (2, 36, 209, 339), (2, 39, 210, 340), (2, 42, 200, 329), (2, 51, 201, 330), (2, 52, 202, 331), (2, 56, 203, 332), (3, 11, 300, 172), (4, 9, 400, 220), (4, 15, 401, 221), (4, 19, 402, 222), (5, 12, 502, 287), (5, 18, 503, 288), (5, 21, 504, 290), (5, 25, 505, 291), (5, 29, 500, 285), (5, 33, 501, 286), (6, 12, 601, 396), (6, 18, 602, 398), (6, 22, 603, 399), (6, 26, 604, 400), (6, 29, 605, 401), (6, 32, 606, 402), (6, 35, 607, 403), (6, 38, 608, 404), (6, 41, 600, 395), (7, 9, 701, 237), (7, 15, 703, 239), (7, 19, 700, 236), (7, 23, 702, 238), (8, 9, 800, 317), (8, 17, 801, 318), (8, 20, 802, 319), (9, 12, 900, 180), (9, 20, 901, 184), (9, 24, 902, 185), (9, 28, 903, 187), (9, 31, 904, 189), (9, 35, 905, 191), (9, 38, 906, 195), (10, 10, 1000, 424), (10, 20, 1001, 425), (10, 21, 1002, 426), (10, 28, 1003, 427), (10, 37, 1004, 428), (10, 44, 1005, 429), (10, 53, 1006, 430), (10, 62, 1007, 431), (10, 66, 1008, 432), (10, 75, 1009, 433), (10, 79, 1010, 434), (10, 82, 1011, 435), (10, 86, 1012, 436), (10, 89, 1013, 437), (10, 92, 1014, 438), (11, 3, 1100, 1279), (11, 7, 1101, 1280), (11, 11, 1132, 1311), (11, 24, 1102, 1281), (11, 27, 1103, 1282), (11, 30, 1104, 1283), (11, 34, 1105, 1284), (11, 37, 1107, 1286), (11, 41, 1111, 1290), (11, 44, 1112, 1291), (11, 47, 1114, 1293), (11, 50, 1115, 1294), (11, 53, 1116, 1295), (11, 56, 1117, 1296), (11, 59, 1126, 1305), (11, 62, 1129, 1308), (11, 65, 1130, 1309), (11, 68, 1131, 1310), (11, 71, 1133, 1312), (11, 74, 1134, 1313), (11, 77, 1135, 1314), (11, 80, 1136, 1315), (11, 83, 1137, 1316), (11, 86, 1138, 1317), (11, 89, 1141, 1320), (11, 92, 1142, 1321), (11, 95, 1143, 1322), (11, 98, 1149, 1328), (11, 102, 1150, 1329), (11, 105, 1151, 1330), (11, 155, 1113, 1292), (11, 158, 1106, 1285), (11, 164, 1118, 1297), (11, 177, 1121, 1300), (11, 184, 1119, 1298), (11, 193, 1120, 1299), (11, 210, 1110, 1289), (11, 236, 1108, 1287), (11, 239, 1109, 1288), (11, 264, 1123, 1302), (11, 267, 1122, 1301), (11, 277, 1124, 1303), (11, 297, 1125, 1304), (11, 309, 1127, 1306), (11, 312, 1128, 1307), (11, 404, 1139, 1318), (11, 407, 1140, 1319), (11, 441, 1144, 1323), (11, 447, 1146, 1325), (11, 450, 1147, 1326), (11, 453, 1145, 1324), (11, 456, 1148, 1327), (11, 474, 1152, 1331)]
/-- fields of a nest mate -/
def hv_FN : List (Nat × Nat × Nat × Nat) := [(2, 46, 900, 182), (2, 60, 905, 193), (2, 120, 102, 381), (4, 28, 103, 384), (4, 33, 101, 379), (5, 37, 900, 183), (5, 42, 905, 192), (5, 130, 906, 196), (5, 133, 902, 186), (5, 139, 903, 188), (6, 97, 103, 385), (7, 38, 102, 382), (8, 30, 300, 173), (10, 16, 900, 181), (10, 116, 204, 334), (10, 186, 904, 190), (10, 195, 601, 397), (10, 206, 210, 341), (10, 218, 905, 194), (10, 272, 906, 197), (10, 298, 503, 289)]
/-- int constants -/
def hv_KT : List (Nat × Nat × Int × Nat) := [(5, 163, 1000003, 1242), (10, 294, 1000000, 1232), (11, 176, 1000000, 1638), (12, 265, 1431655765, 1045), (12, 266, 858993459, 1046), (12, 267, 252645135, 1047)]
/-- long constants -/
def hv_LT : List (Nat × Nat × Int × Nat) := [(4, 54, 1000000000, 601), (4, 56, (-1000000000), 602), (5, 116, 1000000000000, 1178), (5, 121, 10, 1180), (10, 266, (-1), 1173), (11, 273, 1000000000, 1553), (11, 275, (-1000000000), 1554), (11, 426, (-1), 1872), (11, 428, 1000000000000, 1873), (11, 430, 10, 1874), (11, 459, 1000000, 1923), (11, 472, 1103, 1936), (11, 477, 12345, 1937), (11, 479, 1000003, 1938)]
/-- text constants -/
def hv_ST : List (Nat × Nat × Nat × Nat) := [(6, 68, 10, 844), (6, 84, 0, 705), (6, 86, 6, 828), (6, 88, 7, 829), (6, 108, 8, 834), (6, 110, 9, 839), (6, 118, 3, 817), (6, 126, 2, 812), (6, 128, 1, 799), (6, 146, 4, 826), (6, 148, 5, 827)]
/-- classes of new objects -/
def hv_CT : List (Nat × Nat × Nat × Nat) := [(2, 9, 8, 311), (2, 21, 3, 327), (5, 9, 3, 283), (6, 9, 1, 371), (9, 9, 3, 166), (10, 7, 9, 160), (10, 25, 4, 214), (10, 32, 7, 230), (10, 41, 0, 249), (10, 48, 5, 277), (10, 57, 2, 305), (10, 70, 6, 365), (10, 193, 1, 845), (15, 7, 10, 152), (15, 10, 11, 1273)]
/-- classes of new rows -/
def hv_AT : List (Nat × Nat × Nat × Nat) := [(9, 18, 5, 178), (10, 7, 4, 160)]
/-- Object's own constructor -/
def hv_OT : List (Nat × Nat × Nat) := [(0, 3, 254), (1, 3, 376), (2, 3, 310), (3, 5, 171), (4, 3, 219), (5, 3, 282), (6, 3, 370), (7, 3, 235), (8, 3, 316), (9, 3, 165), (10, 1, 157), (11, 18, 1278)]
/-- copies of rows -/
def hv_YT : List (Nat × Nat × Nat) := [(3, 36, 880), (8, 24, 885), (9, 49, 1257), (14, 150, 860)]
/-- calls, kind V: class, entry, method, values, place -/
def hv_MV : List (Nat × Nat × Nat × Nat × Nat) := [(0, 34, 181, 3, 1027), (0, 38, 213, 1, 1031), (0, 44, 180, 2, 1034), (0, 48, 186, 2, 1038), (0, 52, 189, 2, 1058), (0, 55, 279, 3, 1032), (0, 61, 275, 3, 1033), (0, 65, 185, 3, 1078), (0, 68, 216, 3, 1082), (0, 76, 187, 3, 1048), (0, 79, 188, 4, 1052), (0, 97, 191, 2, 1098), (0, 101, 192, 3, 1102), (0, 105, 193, 3, 1110), (0, 109, 182, 3, 1106), (1, 31, 198, 3, 762), (2, 63, 296, 2, 920), (2, 67, 274, 3, 921), (2, 73, 283, 3, 922), (2, 77, 291, 3, 932), (2, 81, 219, 3, 936), (2, 85, 216, 3, 937), (2, 88, 214, 2, 903), (2, 92, 218, 2, 904), (2, 96, 284, 3, 946), (2, 99, 225, 1, 891), (2, 103, 286, 1, 954), (2, 106, 289, 1, 1011), (2, 109, 292, 2, 1015), (2, 113, 229, 2, 876), (2, 117, 293, 2, 881), (2, 125, 199, 3, 886), (2, 128, 211, 1, 887), (2, 131, 209, 3, 906), (2, 135, 210, 3, 912), (2, 139, 232, 4, 910), (2, 145, 231, 1, 911), (2, 148, 203, 3, 916), (2, 151, 204, 2, 938), (2, 154, 205, 3, 942), (2, 157, 206, 1, 950), (2, 159, 223, 1, 892), (2, 162, 224, 1, 898), (2, 165, 220, 3, 905), (3, 15, 219, 3, 489), (3, 25, 213, 1, 896), (3, 29, 218, 2, 897), (3, 33, 216, 3, 902), (4, 36, 233, 1, 585), (4, 40, 234, 2, 589), (4, 44, 235, 1, 593), (4, 47, 237, 2, 597), (4, 51, 236, 2, 603), (5, 45, 296, 2, 1131), (5, 49, 274, 3, 1132), (5, 55, 179, 3, 1133), (5, 61, 240, 3, 1134), (5, 65, 182, 3, 1141), (5, 69, 183, 4, 1142), (5, 73, 213, 1, 1146), (5, 77, 180, 2, 1147), (5, 81, 177, 2, 1138), (5, 88, 216, 3, 1140), (5, 91, 242, 2, 1156), (5, 95, 243, 2, 1161), (5, 99, 224, 1, 1167), (5, 102, 286, 1, 1168), (5, 105, 229, 2, 1160), (5, 109, 218, 2, 1165), (5, 112, 219, 3, 1166), (5, 118, 276, 3, 1179), (5, 123, 287, 3, 1181), (5, 126, 246, 3, 1205), (5, 136, 275, 3, 1209), (5, 142, 245, 2, 1218), (5, 146, 248, 3, 1219), (5, 154, 225, 1, 1237), (5, 157, 250, 2, 1238), (5, 160, 283, 3, 1243), (6, 51, 196, 1, 687), (6, 54, 270, 1, 691), (6, 57, 254, 1, 701), (6, 61, 253, 1, 840), (6, 64, 267, 2, 818), (6, 70, 269, 2, 706), (6, 74, 197, 2, 758), (6, 78, 255, 2, 766), (6, 81, 257, 1, 835), (6, 90, 268, 2, 800), (6, 94, 256, 1, 830), (6, 98, 198, 3, 770), (6, 102, 263, 2, 771), (6, 105, 200, 3, 808), (6, 112, 258, 2, 787), (6, 115, 259, 2, 791), (6, 120, 201, 2, 813), (6, 123, 260, 2, 795), (6, 130, 261, 3, 783), (6, 134, 262, 2, 804), (6, 137, 264, 2, 775), (6, 140, 265, 2, 779), (6, 143, 266, 1, 822), (7, 27, 280, 4, 548), (7, 31, 281, 4, 552), (7, 34, 282, 3, 557), (7, 44, 199, 3, 574), (7, 48, 232, 4, 578), (7, 54, 231, 1, 607), (7, 65, 216, 3, 556), (7, 70, 220, 3, 561), (7, 73, 218, 2, 562), (7, 77, 225, 1, 566), (7, 80, 227, 1, 570), (7, 87, 214, 2, 927), (7, 90, 222, 2, 928), (7, 93, 284, 3, 1122), (7, 96, 213, 1, 958), (7, 99, 217, 4, 959), (7, 103, 221, 2, 960), (7, 107, 226, 2, 965), (9, 41, 295, 2, 532), (9, 45, 229, 2, 1256), (10, 99, 45, 2, 477), (10, 103, 213, 1, 481), (10, 109, 215, 1, 485), (10, 112, 217, 4, 493), (10, 120, 290, 1, 497), (10, 125, 43, 2, 501), (10, 131, 214, 2, 512), (10, 134, 216, 3, 516), (10, 138, 42, 1, 524), (10, 142, 220, 3, 540), (10, 145, 275, 3, 544), (10, 148, 276, 3, 615), (10, 151, 279, 3, 619), (10, 155, 277, 3, 623), (10, 158, 278, 3, 627), (10, 161, 218, 2, 635), (10, 164, 225, 1, 640), (10, 167, 227, 1, 641), (10, 170, 226, 2, 642), (10, 174, 228, 2, 646), (10, 177, 7, 2, 654), (10, 180, 10, 2, 666), (10, 183, 11, 2, 670), (10, 189, 252, 3, 682), (10, 202, 297, 2, 863), (10, 209, 208, 2, 872), (10, 212, 44, 2, 966), (10, 215, 295, 2, 982), (10, 221, 203, 3, 987), (10, 224, 204, 2, 992), (10, 227, 205, 3, 997), (10, 230, 206, 1, 1002), (10, 233, 207, 1, 1007), (10, 236, 179, 3, 1023), (10, 240, 24, 3, 1062), (10, 243, 177, 2, 1066), (10, 246, 184, 3, 1074), (10, 249, 178, 1, 1083), (10, 252, 190, 3, 1091), (10, 255, 285, 3, 1118), (10, 258, 239, 4, 1127), (10, 262, 241, 3, 1152), (10, 268, 244, 4, 1174), (10, 275, 298, 3, 1189), (10, 279, 245, 2, 1201), (10, 283, 247, 3, 1214), (10, 286, 296, 2, 528), (10, 290, 274, 3, 536), (10, 295, 249, 4, 1233), (10, 301, 299, 2, 1252), (10, 305, 223, 1, 1266), (10, 308, 224, 1, 1267), (10, 311, 289, 1, 1268), (11, 14, 52, 2, 1452), (11, 112, 51, 2, 1448), (11, 115, 53, 2, 1460), (11, 122, 67, 1, 1471), (11, 129, 60, 2, 1482), (11, 132, 63, 3, 1486), (11, 136, 65, 3, 1494), (11, 139, 119, 3, 1498), (11, 142, 120, 3, 1571), (11, 145, 121, 3, 1575), (11, 149, 117, 3, 1579), (11, 152, 118, 3, 1583), (11, 161, 73, 2, 1596), (11, 173, 80, 3, 1634), (11, 180, 82, 1, 1651), (11, 187, 84, 2, 1647), (11, 190, 83, 1, 1667), (11, 196, 95, 2, 1655), (11, 200, 85, 2, 1671), (11, 203, 92, 2, 1683), (11, 206, 88, 3, 1679), (11, 214, 90, 1, 1643), (11, 217, 89, 1, 1695), (11, 220, 93, 2, 1687), (11, 223, 94, 2, 1691), (11, 230, 96, 2, 1659), (11, 233, 97, 2, 1663), (11, 242, 86, 1, 1675), (11, 245, 81, 2, 1624), (11, 248, 91, 1, 1639), (11, 251, 98, 1, 1620), (11, 254, 99, 2, 1616), (11, 258, 100, 2, 1699), (11, 261, 103, 2, 1711), (11, 270, 105, 2, 1506), (11, 280, 109, 2, 1514), (11, 284, 107, 3, 1549), (11, 288, 110, 2, 1518), (11, 291, 106, 2, 1525), (11, 294, 108, 2, 1510), (11, 300, 111, 3, 1529), (11, 303, 64, 2, 1533), (11, 306, 71, 2, 1537), (11, 315, 122, 1, 1541), (11, 318, 123, 1, 1545), (11, 321, 113, 2, 1559), (11, 324, 114, 2, 1563), (11, 327, 115, 2, 1567), (11, 330, 112, 2, 1555), (11, 333, 116, 6, 1502), (11, 337, 66, 2, 1731), (11, 346, 124, 3, 1727), (11, 349, 127, 2, 1735), (11, 352, 125, 3, 1739), (11, 355, 132, 3, 1763), (11, 358, 126, 1, 1775), (11, 361, 130, 3, 1723), (11, 364, 129, 2, 1743), (11, 367, 131, 2, 1751), (11, 370, 133, 3, 1759), (11, 373, 134, 1, 1771), (11, 379, 140, 4, 1797), (11, 383, 139, 1, 1789), (11, 386, 141, 1, 1793), (11, 389, 144, 2, 1812), (11, 392, 56, 2, 1820), (11, 395, 146, 1, 1824), (11, 398, 147, 1, 1828), (11, 401, 57, 2, 1832), (11, 410, 149, 5, 1840), (11, 414, 151, 2, 1852), (11, 417, 152, 2, 1856), (11, 420, 153, 1, 1848), (11, 423, 155, 3, 1864), (11, 432, 160, 2, 1887), (11, 435, 161, 1, 1895), (11, 438, 162, 3, 1896), (11, 444, 169, 2, 1908), (11, 465, 166, 3, 1912), (11, 469, 168, 1, 1916), (11, 481, 170, 2, 1932), (11, 484, 171, 1, 1928), (15, 13, 1, 2, 470), (15, 17, 68, 2, 1464), (15, 18, 2, 4, 505), (15, 22, 69, 4, 1475), (15, 23, 3, 4, 520), (15, 26, 70, 4, 1490), (15, 27, 4, 2, 631), (15, 30, 71, 2, 1587), (15, 31, 5, 3, 636), (15, 35, 72, 3, 1588), (15, 36, 6, 6, 650), (15, 40, 76, 6, 1604), (15, 41, 8, 2, 658), (15, 44, 77, 2, 1608), (15, 45, 9, 1, 662), (15, 49, 74, 1, 1592), (15, 50, 12, 1, 674), (15, 53, 75, 1, 1600), (15, 54, 13, 1, 678), (15, 57, 101, 1, 1612), (15, 58, 14, 1, 868), (15, 61, 165, 1, 1904), (15, 62, 15, 1, 970), (15, 65, 102, 1, 1703), (15, 66, 16, 1, 974), (15, 69, 164, 1, 1900), (15, 70, 17, 2, 978), (15, 73, 104, 2, 1707), (15, 74, 18, 3, 983), (15, 77, 135, 3, 1719), (15, 78, 19, 2, 988), (15, 81, 136, 2, 1747), (15, 82, 20, 3, 993), (15, 85, 137, 3, 1755), (15, 86, 21, 1, 998), (15, 89, 138, 1, 1767), (15, 90, 22, 1, 1003), (15, 93, 128, 1, 1715), (15, 94, 23, 2, 1019), (15, 97, 142, 2, 1785), (15, 98, 25, 2, 1070), (15, 101, 150, 2, 1836), (15, 102, 26, 2, 1087), (15, 105, 154, 2, 1844), (15, 106, 27, 2, 1114), (15, 109, 156, 2, 1860), (15, 110, 28, 3, 1123), (15, 113, 145, 3, 1808), (15, 114, 29, 2, 1148), (15, 117, 148, 2, 1816), (15, 118, 30, 3, 1169), (15, 122, 157, 3, 1868), (15, 123, 31, 3, 1185), (15, 126, 158, 3, 1875), (15, 127, 32, 1, 1193), (15, 130, 159, 1, 1879), (15, 131, 33, 1, 1197), (15, 134, 161, 1, 1883), (15, 135, 34, 2, 1210), (15, 138, 163, 2, 1891), (15, 139, 35, 2, 1224), (15, 142, 143, 2, 1804), (15, 143, 36, 3, 1228), (15, 146, 172, 3, 1924), (15, 147, 37, 3, 1244), (15, 150, 173, 3, 1939), (15, 151, 38, 2, 1248), (15, 154, 58, 2, 1441), (15, 155, 39, 2, 1258), (15, 158, 59, 2, 1456), (15, 159, 40, 2, 1262), (15, 162, 174, 2, 1943), (15, 163, 41, 1, 1269), (15, 166, 175, 1, 1947)]
/-- calls, kind S: class, entry, method, values, place -/
def hv_MS : List (Nat × Nat × Nat × Nat × Nat) := [(0, 71, 300, 1, 1042), (0, 83, 301, 2, 1057), (0, 88, 302, 2, 1056), (0, 91, 304, 2, 1095), (1, 25, 303, 2, 849), (3, 19, 302, 2, 964), (4, 22, 301, 2, 582), (5, 149, 301, 2, 1223), (6, 45, 302, 2, 686), (6, 159, 271, 1, 695), (6, 162, 272, 1, 698), (7, 57, 302, 2, 611), (7, 62, 301, 2, 614), (10, 95, 47, 1, 474), (10, 128, 46, 1, 509), (11, 108, 48, 3, 1445), (11, 118, 62, 1, 1468), (11, 126, 61, 1, 1479), (11, 167, 78, 1, 1628), (11, 170, 79, 1, 1631), (11, 226, 87, 1, 1522), (11, 340, 50, 2, 1779), (11, 343, 49, 2, 1782), (11, 376, 54, 2, 1801), (11, 461, 167, 1, 1920), (14, 304, 302, 2, 859)]
/-- calls, kind I: class, entry, method, values, place -/
def hv_MI : List (Nat × Nat × Nat × Nat × Nat) := [(6, 11, 194, 1, 373), (10, 34, 273, 3, 232), (10, 50, 238, 3, 279), (10, 59, 202, 4, 307), (10, 72, 251, 2, 367), (10, 199, 195, 2, 846), (15, 9, 0, 1, 154), (15, 12, 55, 1, 1275)]
/-- calls, kind VN: class, entry, method, values, place -/
def hv_MVN : List (Nat × Nat × Nat × Nat × Nat) := []
/-- calls, kind SN: class, entry, method, values, place -/
def hv_MSN : List (Nat × Nat × Nat × Nat × Nat) := [(5, 84, 46, 1, 1139), (7, 83, 46, 1, 926)]
/-- calls, kind IN: class, entry, method, values, place -/
def hv_MIN : List (Nat × Nat × Nat × Nat × Nat) := [(2, 11, 288, 1, 313), (2, 23, 212, 1, 328), (5, 11, 212, 1, 284), (9, 11, 212, 1, 168), (10, 9, 294, 1, 162), (10, 27, 230, 1, 216), (10, 43, 176, 1, 251)]
/-- calls, kind X: class, entry, method, values, place -/
def hv_MX : List (Nat × Nat × Nat × Nat × Nat) := [(6, 150, 305, 1, 710), (6, 155, 306, 2, 720)]
/-- where a method's own words stand: code, instance or static, selects, class -/
def hv_MP_0 : List (Nat × Nat × Nat × Nat) := [(156, 155, 0, 132), (473, 471, 472, 132), (508, 506, 507, 132), (523, 521, 522, 132), (634, 632, 633, 132), (639, 637, 638, 132), (653, 651, 652, 132), (657, 656, 11, 132), (661, 659, 660, 132), (665, 663, 664, 132), (669, 668, 12, 132), (673, 672, 13, 132), (677, 675, 676, 132), (681, 679, 680, 132), (871, 869, 870, 132), (973, 971, 972, 132), (977, 975, 976, 132), (981, 979, 980, 132), (986, 984, 985, 132), (991, 989, 990, 132), (996, 994, 995, 132), (1001, 999, 1000, 132), (1006, 1004, 1005, 132), (1022, 1020, 1021, 132), (1065, 1064, 40, 132), (1073, 1071, 1072, 132), (1090, 1088, 1089, 132), (1117, 1115, 1116, 132), (1126, 1124, 1125, 132), (1151, 1149, 1150, 132), (1172, 1170, 1171, 132), (1188, 1186, 1187, 132), (1196, 1194, 1195, 132), (1200, 1198, 1199, 132), (1213, 1211, 1212, 132), (1227, 1225, 1226, 132), (1231, 1229, 1230, 132), (1247, 1245, 1246, 132), (1251, 1249, 1250, 132), (1261, 1259, 1260, 132), (1265, 1263, 1264, 132), (1272, 1270, 1271, 132), (527, 526, 2, 132), (504, 503, 1, 132), (969, 968, 35, 132), (480, 479, 0, 132), (511, 510, 0, 132), (476, 475, 0, 132), (1447, 1446, 0, 143), (1784, 1783, 0, 143)]
def hv_MP_1 : List (Nat × Nat × Nat × Nat) := [(1781, 1780, 0, 143), (1451, 1450, 51, 143), (1455, 1454, 52, 143), (1463, 1462, 53, 143), (1803, 1802, 0, 143), (1277, 1276, 0, 143), (1823, 1822, 115, 143), (1835, 1834, 118, 143), (1444, 1442, 1443, 143), (1459, 1457, 1458, 143), (1485, 1484, 55, 143), (1481, 1480, 0, 143), (1470, 1469, 0, 143), (1489, 1488, 56, 143), (1536, 1535, 66, 143), (1497, 1496, 57, 143), (1734, 1733, 102, 143), (1474, 1473, 54, 143), (1467, 1465, 1466, 143), (1478, 1476, 1477, 143), (1493, 1491, 1492, 143), (1540, 1538, 1539, 143), (1591, 1589, 1590, 143), (1599, 1598, 78, 143), (1595, 1593, 1594, 143), (1603, 1601, 1602, 143), (1607, 1605, 1606, 143), (1611, 1609, 1610, 143), (1630, 1629, 0, 143), (1633, 1632, 0, 143), (1637, 1636, 82, 143), (1627, 1626, 81, 143), (1654, 1653, 86, 143), (1670, 1669, 90, 143), (1650, 1649, 85, 143), (1674, 1673, 91, 143), (1678, 1677, 92, 143), (1524, 1523, 0, 143), (1682, 1681, 93, 143), (1698, 1697, 97, 143), (1646, 1645, 84, 143), (1642, 1641, 83, 143), (1686, 1685, 94, 143), (1690, 1689, 95, 143), (1694, 1693, 96, 143), (1658, 1657, 87, 143), (1662, 1661, 88, 143), (1666, 1665, 89, 143), (1623, 1622, 80, 143), (1619, 1618, 79, 143)]
def hv_MP_2 : List (Nat × Nat × Nat × Nat) := [(1702, 1701, 98, 143), (1615, 1613, 1614, 143), (1706, 1704, 1705, 143), (1714, 1713, 99, 143), (1710, 1708, 1709, 143), (1509, 1508, 60, 143), (1528, 1527, 64, 143), (1552, 1551, 69, 143), (1513, 1512, 61, 143), (1517, 1516, 62, 143), (1521, 1520, 63, 143), (1532, 1531, 65, 143), (1558, 1557, 70, 143), (1562, 1561, 71, 143), (1566, 1565, 72, 143), (1570, 1569, 73, 143), (1505, 1504, 59, 143), (1582, 1581, 76, 143), (1586, 1585, 77, 143), (1501, 1500, 58, 143), (1574, 1573, 74, 143), (1578, 1577, 75, 143), (1544, 1543, 67, 143), (1548, 1547, 68, 143), (1730, 1729, 101, 143), (1742, 1741, 104, 143), (1778, 1777, 110, 143), (1738, 1737, 103, 143), (1718, 1716, 1717, 143), (1746, 1745, 105, 143), (1726, 1725, 100, 143), (1754, 1753, 106, 143), (1766, 1765, 108, 143), (1762, 1761, 107, 143), (1774, 1773, 109, 143), (1722, 1720, 1721, 143), (1750, 1748, 1749, 143), (1758, 1756, 1757, 143), (1770, 1768, 1769, 143), (1792, 1791, 111, 143), (1800, 1799, 113, 143), (1796, 1795, 112, 143), (1788, 1786, 1787, 143), (1807, 1805, 1806, 143), (1815, 1814, 114, 143), (1811, 1809, 1810, 143), (1827, 1826, 116, 143), (1831, 1830, 117, 143), (1819, 1817, 1818, 143), (1843, 1842, 119, 143)]
def hv_MP_3 : List (Nat × Nat × Nat × Nat) := [(1839, 1837, 1838, 143), (1855, 1854, 121, 143), (1859, 1858, 122, 143), (1851, 1850, 120, 143), (1847, 1845, 1846, 143), (1867, 1866, 123, 143), (1863, 1861, 1862, 143), (1871, 1869, 1870, 143), (1878, 1876, 1877, 143), (1882, 1880, 1881, 143), (1890, 1889, 124, 143), (1886, 1884, 1885, 143), (1899, 1898, 125, 143), (1894, 1892, 1893, 143), (1903, 1901, 1902, 143), (1907, 1905, 1906, 143), (1915, 1914, 127, 143), (1922, 1921, 0, 143), (1919, 1918, 128, 143), (1911, 1910, 126, 143), (1935, 1934, 130, 143), (1931, 1930, 129, 143), (1927, 1925, 1926, 143), (1942, 1940, 1941, 143), (1946, 1944, 1945, 143), (1950, 1948, 1949, 143), (253, 252, 0, 137), (1069, 1067, 1068, 137), (1086, 1084, 1085, 137), (1026, 1024, 1025, 137), (1037, 1035, 1036, 137), (1030, 1028, 1029, 137), (1109, 1107, 1108, 137), (1145, 1143, 1144, 137), (1077, 1075, 1076, 137), (1081, 1080, 41, 137), (1041, 1040, 36, 137), (1051, 1050, 37, 137), (1055, 1054, 38, 137), (1061, 1060, 39, 137), (1094, 1092, 1093, 137), (1101, 1100, 42, 137), (1105, 1104, 43, 137), (1113, 1112, 44, 137), (375, 374, 0, 142), (848, 847, 0, 142), (690, 688, 689, 142), (761, 759, 760, 142), (765, 763, 764, 142), (577, 575, 576, 142)]
def hv_MP_4 : List (Nat × Nat × Nat × Nat) := [(811, 809, 810, 142), (816, 814, 815, 142), (309, 308, 0, 139), (919, 917, 918, 139), (941, 939, 940, 139), (945, 943, 944, 139), (953, 951, 952, 139), (1010, 1008, 1009, 139), (875, 873, 874, 139), (909, 908, 33, 139), (915, 914, 34, 139), (890, 889, 32, 139), (170, 169, 0, 134), (484, 482, 483, 134), (515, 513, 514, 134), (488, 486, 487, 134), (519, 517, 518, 134), (496, 494, 495, 134), (565, 563, 564, 134), (492, 490, 491, 134), (543, 541, 542, 134), (963, 961, 962, 134), (931, 929, 930, 134), (895, 893, 894, 134), (901, 899, 900, 134), (569, 567, 568, 134), (645, 643, 644, 134), (573, 571, 572, 134), (649, 647, 648, 134), (879, 877, 878, 134), (218, 217, 0, 135), (610, 608, 609, 135), (581, 579, 580, 135), (588, 587, 6, 135), (592, 591, 7, 135), (596, 595, 8, 135), (606, 605, 10, 135), (600, 599, 9, 135), (281, 280, 0, 138), (1130, 1128, 1129, 138), (1137, 1136, 45, 138), (1155, 1153, 1154, 138), (1159, 1158, 46, 138), (1164, 1163, 47, 138), (1177, 1175, 1176, 138), (1204, 1202, 1203, 138), (1208, 1207, 48, 138), (1217, 1215, 1216, 138), (1222, 1221, 49, 138), (1236, 1234, 1235, 138)]
def hv_MP_5 : List (Nat × Nat × Nat × Nat) := [(1241, 1240, 50, 138), (369, 368, 0, 141), (685, 683, 684, 141), (843, 842, 31, 141), (704, 703, 15, 141), (769, 768, 17, 141), (833, 832, 29, 141), (838, 837, 30, 141), (790, 789, 22, 141), (794, 793, 23, 141), (798, 797, 24, 141), (786, 785, 21, 141), (807, 806, 26, 141), (774, 773, 18, 141), (778, 777, 19, 141), (782, 781, 20, 141), (825, 824, 28, 141), (821, 820, 27, 141), (803, 802, 25, 141), (709, 708, 16, 141), (694, 693, 14, 141), (697, 696, 0, 141), (700, 699, 0, 141), (234, 233, 0, 136), (539, 537, 538, 136), (547, 545, 546, 136), (618, 616, 617, 136), (626, 624, 625, 136), (630, 628, 629, 136), (622, 620, 621, 136), (551, 550, 3, 136), (555, 554, 4, 136), (560, 559, 5, 136), (925, 923, 924, 136), (949, 947, 948, 136), (1121, 1119, 1120, 136), (957, 955, 956, 136), (1184, 1182, 1183, 136), (315, 314, 0, 140), (1014, 1012, 1013, 140), (500, 498, 499, 140), (935, 933, 934, 140), (1018, 1016, 1017, 140), (884, 882, 883, 140), (164, 163, 0, 133), (535, 533, 534, 133), (531, 529, 530, 133), (866, 864, 865, 133), (1192, 1190, 1191, 133), (1255, 1253, 1254, 133)]
def hv_MP_6 : List (Nat × Nat × Nat × Nat) := [(1044, 1043, 0, 151), (584, 583, 0, 144), (613, 612, 0, 144), (851, 850, 0, 149), (1097, 1096, 0, 149)]
def hv_MP : List (Nat × Nat × Nat × Nat) := hv_MP_0 ++ (hv_MP_1 ++ (hv_MP_2 ++ (hv_MP_3 ++ (hv_MP_4 ++ (hv_MP_5 ++ (hv_MP_6))))))
def hv_XI : List (Nat × Nat) := [(250, 137), (372, 142), (306, 139), (167, 134), (215, 135), (278, 138), (366, 141), (231, 136), (312, 140), (161, 133), (153, 132), (1274, 143)]
