/-! classes: names, fields, types (as TURN prints them) -/
def RX0 : String := "BitOff$Acts"
def TX0 : u_T := fun k => match k with
  | 0 => ("BitOff$Acts", "bodies", "[I", true)
  | 1 => ("BitOff$Acts", "ran", "I", false)
  | 2 => ("BitOff$Acts", "kind", "I", false)
  | 3 => ("BitOff$Acts", "v", "I", false)
  | _ => ("BitOff$Acts", "number", "I", false)
def tyX0 : Nat → FieldType := fun k => match k with
  | 0 => .array .int
  | 1 => .int
  | 2 => .int
  | 3 => .int
  | _ => .int
theorem nmX0 : ∀ a, a < 5 → ∀ b, b < 5 → a ≠ b → (TX0 a).2.1 ≠ (TX0 b).2.1 := by decide +kernel
theorem tyX0_ok : ∀ k, k < 5 → parseFieldDescriptor (TX0 k).2.2.1 = some (tyX0 k) := by decide +kernel
def RX1 : String := "BitOff$Kitchen"
def TX1 : u_T := fun k => match k with
  | 0 => ("BitOff$Kitchen", "changes", "[I", true)
  | 1 => ("BitOff$Kitchen", "codeEnds", "[I", true)
  | 2 => ("BitOff$Kitchen", "judgements", "I", false)
  | 3 => ("BitOff$Kitchen", "codes", "[I", true)
  | 4 => ("BitOff$Kitchen", "codesUsed", "I", false)
  | 5 => ("BitOff$Kitchen", "give", "I", false)
  | 6 => ("BitOff$Kitchen", "leave", "I", false)
  | _ => ("BitOff$Kitchen", "half", "Z", false)
def tyX1 : Nat → FieldType := fun k => match k with
  | 0 => .array .int
  | 1 => .array .int
  | 2 => .int
  | 3 => .array .int
  | 4 => .int
  | 5 => .int
  | 6 => .int
  | _ => .boolean
theorem nmX1 : ∀ a, a < 8 → ∀ b, b < 8 → a ≠ b → (TX1 a).2.1 ≠ (TX1 b).2.1 := by decide +kernel
theorem tyX1_ok : ∀ k, k < 8 → parseFieldDescriptor (TX1 k).2.2.1 = some (tyX1 k) := by decide +kernel
def RX2 : String := "BitOff$Notes"
def TX2 : u_T := fun k => match k with
  | 0 => ("BitOff$Notes", "seen", "[I", true)
  | 1 => ("BitOff$Notes", "seenRows", "I", false)
  | 2 => ("BitOff$Notes", "planSteps", "[I", true)
  | 3 => ("BitOff$Notes", "planRows", "I", false)
  | 4 => ("BitOff$Notes", "bookSides", "[I", true)
  | 5 => ("BitOff$Notes", "bookLengths", "[I", true)
  | _ => ("BitOff$Notes", "bookRows", "I", false)
def tyX2 : Nat → FieldType := fun k => match k with
  | 0 => .array .int
  | 1 => .int
  | 2 => .array .int
  | 3 => .int
  | 4 => .array .int
  | 5 => .array .int
  | _ => .int
theorem nmX2 : ∀ a, a < 7 → ∀ b, b < 7 → a ≠ b → (TX2 a).2.1 ≠ (TX2 b).2.1 := by decide +kernel
theorem tyX2_ok : ∀ k, k < 7 → parseFieldDescriptor (TX2 k).2.2.1 = some (tyX2 k) := by decide +kernel
def RX3 : String := "BitOff$Reader"
def TX3 : u_T := fun k => match k with
  | 0 => ("BitOff$Reader", "text", "[B", true)
  | 1 => ("BitOff$Reader", "length", "I", false)
  | 2 => ("BitOff$Reader", "at", "I", false)
  | _ => ("BitOff$Reader", "into", "LBitOff$Kitchen;", false)
def tyX3 : Nat → FieldType := fun k => match k with
  | 0 => .array .byte
  | 1 => .int
  | 2 => .int
  | _ => .object "BitOff$Kitchen"
theorem nmX3 : ∀ a, a < 4 → ∀ b, b < 4 → a ≠ b → (TX3 a).2.1 ≠ (TX3 b).2.1 := by decide +kernel
theorem tyX3_ok : ∀ k, k < 4 → parseFieldDescriptor (TX3 k).2.2.1 = some (tyX3 k) := by decide +kernel
def RX4 : String := "BitOff$Table"
def TX4 : u_T := fun k => match k with
  | 0 => ("BitOff$Table", "people", "I", false)
  | 1 => ("BitOff$Table", "kinds", "[I", true)
  | 2 => ("BitOff$Table", "numbers", "[I", true)
  | 3 => ("BitOff$Table", "lengths", "[I", true)
  | 4 => ("BitOff$Table", "cuts", "[I", true)
  | 5 => ("BitOff$Table", "rows", "[I", true)
  | 6 => ("BitOff$Table", "snips", "I", false)
  | 7 => ("BitOff$Table", "days", "I", false)
  | 8 => ("BitOff$Table", "following", "LBitOff$Kitchen;", false)
  | 9 => ("BitOff$Table", "give", "I", false)
  | 10 => ("BitOff$Table", "leave", "I", false)
  | 11 => ("BitOff$Table", "half", "Z", false)
  | 12 => ("BitOff$Table", "letters", "[I", true)
  | 13 => ("BitOff$Table", "looksLongest", "I", false)
  | 14 => ("BitOff$Table", "lastTaken", "I", false)
  | _ => ("BitOff$Table", "cutMore", "I", false)
def tyX4 : Nat → FieldType := fun k => match k with
  | 0 => .int
  | 1 => .array .int
  | 2 => .array .int
  | 3 => .array .int
  | 4 => .array .int
  | 5 => .array .int
  | 6 => .int
  | 7 => .int
  | 8 => .object "BitOff$Kitchen"
  | 9 => .int
  | 10 => .int
  | 11 => .boolean
  | 12 => .array .int
  | 13 => .int
  | 14 => .int
  | _ => .int
theorem nmX4 : ∀ a, a < 16 → ∀ b, b < 16 → a ≠ b → (TX4 a).2.1 ≠ (TX4 b).2.1 := by decide +kernel
theorem tyX4_ok : ∀ k, k < 16 → parseFieldDescriptor (TX4 k).2.2.1 = some (tyX4 k) := by decide +kernel
def RX5 : String := "BitOff$Tapes"
def TX5 : u_T := fun k => match k with
  | 0 => ("BitOff$Tapes", "sorts", "[I", true)
  | 1 => ("BitOff$Tapes", "sizes", "[I", true)
  | _ => ("BitOff$Tapes", "rows", "[[J", true)
def tyX5 : Nat → FieldType := fun k => match k with
  | 0 => .array .int
  | 1 => .array .int
  | _ => .array (.array .long)
theorem nmX5 : ∀ a, a < 3 → ∀ b, b < 3 → a ≠ b → (TX5 a).2.1 ≠ (TX5 b).2.1 := by decide +kernel
theorem tyX5_ok : ∀ k, k < 3 → parseFieldDescriptor (TX5 k).2.2.1 = some (tyX5 k) := by decide +kernel
def RX6 : String := "BitOff"
def TX6 : u_T := fun k => match k with
  | 0 => ("BitOff", "table", "LBitOff$Table;", true)
  | 1 => ("BitOff", "notes", "LBitOff$Notes;", true)
  | 2 => ("BitOff", "pictureTable", "LBitOff$Table;", true)
  | 3 => ("BitOff", "pictureNotes", "LBitOff$Notes;", true)
  | 4 => ("BitOff", "pictured", "Z", false)
  | 5 => ("BitOff", "trial", "LBitOff$Table;", true)
  | 6 => ("BitOff", "kitchens", "[LBitOff$Kitchen;", true)
  | 7 => ("BitOff", "kitchensRead", "I", false)
  | 8 => ("BitOff", "reader", "LBitOff$Reader;", true)
  | 9 => ("BitOff", "acts", "LBitOff$Acts;", true)
  | _ => ("BitOff", "tapes", "LBitOff$Tapes;", true)
def tyX6 : Nat → FieldType := fun k => match k with
  | 0 => .object "BitOff$Table"
  | 1 => .object "BitOff$Notes"
  | 2 => .object "BitOff$Table"
  | 3 => .object "BitOff$Notes"
  | 4 => .boolean
  | 5 => .object "BitOff$Table"
  | 6 => .array (.object "BitOff$Kitchen")
  | 7 => .int
  | 8 => .object "BitOff$Reader"
  | 9 => .object "BitOff$Acts"
  | _ => .object "BitOff$Tapes"
theorem nmX6 : ∀ a, a < 11 → ∀ b, b < 11 → a ≠ b → (TX6 a).2.1 ≠ (TX6 b).2.1 := by decide +kernel
theorem tyX6_ok : ∀ k, k < 11 → parseFieldDescriptor (TX6 k).2.2.1 = some (tyX6 k) := by decide +kernel
def RX7 : String := "BitOffModel"
def TX7 : u_T := fun k => match k with
  | 0 => ("BitOffModel", "sides", "I", false)
  | 1 => ("BitOffModel", "snips", "I", false)
  | 2 => ("BitOffModel", "days", "I", false)
  | 3 => ("BitOffModel", "kind", "[I", true)
  | 4 => ("BitOffModel", "v", "[I", true)
  | 5 => ("BitOffModel", "tall", "[I", true)
  | 6 => ("BitOffModel", "off", "[I", true)
  | 7 => ("BitOffModel", "rows", "[I", true)
  | 8 => ("BitOffModel", "kitchens", "I", false)
  | 9 => ("BitOffModel", "the", "I", false)
  | 10 => ("BitOffModel", "fed", "I", false)
  | 11 => ("BitOffModel", "at", "I", false)
  | 12 => ("BitOffModel", "digits", "I", false)
  | 13 => ("BitOffModel", "text", "[I", true)
  | 14 => ("BitOffModel", "clauses", "[I", true)
  | 15 => ("BitOffModel", "word", "[I", true)
  | 16 => ("BitOffModel", "number", "[I", true)
  | 17 => ("BitOffModel", "from", "[I", true)
  | 18 => ("BitOffModel", "to", "[I", true)
  | 19 => ("BitOffModel", "sign", "[I", true)
  | 20 => ("BitOffModel", "waits", "[I", true)
  | 21 => ("BitOffModel", "signs", "I", false)
  | 22 => ("BitOffModel", "waiting", "I", false)
  | 23 => ("BitOffModel", "open", "I", false)
  | 24 => ("BitOffModel", "letters", "[I", true)
  | 25 => ("BitOffModel", "giveInMind", "I", false)
  | 26 => ("BitOffModel", "leaveInMind", "I", false)
  | 27 => ("BitOffModel", "halfInMind", "I", false)
  | 28 => ("BitOffModel", "pile", "[Z", true)
  | 29 => ("BitOffModel", "mostOff", "I", false)
  | 30 => ("BitOffModel", "tookLast", "I", false)
  | 31 => ("BitOffModel", "keptSnips", "I", false)
  | 32 => ("BitOffModel", "keptDays", "I", false)
  | 33 => ("BitOffModel", "keptTall", "[I", true)
  | 34 => ("BitOffModel", "keptOff", "[I", true)
  | 35 => ("BitOffModel", "seen", "I", false)
  | 36 => ("BitOffModel", "seenTaken", "[I", true)
  | 37 => ("BitOffModel", "plans", "I", false)
  | 38 => ("BitOffModel", "books", "I", false)
  | 39 => ("BitOffModel", "planWhat", "[I", true)
  | 40 => ("BitOffModel", "bookWho", "[I", true)
  | 41 => ("BitOffModel", "bookLong", "[I", true)
  | 42 => ("BitOffModel", "hasImage", "Z", false)
  | 43 => ("BitOffModel", "imageThe", "I", false)
  | 44 => ("BitOffModel", "imageSides", "I", false)
  | 45 => ("BitOffModel", "imageSnips", "I", false)
  | 46 => ("BitOffModel", "imageDays", "I", false)
  | 47 => ("BitOffModel", "imageSeen", "I", false)
  | 48 => ("BitOffModel", "imagePlans", "I", false)
  | 49 => ("BitOffModel", "imageBooks", "I", false)
  | 50 => ("BitOffModel", "imageKind", "[I", true)
  | 51 => ("BitOffModel", "imageV", "[I", true)
  | 52 => ("BitOffModel", "imageTall", "[I", true)
  | 53 => ("BitOffModel", "imageOff", "[I", true)
  | 54 => ("BitOffModel", "imageRows", "[I", true)
  | 55 => ("BitOffModel", "imageTaken", "[I", true)
  | 56 => ("BitOffModel", "imagePlan", "[I", true)
  | 57 => ("BitOffModel", "imageWho", "[I", true)
  | 58 => ("BitOffModel", "imageLong", "[I", true)
  | 59 => ("BitOffModel", "ran", "I", false)
  | 60 => ("BitOffModel", "bodies", "[I", true)
  | 61 => ("BitOffModel", "sort", "[I", true)
  | 62 => ("BitOffModel", "length", "[I", true)
  | 63 => ("BitOffModel", "item", "[J", true)
  | _ => ("BitOffModel", "aside", "[J", true)
def tyX7 : Nat → FieldType := fun k => match k with
  | 0 => .int
  | 1 => .int
  | 2 => .int
  | 3 => .array .int
  | 4 => .array .int
  | 5 => .array .int
  | 6 => .array .int
  | 7 => .array .int
  | 8 => .int
  | 9 => .int
  | 10 => .int
  | 11 => .int
  | 12 => .int
  | 13 => .array .int
  | 14 => .array .int
  | 15 => .array .int
  | 16 => .array .int
  | 17 => .array .int
  | 18 => .array .int
  | 19 => .array .int
  | 20 => .array .int
  | 21 => .int
  | 22 => .int
  | 23 => .int
  | 24 => .array .int
  | 25 => .int
  | 26 => .int
  | 27 => .int
  | 28 => .array .boolean
  | 29 => .int
  | 30 => .int
  | 31 => .int
  | 32 => .int
  | 33 => .array .int
  | 34 => .array .int
  | 35 => .int
  | 36 => .array .int
  | 37 => .int
  | 38 => .int
  | 39 => .array .int
  | 40 => .array .int
  | 41 => .array .int
  | 42 => .boolean
  | 43 => .int
  | 44 => .int
  | 45 => .int
  | 46 => .int
  | 47 => .int
  | 48 => .int
  | 49 => .int
  | 50 => .array .int
  | 51 => .array .int
  | 52 => .array .int
  | 53 => .array .int
  | 54 => .array .int
  | 55 => .array .int
  | 56 => .array .int
  | 57 => .array .int
  | 58 => .array .int
  | 59 => .int
  | 60 => .array .int
  | 61 => .array .int
  | 62 => .array .int
  | 63 => .array .long
  | _ => .array .long
theorem nmX7 : ∀ a, a < 65 → ∀ b, b < 65 → a ≠ b → (TX7 a).2.1 ≠ (TX7 b).2.1 := by decide +kernel
theorem tyX7_ok : ∀ k, k < 65 → parseFieldDescriptor (TX7 k).2.2.1 = some (tyX7 k) := by decide +kernel
abbrev zcls : List vw_C := [(RX0, TX0, 5), (RX1, TX1, 8), (RX2, TX2, 7), (RX3, TX3, 4), (RX4, TX4, 16), (RX5, TX5, 3), (RX6, TX6, 11), (RX7, TX7, 65)]
/-- sort (0 object, 1 int, 2 byte, 3 boolean, 4 long, 5 kitchens, 6 rows of longs, 7 String constant), class, length of each cell -/
def zsh : Nat → Nat × Nat × Nat := fun k => if k < 64 then (if k < 32 then (if k < 16 then (if k < 8 then (if k < 4 then (if k < 2 then (if k < 1 then (if k = 0 then (0, 6, 11) else (9, 0, 0)) else (if k = 1 then (0, 1, 8) else (9, 0, 0))) else (if k < 3 then (if k = 2 then (1, 0, 10) else (9, 0, 0)) else (if k = 3 then (1, 0, 10) else (9, 0, 0)))) else (if k < 6 then (if k < 5 then (if k = 4 then (1, 0, 100) else (9, 0, 0)) else (if k = 5 then (0, 4, 16) else (9, 0, 0))) else (if k < 7 then (if k = 6 then (1, 0, 6) else (9, 0, 0)) else (if k = 7 then (1, 0, 6) else (9, 0, 0))))) else (if k < 12 then (if k < 10 then (if k < 9 then (if k = 8 then (1, 0, 6) else (9, 0, 0)) else (if k = 9 then (1, 0, 6) else (9, 0, 0))) else (if k < 11 then (if k = 10 then (1, 0, 24) else (9, 0, 0)) else (if k = 11 then (1, 0, 6) else (9, 0, 0)))) else (if k < 14 then (if k < 13 then (if k = 12 then (0, 4, 16) else (9, 0, 0)) else (if k = 13 then (1, 0, 6) else (9, 0, 0))) else (if k < 15 then (if k = 14 then (1, 0, 6) else (9, 0, 0)) else (if k = 15 then (1, 0, 6) else (9, 0, 0)))))) else (if k < 24 then (if k < 20 then (if k < 18 then (if k < 17 then (if k = 16 then (1, 0, 6) else (9, 0, 0)) else (if k = 17 then (1, 0, 24) else (9, 0, 0))) else (if k < 19 then (if k = 18 then (1, 0, 6) else (9, 0, 0)) else (if k = 19 then (0, 4, 16) else (9, 0, 0)))) else (if k < 22 then (if k < 21 then (if k = 20 then (1, 0, 6) else (9, 0, 0)) else (if k = 21 then (1, 0, 6) else (9, 0, 0))) else (if k < 23 then (if k = 22 then (1, 0, 6) else (9, 0, 0)) else (if k = 23 then (1, 0, 6) else (9, 0, 0))))) else (if k < 28 then (if k < 26 then (if k < 25 then (if k = 24 then (1, 0, 24) else (9, 0, 0)) else (if k = 25 then (1, 0, 6) else (9, 0, 0))) else (if k < 27 then (if k = 26 then (0, 2, 7) else (9, 0, 0)) else (if k = 27 then (1, 0, 5) else (9, 0, 0)))) else (if k < 30 then (if k < 29 then (if k = 28 then (1, 0, 10) else (9, 0, 0)) else (if k = 29 then (1, 0, 8) else (9, 0, 0))) else (if k < 31 then (if k = 30 then (1, 0, 8) else (9, 0, 0)) else (if k = 31 then (0, 2, 7) else (9, 0, 0))))))) else (if k < 48 then (if k < 40 then (if k < 36 then (if k < 34 then (if k < 33 then (if k = 32 then (1, 0, 5) else (9, 0, 0)) else (if k = 33 then (1, 0, 10) else (9, 0, 0))) else (if k < 35 then (if k = 34 then (1, 0, 8) else (9, 0, 0)) else (if k = 35 then (1, 0, 8) else (9, 0, 0)))) else (if k < 38 then (if k < 37 then (if k = 36 then (5, 0, 6) else (9, 0, 0)) else (if k = 37 then (0, 1, 8) else (9, 0, 0))) else (if k < 39 then (if k = 38 then (1, 0, 10) else (9, 0, 0)) else (if k = 39 then (1, 0, 10) else (9, 0, 0))))) else (if k < 44 then (if k < 42 then (if k < 41 then (if k = 40 then (1, 0, 100) else (9, 0, 0)) else (if k = 41 then (0, 1, 8) else (9, 0, 0))) else (if k < 43 then (if k = 42 then (1, 0, 10) else (9, 0, 0)) else (if k = 43 then (1, 0, 10) else (9, 0, 0)))) else (if k < 46 then (if k < 45 then (if k = 44 then (1, 0, 100) else (9, 0, 0)) else (if k = 45 then (0, 1, 8) else (9, 0, 0))) else (if k < 47 then (if k = 46 then (1, 0, 10) else (9, 0, 0)) else (if k = 47 then (1, 0, 10) else (9, 0, 0)))))) else (if k < 56 then (if k < 52 then (if k < 50 then (if k < 49 then (if k = 48 then (1, 0, 100) else (9, 0, 0)) else (if k = 49 then (0, 1, 8) else (9, 0, 0))) else (if k < 51 then (if k = 50 then (1, 0, 10) else (9, 0, 0)) else (if k = 51 then (1, 0, 10) else (9, 0, 0)))) else (if k < 54 then (if k < 53 then (if k = 52 then (1, 0, 100) else (9, 0, 0)) else (if k = 53 then (0, 1, 8) else (9, 0, 0))) else (if k < 55 then (if k = 54 then (1, 0, 10) else (9, 0, 0)) else (if k = 55 then (1, 0, 10) else (9, 0, 0))))) else (if k < 60 then (if k < 58 then (if k < 57 then (if k = 56 then (1, 0, 100) else (9, 0, 0)) else (if k = 57 then (0, 1, 8) else (9, 0, 0))) else (if k < 59 then (if k = 58 then (1, 0, 10) else (9, 0, 0)) else (if k = 59 then (1, 0, 10) else (9, 0, 0)))) else (if k < 62 then (if k < 61 then (if k = 60 then (1, 0, 100) else (9, 0, 0)) else (if k = 61 then (0, 3, 4) else (9, 0, 0))) else (if k < 63 then (if k = 62 then (2, 0, 100) else (9, 0, 0)) else (if k = 63 then (0, 0, 5) else (9, 0, 0)))))))) else (if k < 96 then (if k < 80 then (if k < 72 then (if k < 68 then (if k < 66 then (if k < 65 then (if k = 64 then (1, 0, 20) else (9, 0, 0)) else (if k = 65 then (0, 5, 3) else (9, 0, 0))) else (if k < 67 then (if k = 66 then (1, 0, 6) else (9, 0, 0)) else (if k = 67 then (1, 0, 6) else (9, 0, 0)))) else (if k < 70 then (if k < 69 then (if k = 68 then (6, 0, 6) else (9, 0, 0)) else (if k = 69 then (4, 0, 60) else (9, 0, 0))) else (if k < 71 then (if k = 70 then (4, 0, 60) else (9, 0, 0)) else (if k = 71 then (4, 0, 60) else (9, 0, 0))))) else (if k < 76 then (if k < 74 then (if k < 73 then (if k = 72 then (4, 0, 60) else (9, 0, 0)) else (if k = 73 then (4, 0, 60) else (9, 0, 0))) else (if k < 75 then (if k = 74 then (4, 0, 60) else (9, 0, 0)) else (if k = 75 then (0, 7, 65) else (9, 0, 0)))) else (if k < 78 then (if k < 77 then (if k = 76 then (1, 0, 6) else (9, 0, 0)) else (if k = 77 then (1, 0, 6) else (9, 0, 0))) else (if k < 79 then (if k = 78 then (1, 0, 6) else (9, 0, 0)) else (if k = 79 then (1, 0, 6) else (9, 0, 0)))))) else (if k < 88 then (if k < 84 then (if k < 82 then (if k < 81 then (if k = 80 then (1, 0, 24) else (9, 0, 0)) else (if k = 81 then (1, 0, 100) else (9, 0, 0))) else (if k < 83 then (if k = 82 then (1, 0, 6) else (9, 0, 0)) else (if k = 83 then (1, 0, 60) else (9, 0, 0)))) else (if k < 86 then (if k < 85 then (if k = 84 then (1, 0, 60) else (9, 0, 0)) else (if k = 85 then (1, 0, 60) else (9, 0, 0))) else (if k < 87 then (if k = 86 then (1, 0, 60) else (9, 0, 0)) else (if k = 87 then (1, 0, 600) else (9, 0, 0))))) else (if k < 92 then (if k < 90 then (if k < 89 then (if k = 88 then (1, 0, 101) else (9, 0, 0)) else (if k = 89 then (1, 0, 25) else (9, 0, 0))) else (if k < 91 then (if k = 90 then (3, 0, 100) else (9, 0, 0)) else (if k = 91 then (1, 0, 6) else (9, 0, 0)))) else (if k < 94 then (if k < 93 then (if k = 92 then (1, 0, 6) else (9, 0, 0)) else (if k = 93 then (1, 0, 5) else (9, 0, 0))) else (if k < 95 then (if k = 94 then (1, 0, 10) else (9, 0, 0)) else (if k = 95 then (1, 0, 8) else (9, 0, 0))))))) else (if k < 1001 then (if k < 104 then (if k < 100 then (if k < 98 then (if k < 97 then (if k = 96 then (1, 0, 8) else (9, 0, 0)) else (if k = 97 then (1, 0, 6) else (9, 0, 0))) else (if k < 99 then (if k = 98 then (1, 0, 6) else (9, 0, 0)) else (if k = 99 then (1, 0, 6) else (9, 0, 0)))) else (if k < 102 then (if k < 101 then (if k = 100 then (1, 0, 6) else (9, 0, 0)) else (if k = 101 then (1, 0, 24) else (9, 0, 0))) else (if k < 103 then (if k = 102 then (1, 0, 5) else (9, 0, 0)) else (if k = 103 then (1, 0, 10) else (9, 0, 0))))) else (if k < 108 then (if k < 106 then (if k < 105 then (if k = 104 then (1, 0, 8) else (9, 0, 0)) else (if k = 105 then (1, 0, 8) else (9, 0, 0))) else (if k < 107 then (if k = 106 then (1, 0, 20) else (9, 0, 0)) else (if k = 107 then (1, 0, 6) else (9, 0, 0)))) else (if k < 110 then (if k < 109 then (if k = 108 then (1, 0, 6) else (9, 0, 0)) else (if k = 109 then (4, 0, 360) else (9, 0, 0))) else (if k < 1000 then (if k = 110 then (4, 0, 60) else (9, 0, 0)) else (if k = 1000 then (7, 8, 2) else (9, 0, 0)))))) else (if k < 1011 then (if k < 1005 then (if k < 1003 then (if k < 1002 then (if k = 1001 then (7, 8, 2) else (9, 0, 0)) else (if k = 1002 then (7, 8, 2) else (9, 0, 0))) else (if k < 1004 then (if k = 1003 then (7, 8, 2) else (9, 0, 0)) else (if k = 1004 then (7, 8, 2) else (9, 0, 0)))) else (if k < 1007 then (if k < 1006 then (if k = 1005 then (7, 8, 2) else (9, 0, 0)) else (if k = 1006 then (7, 8, 2) else (9, 0, 0))) else (if k < 1010 then (if k = 1007 then (7, 8, 2) else (9, 0, 0)) else (if k = 1010 then (2, 0, 5) else (9, 0, 0))))) else (if k < 1015 then (if k < 1013 then (if k < 1012 then (if k = 1011 then (2, 0, 6) else (9, 0, 0)) else (if k = 1012 then (2, 0, 5) else (9, 0, 0))) else (if k < 1014 then (if k = 1013 then (2, 0, 6) else (9, 0, 0)) else (if k = 1014 then (2, 0, 4) else (9, 0, 0)))) else (if k < 1017 then (if k < 1016 then (if k = 1015 then (2, 0, 3) else (9, 0, 0)) else (if k = 1016 then (2, 0, 6) else (9, 0, 0))) else (if k < 1020 then (if k = 1017 then (2, 0, 3) else (9, 0, 0)) else (if k < 1021 then (if k = 1020 then (1, 0, 7) else (9, 0, 0)) else (if k = 1021 then (1, 0, 0) else (9, 0, 0)))))))))
/-- what the bytes of String constants, the kinds above are -/
def zstt : Nat → List Int32 := fun k => if k < 1014 then (if k < 1012 then (if k < 1011 then (if k = 1010 then [111, 118, 101, 114, 32] else []) else (if k = 1011 then [117, 110, 100, 101, 114, 32] else [])) else (if k < 1013 then (if k = 1012 then [103, 105, 118, 101, 32] else []) else (if k = 1013 then [108, 101, 97, 118, 101, 32] else []))) else (if k < 1016 then (if k < 1015 then (if k = 1014 then [104, 97, 108, 102] else []) else (if k = 1015 then [97, 108, 108] else [])) else (if k < 1017 then (if k = 1016 then [115, 107, 118, 108, 110, 100] else []) else (if k < 1020 then (if k = 1017 then [60, 61, 62] else []) else (if k = 1020 then [-1, 0, 0, 0, 1, 2, 3] else []))))
/-- places of the first n cells, together -/
def zsl : Nat → Nat
  | 0 => 0
  | n + 1 => zsl n + (zsh n).2.2
theorem zsl_all : zsl 111 = 3568 := by decide +kernel
