def RX0 : String := "BreathingHill$Hill"
def TX0 : u_T := fun k => match k with
  | 0 => ("BreathingHill$Hill", "land", "LBreathingHill$Land;", true)
  | 1 => ("BreathingHill$Hill", "things", "[LBreathingHill$Thing;", true)
  | 2 => ("BreathingHill$Hill", "mills", "[LBreathingHill$Mill;", true)
  | 3 => ("BreathingHill$Hill", "men", "[LBreathingHill$Man;", true)
  | 4 => ("BreathingHill$Hill", "thingCount", "I", false)
  | 5 => ("BreathingHill$Hill", "millCount", "I", false)
  | 6 => ("BreathingHill$Hill", "manCount", "I", false)
  | _ => ("BreathingHill$Hill", "hour", "I", false)
def tyX0 : Nat → FieldType := fun k => match k with
  | 0 => .object "BreathingHill$Land"
  | 1 => .array (.object "BreathingHill$Thing")
  | 2 => .array (.object "BreathingHill$Mill")
  | 3 => .array (.object "BreathingHill$Man")
  | 4 => .int
  | 5 => .int
  | 6 => .int
  | _ => .int
abbrev wsX00 : List Cond := u_ws RX0 TX0 8
theorem nmX0 : ∀ a, a < 8 → ∀ b, b < 8 → a ≠ b → (TX0 a).2.1 ≠ (TX0 b).2.1 := by decide +kernel
theorem tyX0_ok : ∀ k, k < 8 → parseFieldDescriptor (TX0 k).2.2.1 = some (tyX0 k) := by decide +kernel
def RX1 : String := "BreathingHill$Land"
def TX1 : u_T := fun k => match k with
  | 0 => ("BreathingHill$Land", "cells", "[I", true)
  | 1 => ("BreathingHill$Land", "breath", "[I", true)
  | 2 => ("BreathingHill$Land", "force", "I", false)
  | 3 => ("BreathingHill$Land", "fade", "I", false)
  | 4 => ("BreathingHill$Land", "held", "I", false)
  | 5 => ("BreathingHill$Land", "passageCount", "I", false)
  | 6 => ("BreathingHill$Land", "lengths", "[I", true)
  | 7 => ("BreathingHill$Land", "wides", "[I", true)
  | _ => ("BreathingHill$Land", "alters", "[I", true)
def tyX1 : Nat → FieldType := fun k => match k with
  | 0 => .array .int
  | 1 => .array .int
  | 2 => .int
  | 3 => .int
  | 4 => .int
  | 5 => .int
  | 6 => .array .int
  | 7 => .array .int
  | _ => .array .int
abbrev wsX10 : List Cond := u_ws RX1 TX1 9
theorem nmX1 : ∀ a, a < 9 → ∀ b, b < 9 → a ≠ b → (TX1 a).2.1 ≠ (TX1 b).2.1 := by decide +kernel
theorem tyX1_ok : ∀ k, k < 9 → parseFieldDescriptor (TX1 k).2.2.1 = some (tyX1 k) := by decide +kernel
def RX2 : String := "BreathingHill$LandReader"
def TX2 : u_T := fun k => match k with
  | 0 => ("BreathingHill$LandReader", "row", "[I", true)
  | 1 => ("BreathingHill$LandReader", "once", "[LBreathingHill$Token;", true)
  | _ => ("BreathingHill$LandReader", "onceCount", "I", false)
def tyX2 : Nat → FieldType := fun k => match k with
  | 0 => .array .int
  | 1 => .array (.object "BreathingHill$Token")
  | _ => .int
abbrev wsX20 : List Cond := u_ws RX2 TX2 3
theorem nmX2 : ∀ a, a < 3 → ∀ b, b < 3 → a ≠ b → (TX2 a).2.1 ≠ (TX2 b).2.1 := by decide +kernel
theorem tyX2_ok : ∀ k, k < 3 → parseFieldDescriptor (TX2 k).2.2.1 = some (tyX2 k) := by decide +kernel
def RX3 : String := "BreathingHill$Log"
def TX3 : u_T := fun k => match k with
  | 0 => ("BreathingHill$Log", "verbs", "[LBreathingHill$Token;", true)
  | 1 => ("BreathingHill$Log", "whose", "[I", true)
  | 2 => ("BreathingHill$Log", "numbers", "[I", true)
  | 3 => ("BreathingHill$Log", "lines", "I", false)
  | 4 => ("BreathingHill$Log", "why", "I", false)
  | _ => ("BreathingHill$Log", "done", "I", false)
def tyX3 : Nat → FieldType := fun k => match k with
  | 0 => .array (.object "BreathingHill$Token")
  | 1 => .array .int
  | 2 => .array .int
  | 3 => .int
  | 4 => .int
  | _ => .int
abbrev wsX30 : List Cond := u_ws RX3 TX3 6
theorem nmX3 : ∀ a, a < 6 → ∀ b, b < 6 → a ≠ b → (TX3 a).2.1 ≠ (TX3 b).2.1 := by decide +kernel
theorem tyX3_ok : ∀ k, k < 6 → parseFieldDescriptor (TX3 k).2.2.1 = some (tyX3 k) := by decide +kernel
def RX4 : String := "BreathingHill$Man"
def TX4 : u_T := fun k => match k with
  | 0 => ("BreathingHill$Man", "name", "J", false)
  | 1 => ("BreathingHill$Man", "valley", "I", false)
  | 2 => ("BreathingHill$Man", "cell", "I", false)
  | _ => ("BreathingHill$Man", "walked", "I", false)
def tyX4 : Nat → FieldType := fun k => match k with
  | 0 => .long
  | 1 => .int
  | 2 => .int
  | _ => .int
abbrev wsX40 : List Cond := u_ws RX4 TX4 4
theorem nmX4 : ∀ a, a < 4 → ∀ b, b < 4 → a ≠ b → (TX4 a).2.1 ≠ (TX4 b).2.1 := by decide +kernel
theorem tyX4_ok : ∀ k, k < 4 → parseFieldDescriptor (TX4 k).2.2.1 = some (tyX4 k) := by decide +kernel
def RX5 : String := "BreathingHill$Mill"
def TX5 : u_T := fun k => match k with
  | 0 => ("BreathingHill$Mill", "name", "J", false)
  | 1 => ("BreathingHill$Mill", "valley", "I", false)
  | 2 => ("BreathingHill$Mill", "cell", "I", false)
  | _ => ("BreathingHill$Mill", "turned", "I", false)
def tyX5 : Nat → FieldType := fun k => match k with
  | 0 => .long
  | 1 => .int
  | 2 => .int
  | _ => .int
abbrev wsX50 : List Cond := u_ws RX5 TX5 4
theorem nmX5 : ∀ a, a < 4 → ∀ b, b < 4 → a ≠ b → (TX5 a).2.1 ≠ (TX5 b).2.1 := by decide +kernel
theorem tyX5_ok : ∀ k, k < 4 → parseFieldDescriptor (TX5 k).2.2.1 = some (tyX5 k) := by decide +kernel
def RX6 : String := "BreathingHill$Sentence"
def TX6 : u_T := fun k => match k with
  | 0 => ("BreathingHill$Sentence", "steps", "[LBreathingHill$Token;", true)
  | 1 => ("BreathingHill$Sentence", "signs", "[LBreathingHill$Token;", true)
  | 2 => ("BreathingHill$Sentence", "numbers", "[I", true)
  | 3 => ("BreathingHill$Sentence", "sets", "[I", true)
  | 4 => ("BreathingHill$Sentence", "size", "I", false)
  | _ => ("BreathingHill$Sentence", "ones", "I", false)
def tyX6 : Nat → FieldType := fun k => match k with
  | 0 => .array (.object "BreathingHill$Token")
  | 1 => .array (.object "BreathingHill$Token")
  | 2 => .array .int
  | 3 => .array .int
  | 4 => .int
  | _ => .int
abbrev wsX60 : List Cond := u_ws RX6 TX6 6
theorem nmX6 : ∀ a, a < 6 → ∀ b, b < 6 → a ≠ b → (TX6 a).2.1 ≠ (TX6 b).2.1 := by decide +kernel
theorem tyX6_ok : ∀ k, k < 6 → parseFieldDescriptor (TX6 k).2.2.1 = some (tyX6 k) := by decide +kernel
def RX7 : String := "BreathingHill$Tape"
def TX7 : u_T := fun k => match k with
  | 0 => ("BreathingHill$Tape", "bytes", "[B", true)
  | 1 => ("BreathingHill$Tape", "size", "I", false)
  | 2 => ("BreathingHill$Tape", "limit", "I", false)
  | 3 => ("BreathingHill$Tape", "next", "I", false)
  | 4 => ("BreathingHill$Tape", "token", "LBreathingHill$Token;", false)
  | 5 => ("BreathingHill$Tape", "place", "I", false)
  | 6 => ("BreathingHill$Tape", "number", "I", false)
  | 7 => ("BreathingHill$Tape", "name", "J", false)
  | 8 => ("BreathingHill$Tape", "fault", "I", false)
  | _ => ("BreathingHill$Tape", "faultPlace", "I", false)
def tyX7 : Nat → FieldType := fun k => match k with
  | 0 => .array .byte
  | 1 => .int
  | 2 => .int
  | 3 => .int
  | 4 => .object "BreathingHill$Token"
  | 5 => .int
  | 6 => .int
  | 7 => .long
  | 8 => .int
  | _ => .int
abbrev wsX70 : List Cond := u_ws RX7 TX7 10
theorem nmX7 : ∀ a, a < 10 → ∀ b, b < 10 → a ≠ b → (TX7 a).2.1 ≠ (TX7 b).2.1 := by decide +kernel
theorem tyX7_ok : ∀ k, k < 10 → parseFieldDescriptor (TX7 k).2.2.1 = some (tyX7 k) := by decide +kernel
def RX8 : String := "BreathingHill$Thing"
def TX8 : u_T := fun k => match k with
  | 0 => ("BreathingHill$Thing", "name", "J", false)
  | 1 => ("BreathingHill$Thing", "home", "I", false)
  | 2 => ("BreathingHill$Thing", "weight", "I", false)
  | 3 => ("BreathingHill$Thing", "where", "I", false)
  | 4 => ("BreathingHill$Thing", "cell", "I", false)
  | 5 => ("BreathingHill$Thing", "passage", "I", false)
  | 6 => ("BreathingHill$Thing", "from", "I", false)
  | 7 => ("BreathingHill$Thing", "colour", "I", false)
  | 8 => ("BreathingHill$Thing", "tied", "Z", false)
  | _ => ("BreathingHill$Thing", "timesBeyond", "I", false)
def tyX8 : Nat → FieldType := fun k => match k with
  | 0 => .long
  | 1 => .int
  | 2 => .int
  | 3 => .int
  | 4 => .int
  | 5 => .int
  | 6 => .int
  | 7 => .int
  | 8 => .boolean
  | _ => .int
abbrev wsX80 : List Cond := u_ws RX8 TX8 10
theorem nmX8 : ∀ a, a < 10 → ∀ b, b < 10 → a ≠ b → (TX8 a).2.1 ≠ (TX8 b).2.1 := by decide +kernel
theorem tyX8_ok : ∀ k, k < 10 → parseFieldDescriptor (TX8 k).2.2.1 = some (tyX8 k) := by decide +kernel
def RX9 : String := "BreathingHill$Token"
def RX10 : String := "BreathingHill"
def TX10 : u_T := fun k => match k with
  | 0 => ("BreathingHill", "tape", "LBreathingHill$Tape;", true)
  | 1 => ("BreathingHill", "landReader", "LBreathingHill$LandReader;", true)
  | 2 => ("BreathingHill", "hill", "LBreathingHill$Hill;", true)
  | 3 => ("BreathingHill", "trial", "LBreathingHill$Hill;", true)
  | 4 => ("BreathingHill", "past", "[LBreathingHill$Hill;", true)
  | 5 => ("BreathingHill", "pastCount", "I", false)
  | 6 => ("BreathingHill", "sentence", "LBreathingHill$Sentence;", true)
  | 7 => ("BreathingHill", "told", "LBreathingHill$Sentence;", true)
  | 8 => ("BreathingHill", "imageHills", "[LBreathingHill$Hill;", true)
  | 9 => ("BreathingHill", "imageSentences", "[LBreathingHill$Sentence;", true)
  | 10 => ("BreathingHill", "imageKept", "[Z", true)
  | 11 => ("BreathingHill", "log", "LBreathingHill$Log;", true)
  | 12 => ("BreathingHill", "logged", "[I", true)
  | 13 => ("BreathingHill", "logKnown", "Z", false)
  | 14 => ("BreathingHill", "letter", "LBreathingHill$Thing;", true)
  | 15 => ("BreathingHill", "prices", "[I", true)
  | 16 => ("BreathingHill", "pricesKnown", "Z", false)
  | _ => ("BreathingHill", "faultKind", "I", false)
def tyX10 : Nat → FieldType := fun k => match k with
  | 0 => .object "BreathingHill$Tape"
  | 1 => .object "BreathingHill$LandReader"
  | 2 => .object "BreathingHill$Hill"
  | 3 => .object "BreathingHill$Hill"
  | 4 => .array (.object "BreathingHill$Hill")
  | 5 => .int
  | 6 => .object "BreathingHill$Sentence"
  | 7 => .object "BreathingHill$Sentence"
  | 8 => .array (.object "BreathingHill$Hill")
  | 9 => .array (.object "BreathingHill$Sentence")
  | 10 => .array .boolean
  | 11 => .object "BreathingHill$Log"
  | 12 => .array .int
  | 13 => .boolean
  | 14 => .object "BreathingHill$Thing"
  | 15 => .array .int
  | 16 => .boolean
  | _ => .int
abbrev wsX100 : List Cond := u_ws RX10 TX10 18
theorem nmX10 : ∀ a, a < 18 → ∀ b, b < 18 → a ≠ b → (TX10 a).2.1 ≠ (TX10 b).2.1 := by decide +kernel
theorem tyX10_ok : ∀ k, k < 18 → parseFieldDescriptor (TX10 k).2.2.1 = some (tyX10 k) := by decide +kernel
def RX11 : String := "BreathingHillModel"
def TX11 : u_T := fun k => match k with
  | 0 => ("BreathingHillModel", "thrown", "I", false)
  | 1 => ("BreathingHillModel", "tape", "[B", true)
  | 2 => ("BreathingHillModel", "length", "I", false)
  | 3 => ("BreathingHillModel", "size", "I", false)
  | 4 => ("BreathingHillModel", "p", "I", false)
  | 5 => ("BreathingHillModel", "limit", "I", false)
  | 6 => ("BreathingHillModel", "s", "[I", true)
  | 7 => ("BreathingHillModel", "h", "[I", true)
  | 8 => ("BreathingHillModel", "read", "[I", true)
  | 9 => ("BreathingHillModel", "names", "[J", true)
  | 10 => ("BreathingHillModel", "reserved", "[J", true)
  | 11 => ("BreathingHillModel", "token", "I", false)
  | 12 => ("BreathingHillModel", "at", "I", false)
  | 13 => ("BreathingHillModel", "span", "I", false)
  | 14 => ("BreathingHillModel", "number", "I", false)
  | 15 => ("BreathingHillModel", "fault", "I", false)
  | 16 => ("BreathingHillModel", "faultAt", "I", false)
  | 17 => ("BreathingHillModel", "word", "J", false)
  | 18 => ("BreathingHillModel", "got", "I", false)
  | 19 => ("BreathingHillModel", "lines", "I", false)
  | 20 => ("BreathingHillModel", "onces", "I", false)
  | 21 => ("BreathingHillModel", "where", "I", false)
  | 22 => ("BreathingHillModel", "cell", "I", false)
  | 23 => ("BreathingHillModel", "pass", "I", false)
  | 24 => ("BreathingHillModel", "from", "I", false)
  | 25 => ("BreathingHillModel", "came", "Z", false)
  | 26 => ("BreathingHillModel", "undone", "[I", true)
  | 27 => ("BreathingHillModel", "before", "[I", true)
  | 28 => ("BreathingHillModel", "undoMany", "I", false)
  | 29 => ("BreathingHillModel", "priceRow", "[I", true)
  | 30 => ("BreathingHillModel", "hasPrices", "Z", false)
  | 31 => ("BreathingHillModel", "seed", "I", false)
  | 32 => ("BreathingHillModel", "told", "I", false)
  | 33 => ("BreathingHillModel", "loggedAt", "[I", true)
  | 34 => ("BreathingHillModel", "hasLogged", "Z", false)
  | 35 => ("BreathingHillModel", "stack", "[I", true)
  | 36 => ("BreathingHillModel", "codes", "I", false)
  | 37 => ("BreathingHillModel", "ones", "I", false)
  | 38 => ("BreathingHillModel", "top", "I", false)
  | 39 => ("BreathingHillModel", "deep", "I", false)
  | 40 => ("BreathingHillModel", "isWhole", "Z", false)
  | 41 => ("BreathingHillModel", "truths", "[Z", true)
  | 42 => ("BreathingHillModel", "kept", "[I", true)
  | 43 => ("BreathingHillModel", "namesKept", "[J", true)
  | _ => ("BreathingHillModel", "areKept", "[Z", true)
def tyX11 : Nat → FieldType := fun k => match k with
  | 0 => .int
  | 1 => .array .byte
  | 2 => .int
  | 3 => .int
  | 4 => .int
  | 5 => .int
  | 6 => .array .int
  | 7 => .array .int
  | 8 => .array .int
  | 9 => .array .long
  | 10 => .array .long
  | 11 => .int
  | 12 => .int
  | 13 => .int
  | 14 => .int
  | 15 => .int
  | 16 => .int
  | 17 => .long
  | 18 => .int
  | 19 => .int
  | 20 => .int
  | 21 => .int
  | 22 => .int
  | 23 => .int
  | 24 => .int
  | 25 => .boolean
  | 26 => .array .int
  | 27 => .array .int
  | 28 => .int
  | 29 => .array .int
  | 30 => .boolean
  | 31 => .int
  | 32 => .int
  | 33 => .array .int
  | 34 => .boolean
  | 35 => .array .int
  | 36 => .int
  | 37 => .int
  | 38 => .int
  | 39 => .int
  | 40 => .boolean
  | 41 => .array .boolean
  | 42 => .array .int
  | 43 => .array .long
  | _ => .array .boolean
abbrev wsX110 : List Cond := u_ws RX11 TX11 45
theorem nmX11 : ∀ a, a < 45 → ∀ b, b < 45 → a ≠ b → (TX11 a).2.1 ≠ (TX11 b).2.1 := by decide +kernel
theorem tyX11_ok : ∀ k, k < 45 → parseFieldDescriptor (TX11 k).2.2.1 = some (tyX11 k) := by decide +kernel
abbrev vwCl : List vw_C := [(RX0, TX0, 8), (RX1, TX1, 9), (RX2, TX2, 3), (RX3, TX3, 6), (RX4, TX4, 4), (RX5, TX5, 4), (RX6, TX6, 6), (RX7, TX7, 10), (RX8, TX8, 10), (RX10, TX10, 18), (RX11, TX11, 45)]
