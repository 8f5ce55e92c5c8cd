def RX0 : String := "TwinPanel$Lamps"
def TX0 : u_T := fun k => match k with
  | 0 => ("TwinPanel$Lamps", "times", "[I", true)
  | _ => ("TwinPanel$Lamps", "now", "I", false)
def tyX0 : Nat → FieldType := fun k => match k with
  | 0 => .array .int
  | _ => .int
theorem nmX0 : ∀ a, a < 2 → ∀ b, b < 2 → a ≠ b → (TX0 a).2.1 ≠ (TX0 b).2.1 := by decide +kernel
theorem tyX0_ok : ∀ k, k < 2 → parseFieldDescriptor (TX0 k).2.2.1 = some (tyX0 k) := by decide +kernel
def RX1 : String := "TwinPanel$Levels"
def TX1 : u_T := fun k => match k with
  | 0 => ("TwinPanel$Levels", "patch", "LTwinPanel$Patch;", true)
  | 1 => ("TwinPanel$Levels", "of", "[I", true)
  | 2 => ("TwinPanel$Levels", "order", "[I", true)
  | 3 => ("TwinPanel$Levels", "ordered", "I", false)
  | _ => ("TwinPanel$Levels", "sources", "[I", true)
def tyX1 : Nat → FieldType := fun k => match k with
  | 0 => .object "TwinPanel$Patch"
  | 1 => .array .int
  | 2 => .array .int
  | 3 => .int
  | _ => .array .int
theorem nmX1 : ∀ a, a < 5 → ∀ b, b < 5 → a ≠ b → (TX1 a).2.1 ≠ (TX1 b).2.1 := by decide +kernel
theorem tyX1_ok : ∀ k, k < 5 → parseFieldDescriptor (TX1 k).2.2.1 = some (tyX1 k) := by decide +kernel
def RX2 : String := "TwinPanel$Numbers"
def TX2 : u_T := fun k => match k with
  | _ => ("", "", "", false)
def tyX2 : Nat → FieldType := fun k => match k with
  | _ => .int
theorem nmX2 : ∀ a, a < 0 → ∀ b, b < 0 → a ≠ b → (TX2 a).2.1 ≠ (TX2 b).2.1 := by decide +kernel
theorem tyX2_ok : ∀ k, k < 0 → parseFieldDescriptor (TX2 k).2.2.1 = some (tyX2 k) := by decide +kernel
def RX3 : String := "TwinPanel$Patch"
def TX3 : u_T := fun k => match k with
  | 0 => ("TwinPanel$Patch", "size", "I", false)
  | 1 => ("TwinPanel$Patch", "stepRule", "I", false)
  | 2 => ("TwinPanel$Patch", "stepPower", "I", false)
  | 3 => ("TwinPanel$Patch", "levelsAreStale", "Z", false)
  | 4 => ("TwinPanel$Patch", "kinds", "[I", true)
  | 5 => ("TwinPanel$Patch", "settingBits", "[J", true)
  | 6 => ("TwinPanel$Patch", "settingValues", "[D", true)
  | 7 => ("TwinPanel$Patch", "startBits", "[J", true)
  | 8 => ("TwinPanel$Patch", "startValues", "[D", true)
  | 9 => ("TwinPanel$Patch", "from", "[I", true)
  | 10 => ("TwinPanel$Patch", "turned", "[Z", true)
  | 11 => ("TwinPanel$Patch", "pointCounts", "[I", true)
  | 12 => ("TwinPanel$Patch", "xs", "[D", true)
  | 13 => ("TwinPanel$Patch", "ys", "[D", true)
  | _ => ("TwinPanel$Patch", "failTimes", "[I", true)
def tyX3 : Nat → FieldType := fun k => match k with
  | 0 => .int
  | 1 => .int
  | 2 => .int
  | 3 => .boolean
  | 4 => .array .int
  | 5 => .array .long
  | 6 => .array .double
  | 7 => .array .long
  | 8 => .array .double
  | 9 => .array .int
  | 10 => .array .boolean
  | 11 => .array .int
  | 12 => .array .double
  | 13 => .array .double
  | _ => .array .int
theorem nmX3 : ∀ a, a < 15 → ∀ b, b < 15 → a ≠ b → (TX3 a).2.1 ≠ (TX3 b).2.1 := by decide +kernel
theorem tyX3_ok : ∀ k, k < 15 → parseFieldDescriptor (TX3 k).2.2.1 = some (tyX3 k) := by decide +kernel
def RX4 : String := "TwinPanel$Strips"
def TX4 : u_T := fun k => match k with
  | 0 => ("TwinPanel$Strips", "size", "I", false)
  | 1 => ("TwinPanel$Strips", "modules", "[I", true)
  | 2 => ("TwinPanel$Strips", "lengths", "[I", true)
  | _ => ("TwinPanel$Strips", "bits", "[J", true)
def tyX4 : Nat → FieldType := fun k => match k with
  | 0 => .int
  | 1 => .array .int
  | 2 => .array .int
  | _ => .array .long
theorem nmX4 : ∀ a, a < 4 → ∀ b, b < 4 → a ≠ b → (TX4 a).2.1 ≠ (TX4 b).2.1 := by decide +kernel
theorem tyX4_ok : ∀ k, k < 4 → parseFieldDescriptor (TX4 k).2.2.1 = some (tyX4 k) := by decide +kernel
def RX5 : String := "TwinPanel$Trials"
def TX5 : u_T := fun k => match k with
  | 0 => ("TwinPanel$Trials", "patch", "LTwinPanel$Patch;", true)
  | 1 => ("TwinPanel$Trials", "twin", "LTwinPanel$Twin;", true)
  | 2 => ("TwinPanel$Trials", "sweptReadings", "[D", true)
  | 3 => ("TwinPanel$Trials", "sweptCount", "I", false)
  | _ => ("TwinPanel$Trials", "whole", "[D", true)
def tyX5 : Nat → FieldType := fun k => match k with
  | 0 => .object "TwinPanel$Patch"
  | 1 => .object "TwinPanel$Twin"
  | 2 => .array .double
  | 3 => .int
  | _ => .array .double
theorem nmX5 : ∀ a, a < 5 → ∀ b, b < 5 → a ≠ b → (TX5 a).2.1 ≠ (TX5 b).2.1 := by decide +kernel
theorem tyX5_ok : ∀ k, k < 5 → parseFieldDescriptor (TX5 k).2.2.1 = some (tyX5 k) := by decide +kernel
def RX6 : String := "TwinPanel$Twin"
def TX6 : u_T := fun k => match k with
  | 0 => ("TwinPanel$Twin", "patch", "LTwinPanel$Patch;", true)
  | 1 => ("TwinPanel$Twin", "levels", "LTwinPanel$Levels;", true)
  | 2 => ("TwinPanel$Twin", "lamps", "LTwinPanel$Lamps;", true)
  | 3 => ("TwinPanel$Twin", "ofFloats", "Z", true)
  | 4 => ("TwinPanel$Twin", "readings", "[D", true)
  | 5 => ("TwinPanel$Twin", "settings", "[D", true)
  | 6 => ("TwinPanel$Twin", "states", "[D", true)
  | 7 => ("TwinPanel$Twin", "rows", "[D", true)
  | 8 => ("TwinPanel$Twin", "oldest", "[I", true)
  | 9 => ("TwinPanel$Twin", "seeds", "[I", true)
  | 10 => ("TwinPanel$Twin", "ahead", "[D", true)
  | 11 => ("TwinPanel$Twin", "coming", "[D", true)
  | 12 => ("TwinPanel$Twin", "first", "[D", true)
  | 13 => ("TwinPanel$Twin", "second", "[D", true)
  | 14 => ("TwinPanel$Twin", "third", "[D", true)
  | _ => ("TwinPanel$Twin", "fourth", "[D", true)
def tyX6 : Nat → FieldType := fun k => match k with
  | 0 => .object "TwinPanel$Patch"
  | 1 => .object "TwinPanel$Levels"
  | 2 => .object "TwinPanel$Lamps"
  | 3 => .boolean
  | 4 => .array .double
  | 5 => .array .double
  | 6 => .array .double
  | 7 => .array .double
  | 8 => .array .int
  | 9 => .array .int
  | 10 => .array .double
  | 11 => .array .double
  | 12 => .array .double
  | 13 => .array .double
  | 14 => .array .double
  | _ => .array .double
theorem nmX6 : ∀ a, a < 16 → ∀ b, b < 16 → a ≠ b → (TX6 a).2.1 ≠ (TX6 b).2.1 := by decide +kernel
theorem tyX6_ok : ∀ k, k < 16 → parseFieldDescriptor (TX6 k).2.2.1 = some (tyX6 k) := by decide +kernel
def RX7 : String := "TwinPanel"
def TX7 : u_T := fun k => match k with
  | 0 => ("TwinPanel", "patch", "LTwinPanel$Patch;", true)
  | 1 => ("TwinPanel", "levels", "LTwinPanel$Levels;", true)
  | 2 => ("TwinPanel", "lamps", "LTwinPanel$Lamps;", true)
  | 3 => ("TwinPanel", "doubles", "LTwinPanel$Twin;", true)
  | 4 => ("TwinPanel", "floats", "LTwinPanel$Twin;", true)
  | 5 => ("TwinPanel", "strips", "LTwinPanel$Strips;", true)
  | 6 => ("TwinPanel", "trials", "LTwinPanel$Trials;", true)
  | 7 => ("TwinPanel", "startRates", "[J", true)
  | 8 => ("TwinPanel", "greatestApart", "[D", true)
  | 9 => ("TwinPanel", "currentMode", "I", false)
  | 10 => ("TwinPanel", "currentTime", "I", false)
  | 11 => ("TwinPanel", "brokenRule", "I", false)
  | _ => ("TwinPanel", "stepsEver", "I", false)
def tyX7 : Nat → FieldType := fun k => match k with
  | 0 => .object "TwinPanel$Patch"
  | 1 => .object "TwinPanel$Levels"
  | 2 => .object "TwinPanel$Lamps"
  | 3 => .object "TwinPanel$Twin"
  | 4 => .object "TwinPanel$Twin"
  | 5 => .object "TwinPanel$Strips"
  | 6 => .object "TwinPanel$Trials"
  | 7 => .array .long
  | 8 => .array .double
  | 9 => .int
  | 10 => .int
  | 11 => .int
  | _ => .int
theorem nmX7 : ∀ a, a < 13 → ∀ b, b < 13 → a ≠ b → (TX7 a).2.1 ≠ (TX7 b).2.1 := by decide +kernel
theorem tyX7_ok : ∀ k, k < 13 → parseFieldDescriptor (TX7 k).2.2.1 = some (tyX7 k) := by decide +kernel
def RX8 : String := "TwinPanelModel"
def TX8 : u_T := fun k => match k with
  | 0 => ("TwinPanelModel", "modules", "I", false)
  | 1 => ("TwinPanelModel", "kinds", "[I", true)
  | 2 => ("TwinPanelModel", "settings", "[D", true)
  | 3 => ("TwinPanelModel", "from", "[I", true)
  | 4 => ("TwinPanelModel", "turned", "[Z", true)
  | 5 => ("TwinPanelModel", "begins", "[D", true)
  | 6 => ("TwinPanelModel", "points", "[I", true)
  | 7 => ("TwinPanelModel", "xs", "[D", true)
  | 8 => ("TwinPanelModel", "ys", "[D", true)
  | 9 => ("TwinPanelModel", "failAt", "[I", true)
  | 10 => ("TwinPanelModel", "levels", "[I", true)
  | 11 => ("TwinPanelModel", "mode", "I", false)
  | 12 => ("TwinPanelModel", "time", "I", false)
  | 13 => ("TwinPanelModel", "rule", "I", false)
  | 14 => ("TwinPanelModel", "halvings", "I", false)
  | 15 => ("TwinPanelModel", "steps", "I", false)
  | 16 => ("TwinPanelModel", "broken", "I", false)
  | 17 => ("TwinPanelModel", "state", "[D", true)
  | 18 => ("TwinPanelModel", "stateF", "[F", true)
  | 19 => ("TwinPanelModel", "reading", "[D", true)
  | 20 => ("TwinPanelModel", "readingF", "[F", true)
  | 21 => ("TwinPanelModel", "row", "[D", true)
  | 22 => ("TwinPanelModel", "rowF", "[F", true)
  | 23 => ("TwinPanelModel", "seeds", "[I", true)
  | 24 => ("TwinPanelModel", "lamps", "[I", true)
  | 25 => ("TwinPanelModel", "apart", "[D", true)
  | 26 => ("TwinPanelModel", "rates", "[D", true)
  | 27 => ("TwinPanelModel", "stateKept", "[D", true)
  | 28 => ("TwinPanelModel", "stateFKept", "[F", true)
  | 29 => ("TwinPanelModel", "readingKept", "[D", true)
  | 30 => ("TwinPanelModel", "readingFKept", "[F", true)
  | 31 => ("TwinPanelModel", "rowKept", "[D", true)
  | 32 => ("TwinPanelModel", "rowFKept", "[F", true)
  | 33 => ("TwinPanelModel", "seedsKept", "[I", true)
  | 34 => ("TwinPanelModel", "lampsKept", "[I", true)
  | 35 => ("TwinPanelModel", "apartKept", "[D", true)
  | 36 => ("TwinPanelModel", "ratesKept", "[D", true)
  | 37 => ("TwinPanelModel", "strips", "I", false)
  | 38 => ("TwinPanelModel", "stripOf", "[I", true)
  | 39 => ("TwinPanelModel", "samples", "[I", true)
  | 40 => ("TwinPanelModel", "sample", "[D", true)
  | 41 => ("TwinPanelModel", "swept", "I", false)
  | 42 => ("TwinPanelModel", "sweptValues", "[D", true)
  | 43 => ("TwinPanelModel", "reached", "[Z", true)
  | 44 => ("TwinPanelModel", "lampTime", "I", false)
  | 45 => ("TwinPanelModel", "length", "D", false)
  | 46 => ("TwinPanelModel", "first", "[D", true)
  | 47 => ("TwinPanelModel", "second", "[D", true)
  | 48 => ("TwinPanelModel", "third", "[D", true)
  | 49 => ("TwinPanelModel", "before", "[D", true)
  | 50 => ("TwinPanelModel", "firstF", "[F", true)
  | 51 => ("TwinPanelModel", "secondF", "[F", true)
  | 52 => ("TwinPanelModel", "thirdF", "[F", true)
  | 53 => ("TwinPanelModel", "beforeF", "[F", true)
  | 54 => ("TwinPanelModel", "next", "[D", true)
  | 55 => ("TwinPanelModel", "nextF", "[F", true)
  | 56 => ("TwinPanelModel", "rate", "[D", true)
  | 57 => ("TwinPanelModel", "rateF", "[F", true)
  | 58 => ("TwinPanelModel", "timeKept", "I", false)
  | 59 => ("TwinPanelModel", "settingKept", "D", false)
  | _ => ("TwinPanelModel", "h", "J", false)
def tyX8 : Nat → FieldType := fun k => match k with
  | 0 => .int
  | 1 => .array .int
  | 2 => .array .double
  | 3 => .array .int
  | 4 => .array .boolean
  | 5 => .array .double
  | 6 => .array .int
  | 7 => .array .double
  | 8 => .array .double
  | 9 => .array .int
  | 10 => .array .int
  | 11 => .int
  | 12 => .int
  | 13 => .int
  | 14 => .int
  | 15 => .int
  | 16 => .int
  | 17 => .array .double
  | 18 => .array .float
  | 19 => .array .double
  | 20 => .array .float
  | 21 => .array .double
  | 22 => .array .float
  | 23 => .array .int
  | 24 => .array .int
  | 25 => .array .double
  | 26 => .array .double
  | 27 => .array .double
  | 28 => .array .float
  | 29 => .array .double
  | 30 => .array .float
  | 31 => .array .double
  | 32 => .array .float
  | 33 => .array .int
  | 34 => .array .int
  | 35 => .array .double
  | 36 => .array .double
  | 37 => .int
  | 38 => .array .int
  | 39 => .array .int
  | 40 => .array .double
  | 41 => .int
  | 42 => .array .double
  | 43 => .array .boolean
  | 44 => .int
  | 45 => .double
  | 46 => .array .double
  | 47 => .array .double
  | 48 => .array .double
  | 49 => .array .double
  | 50 => .array .float
  | 51 => .array .float
  | 52 => .array .float
  | 53 => .array .float
  | 54 => .array .double
  | 55 => .array .float
  | 56 => .array .double
  | 57 => .array .float
  | 58 => .int
  | 59 => .double
  | _ => .long
theorem nmX8 : ∀ a, a < 61 → ∀ b, b < 61 → a ≠ b → (TX8 a).2.1 ≠ (TX8 b).2.1 := by decide +kernel
theorem tyX8_ok : ∀ k, k < 61 → parseFieldDescriptor (TX8 k).2.2.1 = some (tyX8 k) := by decide +kernel
def RJxe99ae : String := "java/lang/Double"
def RJxf58ca : String := "java/lang/Float"
def RJ9 : String := "java/lang/Math"
def RJ10 : String := "java/lang/System"
abbrev vwCl : List vw_C := [(RX0, TX0, 2), (RX1, TX1, 5), (RX3, TX3, 15), (RX4, TX4, 4), (RX5, TX5, 5), (RX6, TX6, 16), (RX7, TX7, 13), (RX8, TX8, 61)]
abbrev LC : Type := (Nat × Nat) ⊕ (Nat × List (Nat × Nat))
def lay : List LC := [.inr (6, [(5, 3), (5, 15), (5, 19), (5, 21), (5, 34), (5, 47), (5, 51), (5, 1), (5, 2), (0, 0), (0, 0), (0, 0), (0, 0)]),
  .inl (2, 20),
  .inl (4, 20),
  .inr (2, [(0, 0), (0, 0), (0, 0), (1, 0), (5, 4), (5, 5), (5, 6), (5, 7), (5, 8), (5, 9), (5, 10), (5, 11), (5, 12), (5, 13), (5, 14)]),
  .inl (0, 20),
  .inl (2, 20),
  .inl (4, 20),
  .inl (2, 20),
  .inl (4, 20),
  .inl (0, 120),
  .inl (1, 120),
  .inl (0, 20),
  .inl (4, 160),
  .inl (4, 160),
  .inl (0, 20),
  .inr (1, [(5, 3), (5, 16), (5, 17), (0, 0), (5, 18)]),
  .inl (0, 20),
  .inl (0, 20),
  .inl (0, 20),
  .inr (0, [(5, 20), (0, 0)]),
  .inl (0, 20),
  .inr (5, [(5, 3), (5, 15), (5, 19), (1, 0), (5, 22), (5, 23), (5, 24), (5, 25), (5, 26), (5, 27), (5, 28), (5, 29), (5, 30), (5, 31), (5, 32), (5, 33)]),
  .inl (4, 20),
  .inl (4, 20),
  .inl (4, 20),
  .inl (4, 320),
  .inl (0, 20),
  .inl (0, 20),
  .inl (4, 20),
  .inl (4, 20),
  .inl (4, 20),
  .inl (4, 20),
  .inl (4, 20),
  .inl (4, 20),
  .inr (5, [(5, 3), (5, 15), (5, 19), (1, 0), (5, 35), (5, 36), (5, 37), (5, 38), (5, 39), (5, 40), (5, 41), (5, 42), (5, 43), (5, 44), (5, 45), (5, 46)]),
  .inl (4, 20),
  .inl (4, 20),
  .inl (4, 20),
  .inl (4, 320),
  .inl (0, 20),
  .inl (0, 20),
  .inl (4, 20),
  .inl (4, 20),
  .inl (4, 20),
  .inl (4, 20),
  .inl (4, 20),
  .inl (4, 20),
  .inr (3, [(0, 0), (5, 48), (5, 49), (5, 50)]),
  .inl (0, 6),
  .inl (0, 6),
  .inl (2, 720),
  .inr (4, [(5, 3), (5, 56), (5, 52), (0, 0), (5, 53)]),
  .inl (4, 6),
  .inl (4, 20),
  .inr (0, [(5, 55), (0, 0)]),
  .inl (0, 20),
  .inr (5, [(5, 3), (5, 15), (5, 54), (1, 0), (5, 57), (5, 58), (5, 59), (5, 60), (5, 61), (5, 62), (5, 63), (5, 64), (5, 65), (5, 66), (5, 67), (5, 68)]),
  .inl (4, 20),
  .inl (4, 20),
  .inl (4, 20),
  .inl (4, 320),
  .inl (0, 20),
  .inl (0, 20),
  .inl (4, 20),
  .inl (4, 20),
  .inl (4, 20),
  .inl (4, 20),
  .inl (4, 20),
  .inl (4, 20),
  .inr (7, [(0, 0), (5, 70), (5, 71), (5, 72), (5, 73), (5, 74), (5, 75), (5, 76), (5, 77), (5, 78), (5, 79), (0, 0), (0, 0), (0, 0), (0, 0), (0, 0), (0, 0), (5, 80), (5, 81), (5, 82), (5, 83), (5, 84), (5, 85), (5, 86), (5, 87), (5, 88), (5, 89), (5, 90), (5, 91), (5, 92), (5, 93), (5, 94), (5, 95), (5, 96), (5, 97), (5, 98), (5, 99), (0, 0), (5, 100), (5, 101), (5, 102), (0, 0), (5, 103), (5, 104), (0, 0), (4, 0), (5, 105), (5, 106), (5, 107), (5, 108), (5, 109), (5, 110), (5, 111), (5, 112), (5, 113), (5, 114), (5, 115), (5, 116), (0, 0), (4, 0), (2, 0)]),
  .inl (0, 20),
  .inl (4, 20),
  .inl (0, 120),
  .inl (1, 120),
  .inl (4, 20),
  .inl (0, 20),
  .inl (4, 160),
  .inl (4, 160),
  .inl (0, 20),
  .inl (0, 20),
  .inl (4, 20),
  .inl (3, 20),
  .inl (4, 20),
  .inl (3, 20),
  .inl (4, 320),
  .inl (3, 320),
  .inl (0, 20),
  .inl (0, 20),
  .inl (4, 20),
  .inl (4, 20),
  .inl (4, 20),
  .inl (3, 20),
  .inl (4, 20),
  .inl (3, 20),
  .inl (4, 320),
  .inl (3, 320),
  .inl (0, 20),
  .inl (0, 20),
  .inl (4, 20),
  .inl (4, 20),
  .inl (0, 6),
  .inl (0, 6),
  .inl (4, 720),
  .inl (4, 6),
  .inl (1, 20),
  .inl (4, 20),
  .inl (4, 20),
  .inl (4, 20),
  .inl (4, 20),
  .inl (3, 20),
  .inl (3, 20),
  .inl (3, 20),
  .inl (3, 20),
  .inl (4, 20),
  .inl (3, 20),
  .inl (4, 20),
  .inl (3, 20)]
abbrev Mt : Type := String × MethodName × ByteArray × Nat × Option FieldType × Nat × Nat
def mX_init : Mt := ("TwinPanel", ⟨"TwinPanel", "<init>", "()V"⟩, prog_1_method_1_code, 1, Option.none, 3, 66)
def mP_init : Mt := ("TwinPanel$Patch", ⟨"TwinPanel$Patch", "<init>", "()V"⟩, prog_5_method_1_code, 1, Option.none, 1, 20)
def mV_init : Mt := ("TwinPanel$Levels", ⟨"TwinPanel$Levels", "<init>", "(LTwinPanel$Patch;)V"⟩, prog_3_method_1_code, 2, Option.none, 1, 20)
def mL_init : Mt := ("TwinPanel$Lamps", ⟨"TwinPanel$Lamps", "<init>", "()V"⟩, prog_2_method_1_code, 2, Option.none, 1, 20)
def mT_init : Mt := ("TwinPanel$Twin", ⟨"TwinPanel$Twin", "<init>", "(LTwinPanel$Patch;LTwinPanel$Levels;LTwinPanel$Lamps;Z)V"⟩, prog_8_method_1_code, 5, Option.none, 1, 20)
def mS_init : Mt := ("TwinPanel$Strips", ⟨"TwinPanel$Strips", "<init>", "()V"⟩, prog_6_method_1_code, 1, Option.none, 1, 20)
def mR_init : Mt := ("TwinPanel$Trials", ⟨"TwinPanel$Trials", "<init>", "(LTwinPanel$Patch;LTwinPanel$Levels;)V"⟩, prog_7_method_1_code, 3, Option.none, 2, 44)
def mX_module : Mt := ("TwinPanel", ⟨"TwinPanel", "module", "(IJ)I"⟩, prog_1_method_2_code, 4, Option.some Jvm.ClassFile.FieldType.int, 4, 105)
def mN_decoded : Mt := ("TwinPanel$Numbers", ⟨"TwinPanel$Numbers", "decoded", "(J)D"⟩, prog_4_method_3_code, 10, Option.some Jvm.ClassFile.FieldType.double, 1, 28)
def mN_scaled : Mt := ("TwinPanel$Numbers", ⟨"TwinPanel$Numbers", "scaled", "(DI)D"⟩, prog_4_method_4_code, 9, Option.some Jvm.ClassFile.FieldType.double, 0, 0)
def mP_fits : Mt := ("TwinPanel$Patch", ⟨"TwinPanel$Patch", "fits", "(ID)Z"⟩, prog_5_method_3_code, 3, Option.some Jvm.ClassFile.FieldType.boolean, 1, 23)
def mN_sizeOf : Mt := ("TwinPanel$Numbers", ⟨"TwinPanel$Numbers", "sizeOf", "(D)D"⟩, prog_4_method_11_code, 2, Option.some Jvm.ClassFile.FieldType.double, 0, 0)
def mP_isWhole : Mt := ("TwinPanel$Patch", ⟨"TwinPanel$Patch", "isWhole", "(DII)Z"⟩, prog_5_method_4_code, 4, Option.some Jvm.ClassFile.FieldType.boolean, 0, 0)
def mP_add : Mt := ("TwinPanel$Patch", ⟨"TwinPanel$Patch", "add", "(IJ)I"⟩, prog_5_method_6_code, 6, Option.some Jvm.ClassFile.FieldType.int, 3, 80)
def mP_set : Mt := ("TwinPanel$Patch", ⟨"TwinPanel$Patch", "set", "(IJ)V"⟩, prog_5_method_7_code, 4, Option.none, 2, 57)
def mX_cord : Mt := ("TwinPanel", ⟨"TwinPanel", "cord", "(IIIZ)I"⟩, prog_1_method_3_code, 5, Option.some Jvm.ClassFile.FieldType.int, 1, 24)
def mP_has : Mt := ("TwinPanel$Patch", ⟨"TwinPanel$Patch", "has", "(I)Z"⟩, prog_5_method_5_code, 2, Option.some Jvm.ClassFile.FieldType.boolean, 0, 0)
def mP_tie : Mt := ("TwinPanel$Patch", ⟨"TwinPanel$Patch", "tie", "(IIIZ)V"⟩, prog_5_method_8_code, 5, Option.none, 0, 0)
def mX_point : Mt := ("TwinPanel", ⟨"TwinPanel", "point", "(IJJ)I"⟩, prog_1_method_4_code, 10, Option.some Jvm.ClassFile.FieldType.int, 2, 57)
def mN_inRange : Mt := ("TwinPanel$Numbers", ⟨"TwinPanel$Numbers", "inRange", "(D)Z"⟩, prog_4_method_12_code, 2, Option.some Jvm.ClassFile.FieldType.boolean, 1, 21)
def mP_isBehindPoints : Mt := ("TwinPanel$Patch", ⟨"TwinPanel$Patch", "isBehindPoints", "(ID)Z"⟩, prog_5_method_9_code, 6, Option.some Jvm.ClassFile.FieldType.boolean, 0, 0)
def mP_addPoint : Mt := ("TwinPanel$Patch", ⟨"TwinPanel$Patch", "addPoint", "(IDD)I"⟩, prog_5_method_10_code, 7, Option.some Jvm.ClassFile.FieldType.int, 0, 0)
def mX_begin : Mt := ("TwinPanel", ⟨"TwinPanel", "begin", "(IJ)I"⟩, prog_1_method_5_code, 6, Option.some Jvm.ClassFile.FieldType.int, 2, 57)
def mP_remembers : Mt := ("TwinPanel$Patch", ⟨"TwinPanel$Patch", "remembers", "(I)Z"⟩, prog_5_method_2_code, 1, Option.some Jvm.ClassFile.FieldType.boolean, 0, 0)
def mX_setting : Mt := ("TwinPanel", ⟨"TwinPanel", "setting", "(IJ)I"⟩, prog_1_method_6_code, 4, Option.some Jvm.ClassFile.FieldType.int, 3, 80)
def mX_rule : Mt := ("TwinPanel", ⟨"TwinPanel", "rule", "(II)I"⟩, prog_1_method_7_code, 3, Option.some Jvm.ClassFile.FieldType.int, 0, 0)
def mX_check : Mt := ("TwinPanel", ⟨"TwinPanel", "check", "()I"⟩, prog_1_method_8_code, 1, Option.some Jvm.ClassFile.FieldType.int, 4, 90)
def mX_firstBrokenRule : Mt := ("TwinPanel", ⟨"TwinPanel", "firstBrokenRule", "()I"⟩, prog_1_method_11_code, 2, Option.some Jvm.ClassFile.FieldType.int, 3, 69)
def mV_refresh : Mt := ("TwinPanel$Levels", ⟨"TwinPanel$Levels", "refresh", "()V"⟩, prog_3_method_2_code, 3, Option.none, 2, 44)
def mV_sourcesOf : Mt := ("TwinPanel$Levels", ⟨"TwinPanel$Levels", "sourcesOf", "(I)I"⟩, prog_3_method_3_code, 4, Option.some Jvm.ClassFile.FieldType.int, 0, 0)
def mV_levelBehindSources : Mt := ("TwinPanel$Levels", ⟨"TwinPanel$Levels", "levelBehindSources", "(I)I"⟩, prog_3_method_4_code, 4, Option.some Jvm.ClassFile.FieldType.int, 1, 21)
def mJA_max : Mt := ("java/lang/Math", ⟨"java/lang/Math", "max", "(II)I"⟩, prog_13_method_65_code, 2, Option.some Jvm.ClassFile.FieldType.int, 0, 0)
def mV_sort : Mt := ("TwinPanel$Levels", ⟨"TwinPanel$Levels", "sort", "()V"⟩, prog_3_method_5_code, 3, Option.none, 0, 0)
def mX_leastThatBreaks : Mt := ("TwinPanel", ⟨"TwinPanel", "leastThatBreaks", "(I)I"⟩, prog_1_method_12_code, 3, Option.some Jvm.ClassFile.FieldType.int, 2, 47)
def mX_breaks : Mt := ("TwinPanel", ⟨"TwinPanel", "breaks", "(II)Z"⟩, prog_1_method_13_code, 3, Option.some Jvm.ClassFile.FieldType.boolean, 1, 25)
def mP_hasNeededInputs : Mt := ("TwinPanel$Patch", ⟨"TwinPanel$Patch", "hasNeededInputs", "(I)Z"⟩, prog_5_method_11_code, 4, Option.some Jvm.ClassFile.FieldType.boolean, 0, 0)
def mV_isOnCircle : Mt := ("TwinPanel$Levels", ⟨"TwinPanel$Levels", "isOnCircle", "(I)Z"⟩, prog_3_method_6_code, 6, Option.some Jvm.ClassFile.FieldType.boolean, 0, 0)
def mX_broken : Mt := ("TwinPanel", ⟨"TwinPanel", "broken", "()I"⟩, prog_1_method_9_code, 1, Option.some Jvm.ClassFile.FieldType.int, 0, 0)
def mX_level : Mt := ("TwinPanel", ⟨"TwinPanel", "level", "(I)I"⟩, prog_1_method_10_code, 2, Option.some Jvm.ClassFile.FieldType.int, 3, 66)
def mX_mode : Mt := ("TwinPanel", ⟨"TwinPanel", "mode", "(I)I"⟩, prog_1_method_14_code, 3, Option.some Jvm.ClassFile.FieldType.int, 6, 149)
def mX_toStart : Mt := ("TwinPanel", ⟨"TwinPanel", "toStart", "()V"⟩, prog_1_method_25_code, 2, Option.none, 5, 128)
def mL_putOut : Mt := ("TwinPanel$Lamps", ⟨"TwinPanel$Lamps", "putOut", "()V"⟩, prog_2_method_2_code, 2, Option.none, 0, 0)
def mT_toStart : Mt := ("TwinPanel$Twin", ⟨"TwinPanel$Twin", "toStart", "(ID)V"⟩, prog_8_method_3_code, 8, Option.none, 4, 101)
def mT_rounded : Mt := ("TwinPanel$Twin", ⟨"TwinPanel$Twin", "rounded", "(D)D"⟩, prog_8_method_2_code, 3, Option.some Jvm.ClassFile.FieldType.double, 0, 0)
def mT_readAll : Mt := ("TwinPanel$Twin", ⟨"TwinPanel$Twin", "readAll", "()V"⟩, prog_8_method_12_code, 3, Option.none, 3, 79)
def mT_plainReading : Mt := ("TwinPanel$Twin", ⟨"TwinPanel$Twin", "plainReading", "(I)D"⟩, prog_8_method_14_code, 2, Option.some Jvm.ClassFile.FieldType.double, 2, 58)
def mT_inputSum : Mt := ("TwinPanel$Twin", ⟨"TwinPanel$Twin", "inputSum", "(I)D"⟩, prog_8_method_16_code, 6, Option.some Jvm.ClassFile.FieldType.double, 1, 23)
def mT_in : Mt := ("TwinPanel$Twin", ⟨"TwinPanel$Twin", "in", "(II)D"⟩, prog_8_method_15_code, 4, Option.some Jvm.ClassFile.FieldType.double, 0, 0)
def mT_quotient : Mt := ("TwinPanel$Twin", ⟨"TwinPanel$Twin", "quotient", "(IDD)D"⟩, prog_8_method_18_code, 6, Option.some Jvm.ClassFile.FieldType.double, 1, 22)
def mL_light : Mt := ("TwinPanel$Lamps", ⟨"TwinPanel$Lamps", "light", "(I)V"⟩, prog_2_method_3_code, 2, Option.none, 0, 0)
def mT_notBelowZero : Mt := ("TwinPanel$Twin", ⟨"TwinPanel$Twin", "notBelowZero", "(ID)D"⟩, prog_8_method_19_code, 4, Option.some Jvm.ClassFile.FieldType.double, 1, 21)
def mN_root : Mt := ("TwinPanel$Numbers", ⟨"TwinPanel$Numbers", "root", "(D)D"⟩, prog_4_method_9_code, 8, Option.some Jvm.ClassFile.FieldType.double, 1, 28)
def mN_wholeRoot : Mt := ("TwinPanel$Numbers", ⟨"TwinPanel$Numbers", "wholeRoot", "(D)J"⟩, prog_4_method_10_code, 9, Option.some Jvm.ClassFile.FieldType.long, 0, 0)
def mT_fromTable : Mt := ("TwinPanel$Twin", ⟨"TwinPanel$Twin", "fromTable", "(ID)D"⟩, prog_8_method_20_code, 17, Option.some Jvm.ClassFile.FieldType.double, 1, 22)
def mT_limited : Mt := ("TwinPanel$Twin", ⟨"TwinPanel$Twin", "limited", "(DD)D"⟩, prog_8_method_21_code, 4, Option.some Jvm.ClassFile.FieldType.double, 0, 0)
def mT_after : Mt := ("TwinPanel$Twin", ⟨"TwinPanel$Twin", "after", "(ID)D"⟩, prog_8_method_13_code, 4, Option.some Jvm.ClassFile.FieldType.double, 1, 21)
def mS_clear : Mt := ("TwinPanel$Strips", ⟨"TwinPanel$Strips", "clear", "()V"⟩, prog_6_method_6_code, 2, Option.none, 0, 0)
def mS_take : Mt := ("TwinPanel$Strips", ⟨"TwinPanel$Strips", "take", "([D)V"⟩, prog_6_method_7_code, 3, Option.none, 2, 50)
def mN_bitsOf : Mt := ("TwinPanel$Numbers", ⟨"TwinPanel$Numbers", "bitsOf", "(D)J"⟩, prog_4_method_6_code, 2, Option.some Jvm.ClassFile.FieldType.long, 1, 29)
def mN_packed : Mt := ("TwinPanel$Numbers", ⟨"TwinPanel$Numbers", "packed", "(DII)J"⟩, prog_4_method_8_code, 10, Option.some Jvm.ClassFile.FieldType.long, 0, 0)
def mT_sumBits : Mt := ("TwinPanel$Twin", ⟨"TwinPanel$Twin", "sumBits", "(I)J"⟩, prog_8_method_17_code, 5, Option.some Jvm.ClassFile.FieldType.long, 2, 50)
def mX_noteApart : Mt := ("TwinPanel", ⟨"TwinPanel", "noteApart", "()V"⟩, prog_1_method_27_code, 4, Option.none, 1, 21)
def mX_now : Mt := ("TwinPanel", ⟨"TwinPanel", "now", "()I"⟩, prog_1_method_15_code, 1, Option.some Jvm.ClassFile.FieldType.int, 0, 0)
def mX_run : Mt := ("TwinPanel", ⟨"TwinPanel", "run", "(I)I"⟩, prog_1_method_16_code, 4, Option.some Jvm.ClassFile.FieldType.int, 7, 171)
def mS_haveRoomFor : Mt := ("TwinPanel$Strips", ⟨"TwinPanel$Strips", "haveRoomFor", "(I)Z"⟩, prog_6_method_5_code, 3, Option.some Jvm.ClassFile.FieldType.boolean, 0, 0)
def mP_leastFailingAt : Mt := ("TwinPanel$Patch", ⟨"TwinPanel$Patch", "leastFailingAt", "(I)I"⟩, prog_5_method_13_code, 3, Option.some Jvm.ClassFile.FieldType.int, 0, 0)
def mX_doStep : Mt := ("TwinPanel", ⟨"TwinPanel", "doStep", "()V"⟩, prog_1_method_26_code, 3, Option.none, 6, 149)
def mN_powerOfHalf : Mt := ("TwinPanel$Numbers", ⟨"TwinPanel$Numbers", "powerOfHalf", "(I)D"⟩, prog_4_method_5_code, 1, Option.some Jvm.ClassFile.FieldType.double, 1, 28)
def mT_advance : Mt := ("TwinPanel$Twin", ⟨"TwinPanel$Twin", "advance", "(D)V"⟩, prog_8_method_4_code, 5, Option.none, 5, 125)
def mT_keepComing : Mt := ("TwinPanel$Twin", ⟨"TwinPanel$Twin", "keepComing", "()V"⟩, prog_8_method_10_code, 2, Option.none, 1, 23)
def mT_sumsInto : Mt := ("TwinPanel$Twin", ⟨"TwinPanel$Twin", "sumsInto", "([D)V"⟩, prog_8_method_6_code, 3, Option.none, 2, 48)
def mT_moveStates : Mt := ("TwinPanel$Twin", ⟨"TwinPanel$Twin", "moveStates", "([DD)V"⟩, prog_8_method_7_code, 5, Option.none, 2, 44)
def mT_stage : Mt := ("TwinPanel$Twin", ⟨"TwinPanel$Twin", "stage", "([DD[D)V"⟩, prog_8_method_5_code, 5, Option.none, 4, 101)
def mT_addSecondToFirst : Mt := ("TwinPanel$Twin", ⟨"TwinPanel$Twin", "addSecondToFirst", "()V"⟩, prog_8_method_8_code, 2, Option.none, 1, 22)
def mT_weighIntoFirst : Mt := ("TwinPanel$Twin", ⟨"TwinPanel$Twin", "weighIntoFirst", "()V"⟩, prog_8_method_9_code, 4, Option.none, 1, 22)
def mT_remember : Mt := ("TwinPanel$Twin", ⟨"TwinPanel$Twin", "remember", "()V"⟩, prog_8_method_11_code, 2, Option.none, 1, 22)
def mX_fail : Mt := ("TwinPanel", ⟨"TwinPanel", "fail", "(II)I"⟩, prog_1_method_17_code, 3, Option.some Jvm.ClassFile.FieldType.int, 1, 21)
def mX_time : Mt := ("TwinPanel", ⟨"TwinPanel", "time", "()I"⟩, prog_1_method_18_code, 1, Option.some Jvm.ClassFile.FieldType.int, 0, 0)
def mX_reading : Mt := ("TwinPanel", ⟨"TwinPanel", "reading", "(I)J"⟩, prog_1_method_19_code, 2, Option.some Jvm.ClassFile.FieldType.long, 2, 50)
def mX_isRead : Mt := ("TwinPanel", ⟨"TwinPanel", "isRead", "(I)Z"⟩, prog_1_method_24_code, 2, Option.some Jvm.ClassFile.FieldType.boolean, 1, 21)
def mX_single : Mt := ("TwinPanel", ⟨"TwinPanel", "single", "(I)I"⟩, prog_1_method_20_code, 2, Option.some Jvm.ClassFile.FieldType.int, 2, 50)
def mN_floatBitsOf : Mt := ("TwinPanel$Numbers", ⟨"TwinPanel$Numbers", "floatBitsOf", "(D)I"⟩, prog_4_method_7_code, 2, Option.some Jvm.ClassFile.FieldType.int, 1, 29)
def mX_lamp : Mt := ("TwinPanel", ⟨"TwinPanel", "lamp", "(I)I"⟩, prog_1_method_21_code, 2, Option.some Jvm.ClassFile.FieldType.int, 1, 21)
def mX_apart : Mt := ("TwinPanel", ⟨"TwinPanel", "apart", "(I)J"⟩, prog_1_method_22_code, 2, Option.some Jvm.ClassFile.FieldType.long, 2, 50)
def mX_rate : Mt := ("TwinPanel", ⟨"TwinPanel", "rate", "(I)J"⟩, prog_1_method_23_code, 2, Option.some Jvm.ClassFile.FieldType.long, 2, 42)
def mX_strip : Mt := ("TwinPanel", ⟨"TwinPanel", "strip", "(I)I"⟩, prog_1_method_28_code, 2, Option.some Jvm.ClassFile.FieldType.int, 1, 21)
def mS_add : Mt := ("TwinPanel$Strips", ⟨"TwinPanel$Strips", "add", "(I)I"⟩, prog_6_method_3_code, 2, Option.some Jvm.ClassFile.FieldType.int, 0, 0)
def mX_samples : Mt := ("TwinPanel", ⟨"TwinPanel", "samples", "(I)I"⟩, prog_1_method_29_code, 2, Option.some Jvm.ClassFile.FieldType.int, 1, 21)
def mS_has : Mt := ("TwinPanel$Strips", ⟨"TwinPanel$Strips", "has", "(I)Z"⟩, prog_6_method_2_code, 2, Option.some Jvm.ClassFile.FieldType.boolean, 0, 0)
def mX_sample : Mt := ("TwinPanel", ⟨"TwinPanel", "sample", "(II)J"⟩, prog_1_method_30_code, 3, Option.some Jvm.ClassFile.FieldType.long, 1, 22)
def mS_at : Mt := ("TwinPanel$Strips", ⟨"TwinPanel$Strips", "at", "(II)J"⟩, prog_6_method_4_code, 3, Option.some Jvm.ClassFile.FieldType.long, 0, 0)
def mX_crossing : Mt := ("TwinPanel", ⟨"TwinPanel", "crossing", "(II)I"⟩, prog_1_method_31_code, 3, Option.some Jvm.ClassFile.FieldType.int, 3, 69)
def mS_place : Mt := ("TwinPanel$Strips", ⟨"TwinPanel$Strips", "place", "(IIZ)I"⟩, prog_6_method_8_code, 6, Option.some Jvm.ClassFile.FieldType.int, 2, 44)
def mS_isPeak : Mt := ("TwinPanel$Strips", ⟨"TwinPanel$Strips", "isPeak", "(II)Z"⟩, prog_6_method_10_code, 3, Option.some Jvm.ClassFile.FieldType.boolean, 1, 22)
def mS_rank : Mt := ("TwinPanel$Strips", ⟨"TwinPanel$Strips", "rank", "(J)J"⟩, prog_6_method_11_code, 2, Option.some Jvm.ClassFile.FieldType.long, 0, 0)
def mS_isCrossing : Mt := ("TwinPanel$Strips", ⟨"TwinPanel$Strips", "isCrossing", "(II)Z"⟩, prog_6_method_9_code, 3, Option.some Jvm.ClassFile.FieldType.boolean, 1, 22)
def mX_peak : Mt := ("TwinPanel", ⟨"TwinPanel", "peak", "(II)I"⟩, prog_1_method_32_code, 3, Option.some Jvm.ClassFile.FieldType.int, 3, 69)
def mX_sweep : Mt := ("TwinPanel", ⟨"TwinPanel", "sweep", "(IJJIII)I"⟩, prog_1_method_33_code, 14, Option.some Jvm.ClassFile.FieldType.int, 7, 177)
def mN_isFinite : Mt := ("TwinPanel$Numbers", ⟨"TwinPanel$Numbers", "isFinite", "(J)Z"⟩, prog_4_method_2_code, 2, Option.some Jvm.ClassFile.FieldType.boolean, 0, 0)
def mR_readingBehind : Mt := ("TwinPanel$Trials", ⟨"TwinPanel$Trials", "readingBehind", "(IDII)D"⟩, prog_7_method_2_code, 9, Option.some Jvm.ClassFile.FieldType.double, 6, 149)
def mX_swept : Mt := ("TwinPanel", ⟨"TwinPanel", "swept", "(I)J"⟩, prog_1_method_34_code, 2, Option.some Jvm.ClassFile.FieldType.long, 2, 50)
def mX_halved : Mt := ("TwinPanel", ⟨"TwinPanel", "halved", "(II)J"⟩, prog_1_method_35_code, 3, Option.some Jvm.ClassFile.FieldType.long, 7, 178)
def mR_greatestGap : Mt := ("TwinPanel$Trials", ⟨"TwinPanel$Trials", "greatestGap", "(II)D"⟩, prog_7_method_3_code, 10, Option.some Jvm.ClassFile.FieldType.double, 6, 149)
def mX_about : Mt := ("TwinPanel", ⟨"TwinPanel", "about", "(II)I"⟩, prog_1_method_36_code, 3, Option.some Jvm.ClassFile.FieldType.int, 1, 21)
def mX_count : Mt := ("TwinPanel", ⟨"TwinPanel", "count", "(I)I"⟩, prog_1_method_37_code, 2, Option.some Jvm.ClassFile.FieldType.int, 3, 66)
def mP_cords : Mt := ("TwinPanel$Patch", ⟨"TwinPanel$Patch", "cords", "()I"⟩, prog_5_method_12_code, 3, Option.some Jvm.ClassFile.FieldType.int, 0, 0)
def mV_greatest : Mt := ("TwinPanel$Levels", ⟨"TwinPanel$Levels", "greatest", "()I"⟩, prog_3_method_7_code, 3, Option.some Jvm.ClassFile.FieldType.int, 1, 21)
def mL_lit : Mt := ("TwinPanel$Lamps", ⟨"TwinPanel$Lamps", "lit", "(I)I"⟩, prog_2_method_4_code, 4, Option.some Jvm.ClassFile.FieldType.int, 0, 0)
def mX_digest : Mt := ("TwinPanel", ⟨"TwinPanel", "digest", "()J"⟩, prog_1_method_38_code, 5, Option.some Jvm.ClassFile.FieldType.long, 3, 76)
def mX_with : Mt := ("TwinPanel", ⟨"TwinPanel", "with", "(JJ)J"⟩, prog_1_method_40_code, 4, Option.some Jvm.ClassFile.FieldType.long, 0, 0)
def mX_withModule : Mt := ("TwinPanel", ⟨"TwinPanel", "withModule", "(JI)J"⟩, prog_1_method_39_code, 7, Option.some Jvm.ClassFile.FieldType.long, 2, 50)
def mM_init : Mt := ("TwinPanelModel", ⟨"TwinPanelModel", "<init>", "()V"⟩, prog_10_method_1_code, 2, Option.none, 1, 20)
def mM_module : Mt := ("TwinPanelModel", ⟨"TwinPanelModel", "module", "(IJ)I"⟩, prog_10_method_9_code, 4, Option.some Jvm.ClassFile.FieldType.int, 2, 47)
def mM_in : Mt := ("TwinPanelModel", ⟨"TwinPanelModel", "in", "(III)Z"⟩, prog_10_method_3_code, 3, Option.some Jvm.ClassFile.FieldType.boolean, 0, 0)
def mM_isNumber : Mt := ("TwinPanelModel", ⟨"TwinPanelModel", "isNumber", "(J)Z"⟩, prog_10_method_6_code, 2, Option.some Jvm.ClassFile.FieldType.boolean, 0, 0)
def mM_isSetting : Mt := ("TwinPanelModel", ⟨"TwinPanelModel", "isSetting", "(ID)Z"⟩, prog_10_method_8_code, 3, Option.some Jvm.ClassFile.FieldType.boolean, 1, 25)
def mM_isWithin : Mt := ("TwinPanelModel", ⟨"TwinPanelModel", "isWithin", "(DDD)Z"⟩, prog_10_method_7_code, 6, Option.some Jvm.ClassFile.FieldType.boolean, 0, 0)
def mM_cord : Mt := ("TwinPanelModel", ⟨"TwinPanelModel", "cord", "(IIIZ)I"⟩, prog_10_method_10_code, 5, Option.some Jvm.ClassFile.FieldType.int, 2, 43)
def mM_isModule : Mt := ("TwinPanelModel", ⟨"TwinPanelModel", "isModule", "(I)Z"⟩, prog_10_method_4_code, 2, Option.some Jvm.ClassFile.FieldType.boolean, 1, 22)
def mM_point : Mt := ("TwinPanelModel", ⟨"TwinPanelModel", "point", "(IJJ)I"⟩, prog_10_method_12_code, 9, Option.some Jvm.ClassFile.FieldType.int, 2, 46)
def mM_isSmall : Mt := ("TwinPanelModel", ⟨"TwinPanelModel", "isSmall", "(J)Z"⟩, prog_10_method_11_code, 2, Option.some Jvm.ClassFile.FieldType.boolean, 1, 25)
def mM_begin : Mt := ("TwinPanelModel", ⟨"TwinPanelModel", "begin", "(IJ)I"⟩, prog_10_method_13_code, 4, Option.some Jvm.ClassFile.FieldType.int, 2, 46)
def mM_remembers : Mt := ("TwinPanelModel", ⟨"TwinPanelModel", "remembers", "(I)Z"⟩, prog_10_method_5_code, 1, Option.some Jvm.ClassFile.FieldType.boolean, 0, 0)
def mM_setting : Mt := ("TwinPanelModel", ⟨"TwinPanelModel", "setting", "(IJ)I"⟩, prog_10_method_14_code, 4, Option.some Jvm.ClassFile.FieldType.int, 2, 47)
def mM_rule : Mt := ("TwinPanelModel", ⟨"TwinPanelModel", "rule", "(II)I"⟩, prog_10_method_15_code, 3, Option.some Jvm.ClassFile.FieldType.int, 1, 22)
def mM_check : Mt := ("TwinPanelModel", ⟨"TwinPanelModel", "check", "()I"⟩, prog_10_method_19_code, 2, Option.some Jvm.ClassFile.FieldType.int, 2, 46)
def mM_hasInputs : Mt := ("TwinPanelModel", ⟨"TwinPanelModel", "hasInputs", "(I)Z"⟩, prog_10_method_17_code, 4, Option.some Jvm.ClassFile.FieldType.boolean, 1, 22)
def mM_has : Mt := ("TwinPanelModel", ⟨"TwinPanelModel", "has", "(II)Z"⟩, prog_10_method_16_code, 3, Option.some Jvm.ClassFile.FieldType.boolean, 0, 0)
def mM_isInCircle : Mt := ("TwinPanelModel", ⟨"TwinPanelModel", "isInCircle", "(I)Z"⟩, prog_10_method_18_code, 5, Option.some Jvm.ClassFile.FieldType.boolean, 1, 22)
def mM_broken : Mt := ("TwinPanelModel", ⟨"TwinPanelModel", "broken", "()I"⟩, prog_10_method_21_code, 1, Option.some Jvm.ClassFile.FieldType.int, 0, 0)
def mM_level : Mt := ("TwinPanelModel", ⟨"TwinPanelModel", "level", "(I)I"⟩, prog_10_method_23_code, 2, Option.some Jvm.ClassFile.FieldType.int, 2, 48)
def mM_levelAll : Mt := ("TwinPanelModel", ⟨"TwinPanelModel", "levelAll", "()V"⟩, prog_10_method_22_code, 7, Option.none, 1, 22)
def mM_mode : Mt := ("TwinPanelModel", ⟨"TwinPanelModel", "mode", "(I)I"⟩, prog_10_method_47_code, 4, Option.some Jvm.ClassFile.FieldType.int, 6, 157)
def mM_wrong : Mt := ("TwinPanelModel", ⟨"TwinPanelModel", "wrong", "()I"⟩, prog_10_method_20_code, 3, Option.some Jvm.ClassFile.FieldType.int, 3, 67)
def mM_beginAll : Mt := ("TwinPanelModel", ⟨"TwinPanelModel", "beginAll", "()V"⟩, prog_10_method_44_code, 3, Option.none, 5, 135)
def mM_readAll : Mt := ("TwinPanelModel", ⟨"TwinPanelModel", "readAll", "()V"⟩, prog_10_method_37_code, 4, Option.none, 4, 112)
def mM_made : Mt := ("TwinPanelModel", ⟨"TwinPanelModel", "made", "(I)D"⟩, prog_10_method_33_code, 8, Option.some Jvm.ClassFile.FieldType.double, 3, 85)
def mM_input : Mt := ("TwinPanelModel", ⟨"TwinPanelModel", "input", "(II)D"⟩, prog_10_method_27_code, 5, Option.some Jvm.ClassFile.FieldType.double, 0, 0)
def mM_sum : Mt := ("TwinPanelModel", ⟨"TwinPanelModel", "sum", "(I)D"⟩, prog_10_method_29_code, 6, Option.some Jvm.ClassFile.FieldType.double, 1, 24)
def mM_light : Mt := ("TwinPanelModel", ⟨"TwinPanelModel", "light", "(I)V"⟩, prog_10_method_24_code, 2, Option.none, 0, 0)
def mM_root : Mt := ("TwinPanelModel", ⟨"TwinPanelModel", "root", "(D)D"⟩, prog_10_method_31_code, 17, Option.some Jvm.ClassFile.FieldType.double, 2, 49)
def mJD_doubleToLongBits : Mt := ("java/lang/Double", ⟨"java/lang/Double", "doubleToLongBits", "(D)J"⟩, prog_11_method_23_code, 2, Option.some Jvm.ClassFile.FieldType.long, 1, 23)
def mJD_isNaN : Mt := ("java/lang/Double", ⟨"java/lang/Double", "isNaN", "(D)Z"⟩, prog_11_method_6_code, 2, Option.some Jvm.ClassFile.FieldType.boolean, 0, 0)
def mM_scaled : Mt := ("TwinPanelModel", ⟨"TwinPanelModel", "scaled", "(JI)D"⟩, prog_10_method_32_code, 7, Option.some Jvm.ClassFile.FieldType.double, 1, 23)
def mM_table : Mt := ("TwinPanelModel", ⟨"TwinPanelModel", "table", "(ID)D"⟩, prog_10_method_34_code, 11, Option.some Jvm.ClassFile.FieldType.double, 0, 0)
def mM_after : Mt := ("TwinPanelModel", ⟨"TwinPanelModel", "after", "(ID)D"⟩, prog_10_method_25_code, 4, Option.some Jvm.ClassFile.FieldType.double, 1, 21)
def mM_madeF : Mt := ("TwinPanelModel", ⟨"TwinPanelModel", "madeF", "(I)F"⟩, prog_10_method_35_code, 5, Option.some Jvm.ClassFile.FieldType.float, 3, 85)
def mM_inputF : Mt := ("TwinPanelModel", ⟨"TwinPanelModel", "inputF", "(II)F"⟩, prog_10_method_28_code, 4, Option.some Jvm.ClassFile.FieldType.float, 0, 0)
def mM_sumF : Mt := ("TwinPanelModel", ⟨"TwinPanelModel", "sumF", "(I)F"⟩, prog_10_method_30_code, 5, Option.some Jvm.ClassFile.FieldType.float, 1, 23)
def mM_tableF : Mt := ("TwinPanelModel", ⟨"TwinPanelModel", "tableF", "(IF)F"⟩, prog_10_method_36_code, 10, Option.some Jvm.ClassFile.FieldType.float, 0, 0)
def mM_afterF : Mt := ("TwinPanelModel", ⟨"TwinPanelModel", "afterF", "(IF)F"⟩, prog_10_method_26_code, 3, Option.some Jvm.ClassFile.FieldType.float, 1, 21)
def mM_differ : Mt := ("TwinPanelModel", ⟨"TwinPanelModel", "differ", "(I)V"⟩, prog_10_method_43_code, 4, Option.none, 0, 0)
def mM_toStrips : Mt := ("TwinPanelModel", ⟨"TwinPanelModel", "toStrips", "()V"⟩, prog_10_method_46_code, 2, Option.none, 0, 0)
def mM_now : Mt := ("TwinPanelModel", ⟨"TwinPanelModel", "now", "()I"⟩, prog_10_method_48_code, 1, Option.some Jvm.ClassFile.FieldType.int, 0, 0)
def mM_run : Mt := ("TwinPanelModel", ⟨"TwinPanelModel", "run", "(I)I"⟩, prog_10_method_49_code, 4, Option.some Jvm.ClassFile.FieldType.int, 6, 161)
def mM_lengthOf : Mt := ("TwinPanelModel", ⟨"TwinPanelModel", "lengthOf", "(I)D"⟩, prog_10_method_45_code, 5, Option.some Jvm.ClassFile.FieldType.double, 0, 0)
def mM_step : Mt := ("TwinPanelModel", ⟨"TwinPanelModel", "step", "()V"⟩, prog_10_method_41_code, 7, Option.none, 5, 135)
def mM_rateAll : Mt := ("TwinPanelModel", ⟨"TwinPanelModel", "rateAll", "()V"⟩, prog_10_method_38_code, 2, Option.none, 2, 49)
def mM_keepRates : Mt := ("TwinPanelModel", ⟨"TwinPanelModel", "keepRates", "(I)V"⟩, prog_10_method_40_code, 3, Option.none, 0, 0)
def mM_stage : Mt := ("TwinPanelModel", ⟨"TwinPanelModel", "stage", "(D)V"⟩, prog_10_method_39_code, 8, Option.none, 2, 44)
def mM_others : Mt := ("TwinPanelModel", ⟨"TwinPanelModel", "others", "()V"⟩, prog_10_method_42_code, 4, Option.none, 0, 0)
def mM_fail : Mt := ("TwinPanelModel", ⟨"TwinPanelModel", "fail", "(II)I"⟩, prog_10_method_50_code, 3, Option.some Jvm.ClassFile.FieldType.int, 2, 43)
def mM_time : Mt := ("TwinPanelModel", ⟨"TwinPanelModel", "time", "()I"⟩, prog_10_method_51_code, 1, Option.some Jvm.ClassFile.FieldType.int, 0, 0)
def mM_reading : Mt := ("TwinPanelModel", ⟨"TwinPanelModel", "reading", "(I)J"⟩, prog_10_method_52_code, 2, Option.some Jvm.ClassFile.FieldType.long, 2, 44)
def mM_single : Mt := ("TwinPanelModel", ⟨"TwinPanelModel", "single", "(I)I"⟩, prog_10_method_53_code, 2, Option.some Jvm.ClassFile.FieldType.int, 2, 43)
def mJF_floatToIntBits : Mt := ("java/lang/Float", ⟨"java/lang/Float", "floatToIntBits", "(F)I"⟩, prog_12_method_24_code, 1, Option.some Jvm.ClassFile.FieldType.int, 1, 23)
def mJF_isNaN : Mt := ("java/lang/Float", ⟨"java/lang/Float", "isNaN", "(F)Z"⟩, prog_12_method_6_code, 1, Option.some Jvm.ClassFile.FieldType.boolean, 0, 0)
def mM_lamp : Mt := ("TwinPanelModel", ⟨"TwinPanelModel", "lamp", "(I)I"⟩, prog_10_method_54_code, 2, Option.some Jvm.ClassFile.FieldType.int, 2, 43)
def mM_apart : Mt := ("TwinPanelModel", ⟨"TwinPanelModel", "apart", "(I)J"⟩, prog_10_method_55_code, 2, Option.some Jvm.ClassFile.FieldType.long, 2, 44)
def mM_rate : Mt := ("TwinPanelModel", ⟨"TwinPanelModel", "rate", "(I)J"⟩, prog_10_method_56_code, 2, Option.some Jvm.ClassFile.FieldType.long, 2, 44)
def mM_strip : Mt := ("TwinPanelModel", ⟨"TwinPanelModel", "strip", "(I)I"⟩, prog_10_method_57_code, 2, Option.some Jvm.ClassFile.FieldType.int, 2, 43)
def mM_samples : Mt := ("TwinPanelModel", ⟨"TwinPanelModel", "samples", "(I)I"⟩, prog_10_method_59_code, 2, Option.some Jvm.ClassFile.FieldType.int, 2, 43)
def mM_isStrip : Mt := ("TwinPanelModel", ⟨"TwinPanelModel", "isStrip", "(I)Z"⟩, prog_10_method_58_code, 2, Option.some Jvm.ClassFile.FieldType.boolean, 1, 22)
def mM_sample : Mt := ("TwinPanelModel", ⟨"TwinPanelModel", "sample", "(II)J"⟩, prog_10_method_60_code, 3, Option.some Jvm.ClassFile.FieldType.long, 2, 44)
def mM_crossing : Mt := ("TwinPanelModel", ⟨"TwinPanelModel", "crossing", "(II)I"⟩, prog_10_method_61_code, 5, Option.some Jvm.ClassFile.FieldType.int, 2, 43)
def mM_peak : Mt := ("TwinPanelModel", ⟨"TwinPanelModel", "peak", "(II)I"⟩, prog_10_method_62_code, 7, Option.some Jvm.ClassFile.FieldType.int, 2, 43)
def mM_sweep : Mt := ("TwinPanelModel", ⟨"TwinPanelModel", "sweep", "(IJJIII)I"⟩, prog_10_method_66_code, 15, Option.some Jvm.ClassFile.FieldType.int, 7, 186)
def mM_keep : Mt := ("TwinPanelModel", ⟨"TwinPanelModel", "keep", "()V"⟩, prog_10_method_63_code, 2, Option.none, 0, 0)
def mM_tried : Mt := ("TwinPanelModel", ⟨"TwinPanelModel", "tried", "(IID)D"⟩, prog_10_method_65_code, 6, Option.some Jvm.ClassFile.FieldType.double, 6, 161)
def mM_back : Mt := ("TwinPanelModel", ⟨"TwinPanelModel", "back", "()V"⟩, prog_10_method_64_code, 2, Option.none, 0, 0)
def mM_swept : Mt := ("TwinPanelModel", ⟨"TwinPanelModel", "swept", "(I)J"⟩, prog_10_method_67_code, 2, Option.some Jvm.ClassFile.FieldType.long, 2, 44)
def mM_halved : Mt := ("TwinPanelModel", ⟨"TwinPanelModel", "halved", "(II)J"⟩, prog_10_method_68_code, 10, Option.some Jvm.ClassFile.FieldType.long, 7, 186)
def mM_about : Mt := ("TwinPanelModel", ⟨"TwinPanelModel", "about", "(II)I"⟩, prog_10_method_69_code, 3, Option.some Jvm.ClassFile.FieldType.int, 2, 43)
def mM_count : Mt := ("TwinPanelModel", ⟨"TwinPanelModel", "count", "(I)I"⟩, prog_10_method_70_code, 4, Option.some Jvm.ClassFile.FieldType.int, 2, 48)
def mM_digest : Mt := ("TwinPanelModel", ⟨"TwinPanelModel", "digest", "()J"⟩, prog_10_method_72_code, 3, Option.some Jvm.ClassFile.FieldType.long, 2, 44)
def mM_mix : Mt := ("TwinPanelModel", ⟨"TwinPanelModel", "mix", "(J)V"⟩, prog_10_method_71_code, 3, Option.none, 0, 0)
