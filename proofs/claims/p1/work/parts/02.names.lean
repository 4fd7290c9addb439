/-! the classes: fields in the order of their slots -/
def T_H : u_T := fun k => match k with
  | 0 => ("AutoTeller$Host", "line", "LAutoTeller$Line;", true)
  | 1 => ("AutoTeller$Host", "balances", "[J", true)
  | 2 => ("AutoTeller$Host", "accountOfCard", "[I", true)
  | 3 => ("AutoTeller$Host", "pinOfCard", "[I", true)
  | 4 => ("AutoTeller$Host", "triesOfCard", "[I", true)
  | 5 => ("AutoTeller$Host", "pinCodes", "[I", true)
  | 6 => ("AutoTeller$Host", "debits", "[I", true)
  | 7 => ("AutoTeller$Host", "debitAmounts", "[I", true)
  | 8 => ("AutoTeller$Host", "debitAccounts", "[I", true)
  | 9 => ("AutoTeller$Host", "takenOff", "J", false)
  | _ => ("AutoTeller$Host", "dropped", "I", false)
def ty_H : Nat → FieldType := fun k => match k with
  | 0 => .object "AutoTeller$Line"
  | 1 => .array .long
  | 2 => .array .int
  | 3 => .array .int
  | 4 => .array .int
  | 5 => .array .int
  | 6 => .array .int
  | 7 => .array .int
  | 8 => .array .int
  | 9 => .long
  | _ => .int
theorem nm_H : ∀ a, a < 11 → ∀ b, b < 11 → a ≠ b → (T_H a).2.1 ≠ (T_H b).2.1 := by decide +kernel
theorem tk_H : ∀ k, k < 11 → parseFieldDescriptor (T_H k).2.2.1 = some (ty_H k) := by decide +kernel
def T_J : u_T := fun k => match k with
  | 0 => ("AutoTeller$Journal", "kinds", "[I", true)
  | 1 => ("AutoTeller$Journal", "traces", "[I", true)
  | 2 => ("AutoTeller$Journal", "amounts", "[I", true)
  | 3 => ("AutoTeller$Journal", "cards", "[I", true)
  | _ => ("AutoTeller$Journal", "size", "I", false)
def ty_J : Nat → FieldType := fun k => match k with
  | 0 => .array .int
  | 1 => .array .int
  | 2 => .array .int
  | 3 => .array .int
  | _ => .int
theorem nm_J : ∀ a, a < 5 → ∀ b, b < 5 → a ≠ b → (T_J a).2.1 ≠ (T_J b).2.1 := by decide +kernel
theorem tk_J : ∀ k, k < 5 → parseFieldDescriptor (T_J k).2.2.1 = some (ty_J k) := by decide +kernel
def T_E : u_T := fun k => match k with
  | 0 => ("AutoTeller$Letter", "bytes", "[I", true)
  | _ => ("AutoTeller$Letter", "forHost", "Z", false)
def ty_E : Nat → FieldType := fun k => match k with
  | 0 => .array .int
  | _ => .boolean
theorem nm_E : ∀ a, a < 2 → ∀ b, b < 2 → a ≠ b → (T_E a).2.1 ≠ (T_E b).2.1 := by decide +kernel
theorem tk_E : ∀ k, k < 2 → parseFieldDescriptor (T_E k).2.2.1 = some (ty_E k) := by decide +kernel
def T_N : u_T := fun k => match k with
  | 0 => ("AutoTeller$Line", "letters", "[LAutoTeller$Letter;", true)
  | 1 => ("AutoTeller$Line", "inFlight", "I", false)
  | _ => ("AutoTeller$Line", "lostForRoom", "I", false)
def ty_N : Nat → FieldType := fun k => match k with
  | 0 => .array (.object "AutoTeller$Letter")
  | 1 => .int
  | _ => .int
theorem nm_N : ∀ a, a < 3 → ∀ b, b < 3 → a ≠ b → (T_N a).2.1 ≠ (T_N b).2.1 := by decide +kernel
theorem tk_N : ∀ k, k < 3 → parseFieldDescriptor (T_N k).2.2.1 = some (ty_N k) := by decide +kernel
def T_M : u_T := fun k => match k with
  | 0 => ("AutoTeller$Machine", "line", "LAutoTeller$Line;", true)
  | 1 => ("AutoTeller$Machine", "notes", "LAutoTeller$Notes;", true)
  | 2 => ("AutoTeller$Machine", "journal", "LAutoTeller$Journal;", true)
  | 3 => ("AutoTeller$Machine", "kept", "[Z", true)
  | 4 => ("AutoTeller$Machine", "on", "Z", false)
  | 5 => ("AutoTeller$Machine", "stepsLeft", "I", false)
  | 6 => ("AutoTeller$Machine", "phase", "I", false)
  | 7 => ("AutoTeller$Machine", "slot", "I", false)
  | 8 => ("AutoTeller$Machine", "nextTrace", "I", false)
  | 9 => ("AutoTeller$Machine", "openings", "I", false)
  | 10 => ("AutoTeller$Machine", "openingsWhenBegun", "I", false)
  | 11 => ("AutoTeller$Machine", "dropped", "I", false)
  | 12 => ("AutoTeller$Machine", "traceAtHand", "I", false)
  | 13 => ("AutoTeller$Machine", "cardAtHand", "I", false)
  | _ => ("AutoTeller$Machine", "amountAtHand", "I", false)
def ty_M : Nat → FieldType := fun k => match k with
  | 0 => .object "AutoTeller$Line"
  | 1 => .object "AutoTeller$Notes"
  | 2 => .object "AutoTeller$Journal"
  | 3 => .array .boolean
  | 4 => .boolean
  | 5 => .int
  | 6 => .int
  | 7 => .int
  | 8 => .int
  | 9 => .int
  | 10 => .int
  | 11 => .int
  | 12 => .int
  | 13 => .int
  | _ => .int
theorem nm_M : ∀ a, a < 15 → ∀ b, b < 15 → a ≠ b → (T_M a).2.1 ≠ (T_M b).2.1 := by decide +kernel
theorem tk_M : ∀ k, k < 15 → parseFieldDescriptor (T_M k).2.2.1 = some (ty_M k) := by decide +kernel
def T_O : u_T := fun k => match k with
  | 0 => ("AutoTeller$Notes", "denominations", "[I", true)
  | 1 => ("AutoTeller$Notes", "inCassette", "[I", true)
  | 2 => ("AutoTeller$Notes", "inStacker", "[I", true)
  | 3 => ("AutoTeller$Notes", "inTray", "[I", true)
  | 4 => ("AutoTeller$Notes", "inBin", "[I", true)
  | 5 => ("AutoTeller$Notes", "stackerWorth", "I", false)
  | 6 => ("AutoTeller$Notes", "trayWorth", "I", false)
  | 7 => ("AutoTeller$Notes", "everInTray", "J", false)
  | 8 => ("AutoTeller$Notes", "mixed", "[I", true)
  | 9 => ("AutoTeller$Notes", "fewest", "I", false)
  | _ => ("AutoTeller$Notes", "largest", "I", false)
def ty_O : Nat → FieldType := fun k => match k with
  | 0 => .array .int
  | 1 => .array .int
  | 2 => .array .int
  | 3 => .array .int
  | 4 => .array .int
  | 5 => .int
  | 6 => .int
  | 7 => .long
  | 8 => .array .int
  | 9 => .int
  | _ => .int
theorem nm_O : ∀ a, a < 11 → ∀ b, b < 11 → a ≠ b → (T_O a).2.1 ≠ (T_O b).2.1 := by decide +kernel
theorem tk_O : ∀ k, k < 11 → parseFieldDescriptor (T_O k).2.2.1 = some (ty_O k) := by decide +kernel
def T_A : u_T := fun k => match k with
  | 0 => ("AutoTeller", "line", "LAutoTeller$Line;", true)
  | 1 => ("AutoTeller", "host", "LAutoTeller$Host;", true)
  | 2 => ("AutoTeller", "machine", "LAutoTeller$Machine;", true)
  | _ => ("AutoTeller", "arriving", "LAutoTeller$Letter;", true)
def ty_A : Nat → FieldType := fun k => match k with
  | 0 => .object "AutoTeller$Line"
  | 1 => .object "AutoTeller$Host"
  | 2 => .object "AutoTeller$Machine"
  | _ => .object "AutoTeller$Letter"
theorem nm_A : ∀ a, a < 4 → ∀ b, b < 4 → a ≠ b → (T_A a).2.1 ≠ (T_A b).2.1 := by decide +kernel
theorem tk_A : ∀ k, k < 4 → parseFieldDescriptor (T_A k).2.2.1 = some (ty_A k) := by decide +kernel
def T_R : u_T := fun k => match k with
  | 0 => ("AutoTellerModel", "balances", "[J", true)
  | 1 => ("AutoTellerModel", "accountOf", "[I", true)
  | 2 => ("AutoTellerModel", "pinOf", "[I", true)
  | 3 => ("AutoTellerModel", "tries", "[I", true)
  | 4 => ("AutoTellerModel", "pinCode", "[I", true)
  | 5 => ("AutoTellerModel", "debitCode", "[I", true)
  | 6 => ("AutoTellerModel", "debitAccount", "[I", true)
  | 7 => ("AutoTellerModel", "debitAmount", "[I", true)
  | 8 => ("AutoTellerModel", "isReversed", "[Z", true)
  | 9 => ("AutoTellerModel", "off", "J", false)
  | 10 => ("AutoTellerModel", "denomination", "[I", true)
  | 11 => ("AutoTellerModel", "notes", "[I", true)
  | 12 => ("AutoTellerModel", "stacked", "[I", true)
  | 13 => ("AutoTellerModel", "inTray", "[I", true)
  | 14 => ("AutoTellerModel", "inBin", "[I", true)
  | 15 => ("AutoTellerModel", "stackedWorth", "J", false)
  | 16 => ("AutoTellerModel", "trayWorth", "J", false)
  | 17 => ("AutoTellerModel", "everWorth", "J", false)
  | 18 => ("AutoTellerModel", "isKept", "[Z", true)
  | 19 => ("AutoTellerModel", "records", "[I", true)
  | 20 => ("AutoTellerModel", "recordCount", "I", false)
  | 21 => ("AutoTellerModel", "nextTrace", "I", false)
  | 22 => ("AutoTellerModel", "openings", "I", false)
  | 23 => ("AutoTellerModel", "isOn", "Z", false)
  | 24 => ("AutoTellerModel", "armed", "I", false)
  | 25 => ("AutoTellerModel", "phase", "I", false)
  | 26 => ("AutoTellerModel", "slotCard", "I", false)
  | 27 => ("AutoTellerModel", "trace", "I", false)
  | 28 => ("AutoTellerModel", "cardAtHand", "I", false)
  | 29 => ("AutoTellerModel", "amount", "I", false)
  | 30 => ("AutoTellerModel", "line", "[I", true)
  | 31 => ("AutoTellerModel", "flying", "I", false)
  | 32 => ("AutoTellerModel", "dropped", "I", false)
  | 33 => ("AutoTellerModel", "lost", "I", false)
  | 34 => ("AutoTellerModel", "letter", "[I", true)
  | _ => ("AutoTellerModel", "mixed", "[I", true)
def ty_R : Nat → FieldType := fun k => match k with
  | 0 => .array .long
  | 1 => .array .int
  | 2 => .array .int
  | 3 => .array .int
  | 4 => .array .int
  | 5 => .array .int
  | 6 => .array .int
  | 7 => .array .int
  | 8 => .array .boolean
  | 9 => .long
  | 10 => .array .int
  | 11 => .array .int
  | 12 => .array .int
  | 13 => .array .int
  | 14 => .array .int
  | 15 => .long
  | 16 => .long
  | 17 => .long
  | 18 => .array .boolean
  | 19 => .array .int
  | 20 => .int
  | 21 => .int
  | 22 => .int
  | 23 => .boolean
  | 24 => .int
  | 25 => .int
  | 26 => .int
  | 27 => .int
  | 28 => .int
  | 29 => .int
  | 30 => .array .int
  | 31 => .int
  | 32 => .int
  | 33 => .int
  | 34 => .array .int
  | _ => .array .int
theorem nm_R : ∀ a, a < 36 → ∀ b, b < 36 → a ≠ b → (T_R a).2.1 ≠ (T_R b).2.1 := by decide +kernel
theorem tk_R : ∀ k, k < 36 → parseFieldDescriptor (T_R k).2.2.1 = some (ty_R k) := by decide +kernel
abbrev vwCl : List vw_C := [("AutoTeller$Host", T_H, 11), ("AutoTeller$Journal", T_J, 5), ("AutoTeller$Letter", T_E, 2), ("AutoTeller$Line", T_N, 3), ("AutoTeller$Machine", T_M, 15), ("AutoTeller$Notes", T_O, 11), ("AutoTeller", T_A, 4), ("AutoTellerModel", T_R, 36)]
