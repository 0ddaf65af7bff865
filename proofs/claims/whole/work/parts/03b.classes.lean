/-! The classes: names, fields in the order of the slots, their types (out of the printed names). -/
def RX0 : String := "WheelStore$Acts"
def TX0 : u_T := fun k => match k with
  | 0 => ("WheelStore$Acts", "cells", "LWheelStore$Cells;", true)
  | 1 => ("WheelStore$Acts", "start", "[I", true)
  | 2 => ("WheelStore$Acts", "length", "[I", true)
  | 3 => ("WheelStore$Acts", "otherSide", "[I", true)
  | 4 => ("WheelStore$Acts", "first", "I", false)
  | 5 => ("WheelStore$Acts", "kept", "I", false)
  | _ => ("WheelStore$Acts", "takenBack", "I", false)
def tyX0 : Nat → FieldType := fun k => match k with
  | 0 => .object "WheelStore$Cells"
  | 1 => .array .int
  | 2 => .array .int
  | 3 => .array .int
  | 4 => .int
  | 5 => .int
  | _ => .int
abbrev wsX00 : List Cond := u_ws RX0 TX0 7
theorem nmX0 : ∀ a, a < 7 → ∀ b, b < 7 → a ≠ b → (TX0 a).2.1 ≠ (TX0 b).2.1 := by decide +kernel
theorem tyX0_ok : ∀ k, k < 7 → parseFieldDescriptor (TX0 k).2.2.1 = some (tyX0 k) := by decide +kernel
def RX1 : String := "WheelStore$Balance"
def TX1 : u_T := fun k => match k with
  | 0 => ("WheelStore$Balance", "cells", "LWheelStore$Cells;", true)
  | 1 => ("WheelStore$Balance", "trial", "[I", true)
  | 2 => ("WheelStore$Balance", "still", "[I", true)
  | 3 => ("WheelStore$Balance", "version", "I", false)
  | 4 => ("WheelStore$Balance", "count", "I", false)
  | 5 => ("WheelStore$Balance", "x", "I", false)
  | 6 => ("WheelStore$Balance", "y", "I", false)
  | 7 => ("WheelStore$Balance", "weights", "I", false)
  | 8 => ("WheelStore$Balance", "least", "I", false)
  | _ => ("WheelStore$Balance", "fewestWeights", "I", false)
def tyX1 : Nat → FieldType := fun k => match k with
  | 0 => .object "WheelStore$Cells"
  | 1 => .array .int
  | 2 => .array .int
  | 3 => .int
  | 4 => .int
  | 5 => .int
  | 6 => .int
  | 7 => .int
  | 8 => .int
  | _ => .int
abbrev wsX10 : List Cond := u_ws RX1 TX1 10
theorem nmX1 : ∀ a, a < 10 → ∀ b, b < 10 → a ≠ b → (TX1 a).2.1 ≠ (TX1 b).2.1 := by decide +kernel
theorem tyX1_ok : ∀ k, k < 10 → parseFieldDescriptor (TX1 k).2.2.1 = some (tyX1 k) := by decide +kernel
def RX2 : String := "WheelStore$Cells"
def TX2 : u_T := fun k => match k with
  | 0 => ("WheelStore$Cells", "row", "[I", true)
  | _ => ("WheelStore$Cells", "version", "I", false)
def tyX2 : Nat → FieldType := fun k => match k with
  | 0 => .array .int
  | _ => .int
abbrev wsX20 : List Cond := u_ws RX2 TX2 2
theorem nmX2 : ∀ a, a < 2 → ∀ b, b < 2 → a ≠ b → (TX2 a).2.1 ≠ (TX2 b).2.1 := by decide +kernel
theorem tyX2_ok : ∀ k, k < 2 → parseFieldDescriptor (TX2 k).2.2.1 = some (tyX2 k) := by decide +kernel
def RX3 : String := "WheelStore$Diagnosis"
def TX3 : u_T := fun k => match k with
  | _ => ("WheelStore$Diagnosis", "cells", "LWheelStore$Cells;", true)
def tyX3 : Nat → FieldType := fun k => match k with
  | _ => .object "WheelStore$Cells"
abbrev wsX30 : List Cond := u_ws RX3 TX3 1
theorem nmX3 : ∀ a, a < 1 → ∀ b, b < 1 → a ≠ b → (TX3 a).2.1 ≠ (TX3 b).2.1 := by decide +kernel
theorem tyX3_ok : ∀ k, k < 1 → parseFieldDescriptor (TX3 k).2.2.1 = some (tyX3 k) := by decide +kernel
def RX4 : String := "WheelStore$Game"
def TX4 : u_T := fun k => match k with
  | 0 => ("WheelStore$Game", "cells", "LWheelStore$Cells;", true)
  | 1 => ("WheelStore$Game", "room", "[I", true)
  | 2 => ("WheelStore$Game", "rate", "[I", true)
  | 3 => ("WheelStore$Game", "charge", "[I", true)
  | 4 => ("WheelStore$Game", "memo", "[B", false)
  | 5 => ("WheelStore$Game", "memoWheels", "I", false)
  | 6 => ("WheelStore$Game", "giveFound", "I", false)
  | 7 => ("WheelStore$Game", "ticksLeft", "I", false)
  | 8 => ("WheelStore$Game", "callsLeft", "I", false)
  | _ => ("WheelStore$Game", "shortSoFar", "I", false)
def tyX4 : Nat → FieldType := fun k => match k with
  | 0 => .object "WheelStore$Cells"
  | 1 => .array .int
  | 2 => .array .int
  | 3 => .array .int
  | 4 => .array .byte
  | 5 => .int
  | 6 => .int
  | 7 => .int
  | 8 => .int
  | _ => .int
abbrev wsX40 : List Cond := u_ws RX4 TX4 10
theorem nmX4 : ∀ a, a < 10 → ∀ b, b < 10 → a ≠ b → (TX4 a).2.1 ≠ (TX4 b).2.1 := by decide +kernel
theorem tyX4_ok : ∀ k, k < 10 → parseFieldDescriptor (TX4 k).2.2.1 = some (tyX4 k) := by decide +kernel
def RX5 : String := "WheelStore$Inspection"
def TX5 : u_T := fun k => match k with
  | 0 => ("WheelStore$Inspection", "cells", "LWheelStore$Cells;", true)
  | 1 => ("WheelStore$Inspection", "chances", "[[J", true)
  | 2 => ("WheelStore$Inspection", "costs", "[J", true)
  | 3 => ("WheelStore$Inspection", "version", "I", false)
  | 4 => ("WheelStore$Inspection", "roundsFound", "I", false)
  | 5 => ("WheelStore$Inspection", "looksFound", "I", false)
  | _ => ("WheelStore$Inspection", "costFound", "J", false)
def tyX5 : Nat → FieldType := fun k => match k with
  | 0 => .object "WheelStore$Cells"
  | 1 => .array (.array .long)
  | 2 => .array .long
  | 3 => .int
  | 4 => .int
  | 5 => .int
  | _ => .long
abbrev wsX50 : List Cond := u_ws RX5 TX5 7
theorem nmX5 : ∀ a, a < 7 → ∀ b, b < 7 → a ≠ b → (TX5 a).2.1 ≠ (TX5 b).2.1 := by decide +kernel
theorem tyX5_ok : ∀ k, k < 7 → parseFieldDescriptor (TX5 k).2.2.1 = some (tyX5 k) := by decide +kernel
def RX6 : String := "WheelStore$Market"
def TX6 : u_T := fun k => match k with
  | 0 => ("WheelStore$Market", "cells", "LWheelStore$Cells;", true)
  | 1 => ("WheelStore$Market", "values", "[[I", true)
  | 2 => ("WheelStore$Market", "left", "[I", true)
  | 3 => ("WheelStore$Market", "version", "I", false)
  | 4 => ("WheelStore$Market", "tradeFound", "I", false)
  | 5 => ("WheelStore$Market", "failingSlot", "I", false)
  | 6 => ("WheelStore$Market", "failingReason", "I", false)
  | _ => ("WheelStore$Market", "income", "I", false)
def tyX6 : Nat → FieldType := fun k => match k with
  | 0 => .object "WheelStore$Cells"
  | 1 => .array (.array .int)
  | 2 => .array .int
  | 3 => .int
  | 4 => .int
  | 5 => .int
  | 6 => .int
  | _ => .int
abbrev wsX60 : List Cond := u_ws RX6 TX6 8
theorem nmX6 : ∀ a, a < 8 → ∀ b, b < 8 → a ≠ b → (TX6 a).2.1 ≠ (TX6 b).2.1 := by decide +kernel
theorem tyX6_ok : ∀ k, k < 8 → parseFieldDescriptor (TX6 k).2.2.1 = some (tyX6 k) := by decide +kernel
def RX7 : String := "WheelStore$Rings"
def TX7 : u_T := fun k => match k with
  | 0 => ("WheelStore$Rings", "cells", "LWheelStore$Cells;", true)
  | 1 => ("WheelStore$Rings", "heavy", "[I", true)
  | 2 => ("WheelStore$Rings", "stiff", "[I", true)
  | 3 => ("WheelStore$Rings", "holds", "[I", true)
  | 4 => ("WheelStore$Rings", "fits", "[I", true)
  | 5 => ("WheelStore$Rings", "touches", "[Z", true)
  | 6 => ("WheelStore$Rings", "upper", "[I", true)
  | 7 => ("WheelStore$Rings", "lower", "[I", true)
  | 8 => ("WheelStore$Rings", "pressed", "[I", true)
  | 9 => ("WheelStore$Rings", "gaps", "[I", true)
  | 10 => ("WheelStore$Rings", "opening", "[I", true)
  | 11 => ("WheelStore$Rings", "three", "[I", true)
  | 12 => ("WheelStore$Rings", "count", "I", false)
  | 13 => ("WheelStore$Rings", "chosenSpeed", "I", false)
  | 14 => ("WheelStore$Rings", "chosenWay", "I", false)
  | 15 => ("WheelStore$Rings", "openingVersion", "I", false)
  | _ => ("WheelStore$Rings", "chosenVersion", "I", false)
def tyX7 : Nat → FieldType := fun k => match k with
  | 0 => .object "WheelStore$Cells"
  | 1 => .array .int
  | 2 => .array .int
  | 3 => .array .int
  | 4 => .array .int
  | 5 => .array .boolean
  | 6 => .array .int
  | 7 => .array .int
  | 8 => .array .int
  | 9 => .array .int
  | 10 => .array .int
  | 11 => .array .int
  | 12 => .int
  | 13 => .int
  | 14 => .int
  | 15 => .int
  | _ => .int
abbrev wsX70 : List Cond := u_ws RX7 TX7 17
theorem nmX7 : ∀ a, a < 17 → ∀ b, b < 17 → a ≠ b → (TX7 a).2.1 ≠ (TX7 b).2.1 := by decide +kernel
theorem tyX7_ok : ∀ k, k < 17 → parseFieldDescriptor (TX7 k).2.2.1 = some (tyX7 k) := by decide +kernel
def RX8 : String := "WheelStore$StackReader"
def TX8 : u_T := fun k => match k with
  | 0 => ("WheelStore$StackReader", "tape", "LWheelStore$Tape;", true)
  | 1 => ("WheelStore$StackReader", "draft", "[I", true)
  | 2 => ("WheelStore$StackReader", "rings", "I", false)
  | 3 => ("WheelStore$StackReader", "reason", "I", false)
  | 4 => ("WheelStore$StackReader", "place", "I", false)
  | 5 => ("WheelStore$StackReader", "kind", "I", false)
  | 6 => ("WheelStore$StackReader", "from", "I", false)
  | 7 => ("WheelStore$StackReader", "behind", "I", false)
  | _ => ("WheelStore$StackReader", "number", "I", false)
def tyX8 : Nat → FieldType := fun k => match k with
  | 0 => .object "WheelStore$Tape"
  | 1 => .array .int
  | 2 => .int
  | 3 => .int
  | 4 => .int
  | 5 => .int
  | 6 => .int
  | 7 => .int
  | _ => .int
abbrev wsX80 : List Cond := u_ws RX8 TX8 9
theorem nmX8 : ∀ a, a < 9 → ∀ b, b < 9 → a ≠ b → (TX8 a).2.1 ≠ (TX8 b).2.1 := by decide +kernel
theorem tyX8_ok : ∀ k, k < 9 → parseFieldDescriptor (TX8 k).2.2.1 = some (tyX8 k) := by decide +kernel
def RX9 : String := "WheelStore$Tape"
def TX9 : u_T := fun k => match k with
  | 0 => ("WheelStore$Tape", "bytes", "[I", true)
  | _ => ("WheelStore$Tape", "size", "I", false)
def tyX9 : Nat → FieldType := fun k => match k with
  | 0 => .array .int
  | _ => .int
abbrev wsX90 : List Cond := u_ws RX9 TX9 2
theorem nmX9 : ∀ a, a < 2 → ∀ b, b < 2 → a ≠ b → (TX9 a).2.1 ≠ (TX9 b).2.1 := by decide +kernel
theorem tyX9_ok : ∀ k, k < 2 → parseFieldDescriptor (TX9 k).2.2.1 = some (tyX9 k) := by decide +kernel
def RX10 : String := "WheelStore"
def TX10 : u_T := fun k => match k with
  | 0 => ("WheelStore", "cells", "LWheelStore$Cells;", true)
  | 1 => ("WheelStore", "acts", "LWheelStore$Acts;", true)
  | 2 => ("WheelStore", "tape", "LWheelStore$Tape;", true)
  | 3 => ("WheelStore", "reader", "LWheelStore$StackReader;", true)
  | 4 => ("WheelStore", "rings", "LWheelStore$Rings;", true)
  | 5 => ("WheelStore", "game", "LWheelStore$Game;", true)
  | 6 => ("WheelStore", "market", "LWheelStore$Market;", true)
  | 7 => ("WheelStore", "balance", "LWheelStore$Balance;", true)
  | 8 => ("WheelStore", "inspection", "LWheelStore$Inspection;", true)
  | _ => ("WheelStore", "diagnosis", "LWheelStore$Diagnosis;", true)
def tyX10 : Nat → FieldType := fun k => match k with
  | 0 => .object "WheelStore$Cells"
  | 1 => .object "WheelStore$Acts"
  | 2 => .object "WheelStore$Tape"
  | 3 => .object "WheelStore$StackReader"
  | 4 => .object "WheelStore$Rings"
  | 5 => .object "WheelStore$Game"
  | 6 => .object "WheelStore$Market"
  | 7 => .object "WheelStore$Balance"
  | 8 => .object "WheelStore$Inspection"
  | _ => .object "WheelStore$Diagnosis"
abbrev wsX100 : List Cond := u_ws RX10 TX10 10
theorem nmX10 : ∀ a, a < 10 → ∀ b, b < 10 → a ≠ b → (TX10 a).2.1 ≠ (TX10 b).2.1 := by decide +kernel
theorem tyX10_ok : ∀ k, k < 10 → parseFieldDescriptor (TX10 k).2.2.1 = some (tyX10 k) := by decide +kernel
def RX11 : String := "WheelStoreModel"
def TX11 : u_T := fun k => match k with
  | 0 => ("WheelStoreModel", "tape", "[B", true)
  | 1 => ("WheelStoreModel", "text", "[B", true)
  | 2 => ("WheelStoreModel", "taped", "I", false)
  | 3 => ("WheelStoreModel", "size", "I", false)
  | 4 => ("WheelStoreModel", "faultKind", "I", false)
  | 5 => ("WheelStoreModel", "faultPlace", "I", false)
  | 6 => ("WheelStoreModel", "at", "I", false)
  | 7 => ("WheelStoreModel", "end", "I", false)
  | 8 => ("WheelStoreModel", "token", "I", false)
  | 9 => ("WheelStoreModel", "number", "I", false)
  | 10 => ("WheelStoreModel", "name", "J", false)
  | 11 => ("WheelStoreModel", "now", "[I", true)
  | 12 => ("WheelStoreModel", "base", "[I", true)
  | 13 => ("WheelStoreModel", "acts", "[I", true)
  | 14 => ("WheelStoreModel", "act", "[I", true)
  | 15 => ("WheelStoreModel", "kept", "I", false)
  | 16 => ("WheelStoreModel", "tellable", "I", false)
  | 17 => ("WheelStoreModel", "m", "[J", true)
  | 18 => ("WheelStoreModel", "press", "[J", true)
  | 19 => ("WheelStoreModel", "gaps", "[J", true)
  | 20 => ("WheelStoreModel", "own", "[J", true)
  | 21 => ("WheelStoreModel", "fits", "[I", true)
  | 22 => ("WheelStoreModel", "part", "J", false)
  | 23 => ("WheelStoreModel", "bestOf", "[I", true)
  | 24 => ("WheelStoreModel", "worst", "[I", true)
  | 25 => ("WheelStoreModel", "seenWheels", "[I", true)
  | 26 => ("WheelStoreModel", "given", "[I", true)
  | 27 => ("WheelStoreModel", "spins", "[I", true)
  | 28 => ("WheelStoreModel", "filled", "I", false)
  | 29 => ("WheelStoreModel", "bestGive", "I", false)
  | 30 => ("WheelStoreModel", "bestCall", "I", false)
  | 31 => ("WheelStoreModel", "pTicks", "I", false)
  | 32 => ("WheelStoreModel", "pCalls", "I", false)
  | 33 => ("WheelStoreModel", "pCharges", "I", false)
  | 34 => ("WheelStoreModel", "pShort", "I", false)
  | 35 => ("WheelStoreModel", "values", "[I", true)
  | 36 => ("WheelStoreModel", "bestTrade", "I", false)
  | 37 => ("WheelStoreModel", "tried", "[I", true)
  | 38 => ("WheelStoreModel", "still", "[I", true)
  | 39 => ("WheelStoreModel", "least", "I", false)
  | 40 => ("WheelStoreModel", "waysTo", "[J", true)
  | _ => ("WheelStoreModel", "waysNext", "[J", true)
def tyX11 : Nat → FieldType := fun k => match k with
  | 0 => .array .byte
  | 1 => .array .byte
  | 2 => .int
  | 3 => .int
  | 4 => .int
  | 5 => .int
  | 6 => .int
  | 7 => .int
  | 8 => .int
  | 9 => .int
  | 10 => .long
  | 11 => .array .int
  | 12 => .array .int
  | 13 => .array .int
  | 14 => .array .int
  | 15 => .int
  | 16 => .int
  | 17 => .array .long
  | 18 => .array .long
  | 19 => .array .long
  | 20 => .array .long
  | 21 => .array .int
  | 22 => .long
  | 23 => .array .int
  | 24 => .array .int
  | 25 => .array .int
  | 26 => .array .int
  | 27 => .array .int
  | 28 => .int
  | 29 => .int
  | 30 => .int
  | 31 => .int
  | 32 => .int
  | 33 => .int
  | 34 => .int
  | 35 => .array .int
  | 36 => .int
  | 37 => .array .int
  | 38 => .array .int
  | 39 => .int
  | 40 => .array .long
  | _ => .array .long
abbrev wsX110 : List Cond := u_ws RX11 TX11 42
theorem nmX11 : ∀ a, a < 42 → ∀ b, b < 42 → a ≠ b → (TX11 a).2.1 ≠ (TX11 b).2.1 := by decide +kernel
theorem tyX11_ok : ∀ k, k < 42 → parseFieldDescriptor (TX11 k).2.2.1 = some (tyX11 k) := by decide +kernel
abbrev vwCl : List vw_C := [(RX0, TX0, 7), (RX1, TX1, 10), (RX2, TX2, 2), (RX3, TX3, 1), (RX4, TX4, 10), (RX5, TX5, 7), (RX6, TX6, 8), (RX7, TX7, 17), (RX8, TX8, 9), (RX9, TX9, 2), (RX10, TX10, 10), (RX11, TX11, 42)]
def zTys : List (Nat → FieldType) := [tyX0, tyX1, tyX2, tyX3, tyX4, tyX5, tyX6, tyX7, tyX8, tyX9, tyX10, tyX11]
def zty (c j : Nat) : FieldType := (zTys.getD c tyX0) j
theorem zcl_ok : ∀ (c : Nat) (r : vw_C), vwCl[c]? = some r → (∀ w ∈ u_ws r.1 r.2.1 r.2.2, w ∈ lw_tbl ∧ goodWord w = true) ∧ (∀ k, k < r.2.2 → parseFieldDescriptor (r.2.1 k).2.2.1 = some (zty c k)) ∧ (∀ a, a < r.2.2 → ∀ b, b < r.2.2 → a ≠ b → (r.2.1 a).2.1 ≠ (r.2.1 b).2.1) := by
  intro c r h
  match c, h with
  | 0, h => cases h; exact ⟨(by decide +kernel : ∀ w ∈ u_ws RX0 TX0 7, w ∈ lw_tbl ∧ goodWord w = true), tyX0_ok, nmX0⟩
  | 1, h => cases h; exact ⟨(by decide +kernel : ∀ w ∈ u_ws RX1 TX1 10, w ∈ lw_tbl ∧ goodWord w = true), tyX1_ok, nmX1⟩
  | 2, h => cases h; exact ⟨(by decide +kernel : ∀ w ∈ u_ws RX2 TX2 2, w ∈ lw_tbl ∧ goodWord w = true), tyX2_ok, nmX2⟩
  | 3, h => cases h; exact ⟨(by decide +kernel : ∀ w ∈ u_ws RX3 TX3 1, w ∈ lw_tbl ∧ goodWord w = true), tyX3_ok, nmX3⟩
  | 4, h => cases h; exact ⟨(by decide +kernel : ∀ w ∈ u_ws RX4 TX4 10, w ∈ lw_tbl ∧ goodWord w = true), tyX4_ok, nmX4⟩
  | 5, h => cases h; exact ⟨(by decide +kernel : ∀ w ∈ u_ws RX5 TX5 7, w ∈ lw_tbl ∧ goodWord w = true), tyX5_ok, nmX5⟩
  | 6, h => cases h; exact ⟨(by decide +kernel : ∀ w ∈ u_ws RX6 TX6 8, w ∈ lw_tbl ∧ goodWord w = true), tyX6_ok, nmX6⟩
  | 7, h => cases h; exact ⟨(by decide +kernel : ∀ w ∈ u_ws RX7 TX7 17, w ∈ lw_tbl ∧ goodWord w = true), tyX7_ok, nmX7⟩
  | 8, h => cases h; exact ⟨(by decide +kernel : ∀ w ∈ u_ws RX8 TX8 9, w ∈ lw_tbl ∧ goodWord w = true), tyX8_ok, nmX8⟩
  | 9, h => cases h; exact ⟨(by decide +kernel : ∀ w ∈ u_ws RX9 TX9 2, w ∈ lw_tbl ∧ goodWord w = true), tyX9_ok, nmX9⟩
  | 10, h => cases h; exact ⟨(by decide +kernel : ∀ w ∈ u_ws RX10 TX10 10, w ∈ lw_tbl ∧ goodWord w = true), tyX10_ok, nmX10⟩
  | 11, h => cases h; exact ⟨(by decide +kernel : ∀ w ∈ u_ws RX11 TX11 42, w ∈ lw_tbl ∧ goodWord w = true), tyX11_ok, nmX11⟩
  | n + 12, h => cases h
