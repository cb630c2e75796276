def RX0 : String := "FerryDeck$Acts"
def TX0 : u_T := fun k => match k with
  | 0 => ("FerryDeck$Acts", "what", "[I", true)
  | 1 => ("FerryDeck$Acts", "load", "[I", true)
  | 2 => ("FerryDeck$Acts", "lane", "[I", true)
  | 3 => ("FerryDeck$Acts", "place", "[I", true)
  | 4 => ("FerryDeck$Acts", "size", "I", false)
  | _ => ("FerryDeck$Acts", "top", "I", false)
def tyX0 : Nat → FieldType := fun k => match k with
  | 0 => .array .int
  | 1 => .array .int
  | 2 => .array .int
  | 3 => .array .int
  | 4 => .int
  | _ => .int
theorem nmX0 : ∀ a, a < 6 → ∀ b, b < 6 → a ≠ b → (TX0 a).2.1 ≠ (TX0 b).2.1 := by decide +kernel
theorem tyX0_ok : ∀ k, k < 6 → parseFieldDescriptor (TX0 k).2.2.1 = some (tyX0 k) := by decide +kernel
def RX1 : String := "FerryDeck$Gate"
def TX1 : u_T := fun k => match k with
  | 0 => ("FerryDeck$Gate", "end", "I", false)
  | 1 => ("FerryDeck$Gate", "inTheWay", "I", false)
  | 2 => ("FerryDeck$Gate", "firstLeaver", "I", false)
  | 3 => ("FerryDeck$Gate", "lastLeaver", "I", false)
  | 4 => ("FerryDeck$Gate", "firstChock", "I", false)
  | _ => ("FerryDeck$Gate", "lastChock", "I", false)
def tyX1 : Nat → FieldType := fun k => match k with
  | 0 => .int
  | 1 => .int
  | 2 => .int
  | 3 => .int
  | 4 => .int
  | _ => .int
theorem nmX1 : ∀ a, a < 6 → ∀ b, b < 6 → a ≠ b → (TX1 a).2.1 ≠ (TX1 b).2.1 := by decide +kernel
theorem tyX1_ok : ∀ k, k < 6 → parseFieldDescriptor (TX1 k).2.2.1 = some (tyX1 k) := by decide +kernel
def RX2 : String := "FerryDeck$Lane"
def TX2 : u_T := fun k => match k with
  | 0 => ("FerryDeck$Lane", "cells", "[I", true)
  | 1 => ("FerryDeck$Lane", "length", "I", false)
  | 2 => ("FerryDeck$Lane", "height", "I", false)
  | 3 => ("FerryDeck$Lane", "offset", "I", false)
  | 4 => ("FerryDeck$Lane", "ends", "I", false)
  | 5 => ("FerryDeck$Lane", "loadsIn", "I", false)
  | _ => ("FerryDeck$Lane", "chocksIn", "I", false)
def tyX2 : Nat → FieldType := fun k => match k with
  | 0 => .array .int
  | 1 => .int
  | 2 => .int
  | 3 => .int
  | 4 => .int
  | 5 => .int
  | _ => .int
theorem nmX2 : ∀ a, a < 7 → ∀ b, b < 7 → a ≠ b → (TX2 a).2.1 ≠ (TX2 b).2.1 := by decide +kernel
theorem tyX2_ok : ∀ k, k < 7 → parseFieldDescriptor (TX2 k).2.2.1 = some (tyX2 k) := by decide +kernel
def RX3 : String := "FerryDeck$Loads"
def TX3 : u_T := fun k => match k with
  | 0 => ("FerryDeck$Loads", "kind", "[I", true)
  | 1 => ("FerryDeck$Loads", "tall", "[I", true)
  | 2 => ("FerryDeck$Loads", "units", "[I", true)
  | 3 => ("FerryDeck$Loads", "port", "[I", true)
  | 4 => ("FerryDeck$Loads", "drawer", "[I", true)
  | 5 => ("FerryDeck$Loads", "draws", "[I", true)
  | 6 => ("FerryDeck$Loads", "state", "[I", true)
  | 7 => ("FerryDeck$Loads", "lane", "[I", true)
  | 8 => ("FerryDeck$Loads", "place", "[I", true)
  | _ => ("FerryDeck$Loads", "count", "I", false)
def tyX3 : Nat → FieldType := fun k => match k with
  | 0 => .array .int
  | 1 => .array .int
  | 2 => .array .int
  | 3 => .array .int
  | 4 => .array .int
  | 5 => .array .int
  | 6 => .array .int
  | 7 => .array .int
  | 8 => .array .int
  | _ => .int
theorem nmX3 : ∀ a, a < 10 → ∀ b, b < 10 → a ≠ b → (TX3 a).2.1 ≠ (TX3 b).2.1 := by decide +kernel
theorem tyX3_ok : ∀ k, k < 10 → parseFieldDescriptor (TX3 k).2.2.1 = some (tyX3 k) := by decide +kernel
def RX4 : String := "FerryDeck$Plan"
def TX4 : u_T := fun k => match k with
  | 0 => ("FerryDeck$Plan", "load", "[I", true)
  | 1 => ("FerryDeck$Plan", "lane", "[I", true)
  | 2 => ("FerryDeck$Plan", "place", "[I", true)
  | _ => ("FerryDeck$Plan", "size", "I", false)
def tyX4 : Nat → FieldType := fun k => match k with
  | 0 => .array .int
  | 1 => .array .int
  | 2 => .array .int
  | _ => .int
theorem nmX4 : ∀ a, a < 4 → ∀ b, b < 4 → a ≠ b → (TX4 a).2.1 ≠ (TX4 b).2.1 := by decide +kernel
theorem tyX4_ok : ∀ k, k < 4 → parseFieldDescriptor (TX4 k).2.2.1 = some (tyX4 k) := by decide +kernel
def RX5 : String := "FerryDeck$Planner"
def TX5 : u_T := fun k => match k with
  | 0 => ("FerryDeck$Planner", "ship", "LFerryDeck$Ship;", true)
  | 1 => ("FerryDeck$Planner", "number", "[I", true)
  | 2 => ("FerryDeck$Planner", "byFallingPort", "[I", true)
  | 3 => ("FerryDeck$Planner", "deck", "[I", true)
  | 4 => ("FerryDeck$Planner", "order", "[I", true)
  | 5 => ("FerryDeck$Planner", "start", "[I", true)
  | 6 => ("FerryDeck$Planner", "room", "[I", true)
  | 7 => ("FerryDeck$Planner", "laneOf", "[I", true)
  | 8 => ("FerryDeck$Planner", "placeOf", "[I", true)
  | 9 => ("FerryDeck$Planner", "loadCount", "I", false)
  | 10 => ("FerryDeck$Planner", "laneCount", "I", false)
  | _ => ("FerryDeck$Planner", "bestCost", "I", false)
def tyX5 : Nat → FieldType := fun k => match k with
  | 0 => .object "FerryDeck$Ship"
  | 1 => .array .int
  | 2 => .array .int
  | 3 => .array .int
  | 4 => .array .int
  | 5 => .array .int
  | 6 => .array .int
  | 7 => .array .int
  | 8 => .array .int
  | 9 => .int
  | 10 => .int
  | _ => .int
theorem nmX5 : ∀ a, a < 12 → ∀ b, b < 12 → a ≠ b → (TX5 a).2.1 ≠ (TX5 b).2.1 := by decide +kernel
theorem tyX5_ok : ∀ k, k < 12 → parseFieldDescriptor (TX5 k).2.2.1 = some (tyX5 k) := by decide +kernel
def RX6 : String := "FerryDeck$Reason"
def TX6 : u_T := fun k => match k with
  | 0 => ("FerryDeck$Reason", "which", "J", false)
  | 1 => ("FerryDeck$Reason", "side", "J", false)
  | 2 => ("FerryDeck$Reason", "beyond", "J", false)
  | _ => ("FerryDeck$Reason", "lane", "J", false)
def tyX6 : Nat → FieldType := fun k => match k with
  | 0 => .long
  | 1 => .long
  | 2 => .long
  | _ => .long
theorem nmX6 : ∀ a, a < 4 → ∀ b, b < 4 → a ≠ b → (TX6 a).2.1 ≠ (TX6 b).2.1 := by decide +kernel
theorem tyX6_ok : ∀ k, k < 4 → parseFieldDescriptor (TX6 k).2.2.1 = some (tyX6 k) := by decide +kernel
def RX7 : String := "FerryDeck$Row"
def TX7 : u_T := fun k => match k with
  | 0 => ("FerryDeck$Row", "items", "[I", true)
  | _ => ("FerryDeck$Row", "size", "I", false)
def tyX7 : Nat → FieldType := fun k => match k with
  | 0 => .array .int
  | _ => .int
theorem nmX7 : ∀ a, a < 2 → ∀ b, b < 2 → a ≠ b → (TX7 a).2.1 ≠ (TX7 b).2.1 := by decide +kernel
theorem tyX7_ok : ∀ k, k < 2 → parseFieldDescriptor (TX7 k).2.2.1 = some (tyX7 k) := by decide +kernel
def RX8 : String := "FerryDeck$Ship"
def TX8 : u_T := fun k => match k with
  | 0 => ("FerryDeck$Ship", "lanes", "[LFerryDeck$Lane;", true)
  | 1 => ("FerryDeck$Ship", "loads", "LFerryDeck$Loads;", true)
  | 2 => ("FerryDeck$Ship", "acts", "LFerryDeck$Acts;", true)
  | 3 => ("FerryDeck$Ship", "plan", "LFerryDeck$Plan;", true)
  | 4 => ("FerryDeck$Ship", "ashore", "LFerryDeck$Row;", true)
  | 5 => ("FerryDeck$Ship", "departed", "LFerryDeck$Row;", true)
  | 6 => ("FerryDeck$Ship", "movedInAll", "I", false)
  | 7 => ("FerryDeck$Ship", "ports", "I", false)
  | 8 => ("FerryDeck$Ship", "limit", "J", false)
  | 9 => ("FerryDeck$Ship", "nextPort", "I", false)
  | _ => ("FerryDeck$Ship", "gate", "LFerryDeck$Gate;", true)
def tyX8 : Nat → FieldType := fun k => match k with
  | 0 => .array (.object "FerryDeck$Lane")
  | 1 => .object "FerryDeck$Loads"
  | 2 => .object "FerryDeck$Acts"
  | 3 => .object "FerryDeck$Plan"
  | 4 => .object "FerryDeck$Row"
  | 5 => .object "FerryDeck$Row"
  | 6 => .int
  | 7 => .int
  | 8 => .long
  | 9 => .int
  | _ => .object "FerryDeck$Gate"
theorem nmX8 : ∀ a, a < 11 → ∀ b, b < 11 → a ≠ b → (TX8 a).2.1 ≠ (TX8 b).2.1 := by decide +kernel
theorem tyX8_ok : ∀ k, k < 11 → parseFieldDescriptor (TX8 k).2.2.1 = some (tyX8 k) := by decide +kernel
def RX9 : String := "FerryDeck"
def TX9 : u_T := fun k => match k with
  | 0 => ("FerryDeck", "now", "LFerryDeck$Ship;", true)
  | 1 => ("FerryDeck", "planner", "LFerryDeck$Planner;", true)
  | 2 => ("FerryDeck", "kept", "[LFerryDeck$Ship;", true)
  | 3 => ("FerryDeck", "trial", "LFerryDeck$Ship;", false)
  | 4 => ("FerryDeck", "reason", "LFerryDeck$Reason;", true)
  | 5 => ("FerryDeck", "trialReason", "LFerryDeck$Reason;", true)
  | 6 => ("FerryDeck", "sheetPlaces", "[I", true)
  | 7 => ("FerryDeck", "steps", "[I", true)
  | 8 => ("FerryDeck", "stepCount", "I", false)
  | 9 => ("FerryDeck", "findings", "[I", true)
  | _ => ("FerryDeck", "latestRefusal", "I", false)
def tyX9 : Nat → FieldType := fun k => match k with
  | 0 => .object "FerryDeck$Ship"
  | 1 => .object "FerryDeck$Planner"
  | 2 => .array (.object "FerryDeck$Ship")
  | 3 => .object "FerryDeck$Ship"
  | 4 => .object "FerryDeck$Reason"
  | 5 => .object "FerryDeck$Reason"
  | 6 => .array .int
  | 7 => .array .int
  | 8 => .int
  | 9 => .array .int
  | _ => .int
theorem nmX9 : ∀ a, a < 11 → ∀ b, b < 11 → a ≠ b → (TX9 a).2.1 ≠ (TX9 b).2.1 := by decide +kernel
theorem tyX9_ok : ∀ k, k < 11 → parseFieldDescriptor (TX9 k).2.2.1 = some (tyX9 k) := by decide +kernel
def RX10 : String := "FerryDeckModel"
def TX10 : u_T := fun k => match k with
  | 0 => ("FerryDeckModel", "now", "[I", true)
  | 1 => ("FerryDeckModel", "first", "[I", true)
  | 2 => ("FerryDeckModel", "second", "[I", true)
  | 3 => ("FerryDeckModel", "tried", "[I", true)
  | 4 => ("FerryDeckModel", "has", "[Z", true)
  | 5 => ("FerryDeckModel", "limits", "[J", true)
  | 6 => ("FerryDeckModel", "steps", "[I", true)
  | 7 => ("FerryDeckModel", "stepMany", "I", false)
  | 8 => ("FerryDeckModel", "paper", "[I", true)
  | 9 => ("FerryDeckModel", "finds", "[I", true)
  | 10 => ("FerryDeckModel", "refusal", "I", false)
  | 11 => ("FerryDeckModel", "why0", "I", false)
  | 12 => ("FerryDeckModel", "why1", "I", false)
  | 13 => ("FerryDeckModel", "why2", "J", false)
  | 14 => ("FerryDeckModel", "why3", "I", false)
  | 15 => ("FerryDeckModel", "those", "[I", true)
  | 16 => ("FerryDeckModel", "thoseMany", "I", false)
  | 17 => ("FerryDeckModel", "deck", "[I", true)
  | 18 => ("FerryDeckModel", "deckMany", "I", false)
  | 19 => ("FerryDeckModel", "chosen", "[I", true)
  | 20 => ("FerryDeckModel", "used", "[Z", true)
  | 21 => ("FerryDeckModel", "bestLane", "[I", true)
  | 22 => ("FerryDeckModel", "bestPlace", "[I", true)
  | _ => ("FerryDeckModel", "bestCost", "I", false)
def tyX10 : Nat → FieldType := fun k => match k with
  | 0 => .array .int
  | 1 => .array .int
  | 2 => .array .int
  | 3 => .array .int
  | 4 => .array .boolean
  | 5 => .array .long
  | 6 => .array .int
  | 7 => .int
  | 8 => .array .int
  | 9 => .array .int
  | 10 => .int
  | 11 => .int
  | 12 => .int
  | 13 => .long
  | 14 => .int
  | 15 => .array .int
  | 16 => .int
  | 17 => .array .int
  | 18 => .int
  | 19 => .array .int
  | 20 => .array .boolean
  | 21 => .array .int
  | 22 => .array .int
  | _ => .int
theorem nmX10 : ∀ a, a < 24 → ∀ b, b < 24 → a ≠ b → (TX10 a).2.1 ≠ (TX10 b).2.1 := by decide +kernel
theorem tyX10_ok : ∀ k, k < 24 → parseFieldDescriptor (TX10 k).2.2.1 = some (tyX10 k) := by decide +kernel
def am_cs (ci : Nat) : String := match ci with
  | 0 => RX0
  | 1 => RX1
  | 2 => RX2
  | 3 => RX3
  | 4 => RX4
  | 5 => RX5
  | 6 => RX6
  | 7 => RX7
  | 8 => RX8
  | 9 => RX9
  | _ => RX10
def am_ct (ci : Nat) : u_T := match ci with
  | 0 => TX0
  | 1 => TX1
  | 2 => TX2
  | 3 => TX3
  | 4 => TX4
  | 5 => TX5
  | 6 => TX6
  | 7 => TX7
  | 8 => TX8
  | 9 => TX9
  | _ => TX10
def am_cy (ci : Nat) : Nat → FieldType := match ci with
  | 0 => tyX0
  | 1 => tyX1
  | 2 => tyX2
  | 3 => tyX3
  | 4 => tyX4
  | 5 => tyX5
  | 6 => tyX6
  | 7 => tyX7
  | 8 => tyX8
  | 9 => tyX9
  | _ => tyX10
abbrev vwCl : List vw_C := [(RX0, TX0, 6), (RX1, TX1, 6), (RX2, TX2, 7), (RX3, TX3, 10), (RX4, TX4, 4), (RX5, TX5, 12), (RX6, TX6, 4), (RX7, TX7, 2), (RX8, TX8, 11), (RX9, TX9, 11), (RX10, TX10, 24)]
/-- a method: its name, code, locals, what it returns, place of its code word in the table -/
abbrev am_Mi : Type := MethodName × ByteArray × Nat × Option FieldType
def am_ms0 : List am_Mi := [(⟨"FerryDeck$Acts", "<init>", "()V"⟩, prog_2_method_1_code, 1, none),
  (⟨"FerryDeck$Acts", "clear", "()V"⟩, prog_2_method_2_code, 1, none),
  (⟨"FerryDeck$Acts", "push", "(IIII)V"⟩, prog_2_method_3_code, 5, none),
  (⟨"FerryDeck$Acts", "pop", "()I"⟩, prog_2_method_4_code, 1, (some .int)),
  (⟨"FerryDeck$Acts", "take", "(LFerryDeck$Acts;)V"⟩, prog_2_method_5_code, 2, none),
  (⟨"FerryDeck$Gate", "<init>", "()V"⟩, prog_3_method_1_code, 1, none),
  (⟨"FerryDeck$Gate", "survey", "(LFerryDeck$Lane;LFerryDeck$Loads;I)V"⟩, prog_3_method_2_code, 5, none),
  (⟨"FerryDeck$Gate", "deepestDepth", "(LFerryDeck$Lane;)I"⟩, prog_3_method_3_code, 2, (some .int)),
  (⟨"FerryDeck$Gate", "findMarks", "(LFerryDeck$Lane;LFerryDeck$Loads;I)V"⟩, prog_3_method_4_code, 6, none),
  (⟨"FerryDeck$Gate", "countStaying", "(LFerryDeck$Lane;LFerryDeck$Loads;III)I"⟩, prog_3_method_5_code, 9, (some .int)),
  (⟨"FerryDeck$Lane", "<init>", "()V"⟩, prog_4_method_1_code, 1, none),
  (⟨"FerryDeck$Lane", "build", "(IIII)V"⟩, prog_4_method_2_code, 6, none),
  (⟨"FerryDeck$Lane", "take", "(LFerryDeck$Lane;)V"⟩, prog_4_method_3_code, 2, none),
  (⟨"FerryDeck$Lane", "isThere", "()Z"⟩, prog_4_method_4_code, 1, (some .boolean)),
  (⟨"FerryDeck$Lane", "holdsSomething", "()Z"⟩, prog_4_method_5_code, 1, (some .boolean)),
  (⟨"FerryDeck$Lane", "hasPlace", "(I)Z"⟩, prog_4_method_6_code, 2, (some .boolean)),
  (⟨"FerryDeck$Lane", "isOpen", "(I)Z"⟩, prog_4_method_7_code, 2, (some .boolean)),
  (⟨"FerryDeck$Lane", "entry", "()I"⟩, prog_4_method_8_code, 1, (some .int)),
  (⟨"FerryDeck$Lane", "placeAt", "(II)I"⟩, prog_4_method_9_code, 3, (some .int)),
  (⟨"FerryDeck$Lane", "cellAt", "(I)I"⟩, prog_4_method_10_code, 2, (some .int)),
  (⟨"FerryDeck$Lane", "way", "(I)I"⟩, prog_4_method_11_code, 3, (some .int)),
  (⟨"FerryDeck$Lane", "deepestPlace", "(III)I"⟩, prog_4_method_12_code, 4, (some .int)),
  (⟨"FerryDeck$Lane", "fill", "(III)V"⟩, prog_4_method_13_code, 5, none),
  (⟨"FerryDeck$Lane", "layChock", "(I)V"⟩, prog_4_method_14_code, 2, none),
  (⟨"FerryDeck$Lane", "liftChock", "(I)V"⟩, prog_4_method_15_code, 2, none),
  (⟨"FerryDeck$Loads", "<init>", "()V"⟩, prog_5_method_1_code, 1, none),
  (⟨"FerryDeck$Loads", "has", "(I)Z"⟩, prog_5_method_2_code, 2, (some .boolean)),
  (⟨"FerryDeck$Loads", "tell", "(IIIII)V"⟩, prog_5_method_3_code, 6, none),
  (⟨"FerryDeck$Loads", "put", "(IIII)V"⟩, prog_5_method_4_code, 5, none),
  (⟨"FerryDeck$Loads", "take", "(LFerryDeck$Loads;)V"⟩, prog_5_method_5_code, 2, none),
  (⟨"FerryDeck$Loads", "isAboard", "(I)Z"⟩, prog_5_method_6_code, 2, (some .boolean)),
  (⟨"FerryDeck$Loads", "countOf", "(I)I"⟩, prog_5_method_7_code, 4, (some .int)),
  (⟨"FerryDeck$Loads", "placeBehind", "(I)I"⟩, prog_5_method_8_code, 2, (some .int)),
  (⟨"FerryDeck$Loads", "areNext", "(II)Z"⟩, prog_5_method_9_code, 4, (some .boolean)),
  (⟨"FerryDeck$Plan", "<init>", "()V"⟩, prog_6_method_1_code, 1, none),
  (⟨"FerryDeck$Plan", "indexOf", "(I)I"⟩, prog_6_method_2_code, 3, (some .int)),
  (⟨"FerryDeck$Plan", "take", "(LFerryDeck$Plan;)V"⟩, prog_6_method_3_code, 2, none),
  (⟨"FerryDeck$Planner", "<init>", "(LFerryDeck$Ship;)V"⟩, prog_7_method_1_code, 2, none),
  (⟨"FerryDeck$Planner", "findLeast", "()I"⟩, prog_7_method_2_code, 1, (some .int)),
  (⟨"FerryDeck$Planner", "gatherLanes", "()V"⟩, prog_7_method_3_code, 2, none)]
def am_ms1 : List am_Mi := [(⟨"FerryDeck$Planner", "gatherLoads", "()V"⟩, prog_7_method_4_code, 2, none),
  (⟨"FerryDeck$Planner", "sortIn", "(I)V"⟩, prog_7_method_5_code, 3, none),
  (⟨"FerryDeck$Planner", "port", "(I)I"⟩, prog_7_method_6_code, 2, (some .int)),
  (⟨"FerryDeck$Planner", "kind", "(I)I"⟩, prog_7_method_7_code, 2, (some .int)),
  (⟨"FerryDeck$Planner", "search", "(III)V"⟩, prog_7_method_8_code, 5, none),
  (⟨"FerryDeck$Planner", "fits", "(III)Z"⟩, prog_7_method_9_code, 8, (some .boolean)),
  (⟨"FerryDeck$Planner", "placeFor", "(II)I"⟩, prog_7_method_10_code, 4, (some .int)),
  (⟨"FerryDeck$Planner", "isBeside", "(IIII)Z"⟩, prog_7_method_11_code, 6, (some .boolean)),
  (⟨"FerryDeck$Planner", "put", "(III)V"⟩, prog_7_method_12_code, 4, none),
  (⟨"FerryDeck$Planner", "costOf", "(II)I"⟩, prog_7_method_13_code, 9, (some .int)),
  (⟨"FerryDeck$Planner", "countAt", "(III)I"⟩, prog_7_method_14_code, 6, (some .int)),
  (⟨"FerryDeck$Planner", "countBeyond", "(III)I"⟩, prog_7_method_15_code, 6, (some .int)),
  (⟨"FerryDeck$Planner", "lastAt", "(III)I"⟩, prog_7_method_16_code, 6, (some .int)),
  (⟨"FerryDeck$Planner", "weigh", "(I)V"⟩, prog_7_method_17_code, 4, none),
  (⟨"FerryDeck$Planner", "canBeLower", "(I)Z"⟩, prog_7_method_18_code, 4, (some .boolean)),
  (⟨"FerryDeck$Planner", "leans", "()Z"⟩, prog_7_method_19_code, 6, (some .boolean)),
  (⟨"FerryDeck$Reason", "<init>", "()V"⟩, prog_8_method_1_code, 1, none),
  (⟨"FerryDeck$Reason", "set", "(JJJJ)V"⟩, prog_8_method_2_code, 9, none),
  (⟨"FerryDeck$Row", "<init>", "()V"⟩, prog_9_method_1_code, 1, none),
  (⟨"FerryDeck$Row", "clear", "()V"⟩, prog_9_method_2_code, 1, none),
  (⟨"FerryDeck$Row", "add", "(I)V"⟩, prog_9_method_3_code, 2, none),
  (⟨"FerryDeck$Row", "item", "(I)I"⟩, prog_9_method_4_code, 2, (some .int)),
  (⟨"FerryDeck$Row", "take", "(LFerryDeck$Row;)V"⟩, prog_9_method_5_code, 2, none),
  (⟨"FerryDeck$Ship", "<init>", "()V"⟩, prog_10_method_1_code, 2, none),
  (⟨"FerryDeck$Ship", "take", "(LFerryDeck$Ship;)V"⟩, prog_10_method_2_code, 3, none),
  (⟨"FerryDeck$Ship", "isAtQuay", "()Z"⟩, prog_10_method_3_code, 1, (some .boolean)),
  (⟨"FerryDeck$Ship", "firstPortAhead", "()I"⟩, prog_10_method_4_code, 1, (some .int)),
  (⟨"FerryDeck$Ship", "countLanes", "()I"⟩, prog_10_method_5_code, 3, (some .int)),
  (⟨"FerryDeck$Ship", "chockAct", "(III)I"⟩, prog_10_method_6_code, 4, (some .int)),
  (⟨"FerryDeck$Ship", "driveIn", "(III)I"⟩, prog_10_method_7_code, 5, (some .int)),
  (⟨"FerryDeck$Ship", "placeFor", "(III)I"⟩, prog_10_method_8_code, 8, (some .int)),
  (⟨"FerryDeck$Ship", "wouldMeetFoe", "(III)Z"⟩, prog_10_method_9_code, 7, (some .boolean)),
  (⟨"FerryDeck$Ship", "isKindAt", "(III)Z"⟩, prog_10_method_10_code, 5, (some .boolean)),
  (⟨"FerryDeck$Ship", "stand", "(III)V"⟩, prog_10_method_11_code, 4, none),
  (⟨"FerryDeck$Ship", "takeAway", "(II)V"⟩, prog_10_method_12_code, 4, none),
  (⟨"FerryDeck$Ship", "takeOut", "(II)I"⟩, prog_10_method_13_code, 6, (some .int)),
  (⟨"FerryDeck$Ship", "undoLatest", "()I"⟩, prog_10_method_14_code, 2, (some .int)),
  (⟨"FerryDeck$Ship", "leanOf", "(I)J"⟩, prog_10_method_15_code, 5, (some .long)),
  (⟨"FerryDeck$Ship", "setSail", "(LFerryDeck$Reason;)I"⟩, prog_10_method_16_code, 2, (some .int)),
  (⟨"FerryDeck$Ship", "findFarLoad", "(LFerryDeck$Reason;)Z"⟩, prog_10_method_17_code, 3, (some .boolean))]
def am_ms2 : List am_Mi := [(⟨"FerryDeck$Ship", "findLeaningLeg", "(LFerryDeck$Reason;)Z"⟩, prog_10_method_18_code, 5, (some .boolean)),
  (⟨"FerryDeck$Ship", "findStuckPort", "(LFerryDeck$Reason;)Z"⟩, prog_10_method_19_code, 4, (some .boolean)),
  (⟨"FerryDeck$Ship", "countBound", "()I"⟩, prog_10_method_20_code, 4, (some .int)),
  (⟨"FerryDeck$Ship", "comeToPort", "()I"⟩, prog_10_method_21_code, 2, (some .int)),
  (⟨"FerryDeck$Ship", "clearLane", "(LFerryDeck$Lane;I)V"⟩, prog_10_method_22_code, 5, none),
  (⟨"FerryDeck$Ship", "meet", "(LFerryDeck$Lane;II)V"⟩, prog_10_method_23_code, 5, none),
  (⟨"FerryDeck$Ship", "refusalToPlan", "()I"⟩, prog_10_method_24_code, 2, (some .int)),
  (⟨"FerryDeck$Ship", "hasChock", "()Z"⟩, prog_10_method_25_code, 2, (some .boolean)),
  (⟨"FerryDeck$Ship", "standAsPlanned", "()V"⟩, prog_10_method_26_code, 2, none),
  (⟨"FerryDeck", "<init>", "()V"⟩, prog_1_method_1_code, 1, none),
  (⟨"FerryDeck", "lane", "(IIIII)I"⟩, prog_1_method_2_code, 6, (some .int)),
  (⟨"FerryDeck", "miss", "(I)I"⟩, prog_1_method_3_code, 2, (some .int)),
  (⟨"FerryDeck", "told", "(II)I"⟩, prog_1_method_4_code, 4, (some .int)),
  (⟨"FerryDeck", "chock", "(II)I"⟩, prog_1_method_5_code, 3, (some .int)),
  (⟨"FerryDeck", "lift", "(II)I"⟩, prog_1_method_6_code, 3, (some .int)),
  (⟨"FerryDeck", "at", "(II)I"⟩, prog_1_method_7_code, 3, (some .int)),
  (⟨"FerryDeck", "kindAt", "(II)I"⟩, prog_1_method_8_code, 4, (some .int)),
  (⟨"FerryDeck", "copy", "(III)I"⟩, prog_1_method_9_code, 4, (some .int)),
  (⟨"FerryDeck", "sheet", "(I)I"⟩, prog_1_method_10_code, 2, (some .int)),
  (⟨"FerryDeck", "free", "(II)I"⟩, prog_1_method_11_code, 3, (some .int)),
  (⟨"FerryDeck", "load", "(IIIII)I"⟩, prog_1_method_12_code, 9, (some .int)),
  (⟨"FerryDeck", "of", "(II)I"⟩, prog_1_method_13_code, 4, (some .int)),
  (⟨"FerryDeck", "more", "(I)I"⟩, prog_1_method_14_code, 3, (some .int)),
  (⟨"FerryDeck", "drawer", "(I)I"⟩, prog_1_method_15_code, 2, (some .int)),
  (⟨"FerryDeck", "loads", "()I"⟩, prog_1_method_16_code, 1, (some .int)),
  (⟨"FerryDeck", "near", "(II)Z"⟩, prog_1_method_17_code, 3, (some .boolean)),
  (⟨"FerryDeck", "drive", "(III)I"⟩, prog_1_method_18_code, 5, (some .int)),
  (⟨"FerryDeck", "out", "(II)I"⟩, prog_1_method_19_code, 3, (some .int)),
  (⟨"FerryDeck", "undo", "()I"⟩, prog_1_method_20_code, 1, (some .int)),
  (⟨"FerryDeck", "again", "()I"⟩, prog_1_method_21_code, 1, (some .int)),
  (⟨"FerryDeck", "day", "(IJ)I"⟩, prog_1_method_22_code, 4, (some .int)),
  (⟨"FerryDeck", "lean", "(I)J"⟩, prog_1_method_23_code, 2, (some .long)),
  (⟨"FerryDeck", "sail", "()I"⟩, prog_1_method_24_code, 1, (some .int)),
  (⟨"FerryDeck", "why", "(I)J"⟩, prog_1_method_25_code, 2, (some .long)),
  (⟨"FerryDeck", "arrive", "()I"⟩, prog_1_method_26_code, 1, (some .int)),
  (⟨"FerryDeck", "moved", "(I)I"⟩, prog_1_method_27_code, 2, (some .int)),
  (⟨"FerryDeck", "left", "(I)I"⟩, prog_1_method_28_code, 2, (some .int)),
  (⟨"FerryDeck", "bound", "()I"⟩, prog_1_method_29_code, 1, (some .int)),
  (⟨"FerryDeck", "ship", "(I)I"⟩, prog_1_method_30_code, 2, (some .int)),
  (⟨"FerryDeck", "least", "()I"⟩, prog_1_method_31_code, 2, (some .int))]
def am_ms3 : List am_Mi := [(⟨"FerryDeck", "planned", "(II)I"⟩, prog_1_method_32_code, 4, (some .int)),
  (⟨"FerryDeck", "stow", "()I"⟩, prog_1_method_33_code, 2, (some .int)),
  (⟨"FerryDeck", "step", "(IIII)I"⟩, prog_1_method_34_code, 6, (some .int)),
  (⟨"FerryDeck", "forget", "()I"⟩, prog_1_method_35_code, 2, (some .int)),
  (⟨"FerryDeck", "check", "()I"⟩, prog_1_method_36_code, 2, (some .int)),
  (⟨"FerryDeck", "keep", "(I)Z"⟩, prog_1_method_37_code, 2, (some .boolean)),
  (⟨"FerryDeck", "back", "(I)Z"⟩, prog_1_method_38_code, 2, (some .boolean)),
  (⟨"FerryDeck", "found", "(I)I"⟩, prog_1_method_39_code, 2, (some .int)),
  (⟨"FerryDeck", "finding", "(I)I"⟩, prog_1_method_40_code, 2, (some .int)),
  (⟨"FerryDeck", "isSo", "(LFerryDeck$Ship;I)Z"⟩, prog_1_method_41_code, 6, (some .boolean)),
  (⟨"FerryDeck", "isWithin", "(III)Z"⟩, prog_1_method_42_code, 3, (some .boolean)),
  (⟨"FerryDeck", "isLane", "(I)Z"⟩, prog_1_method_43_code, 1, (some .boolean)),
  (⟨"FerryDeck", "isEnd", "(I)Z"⟩, prog_1_method_44_code, 1, (some .boolean)),
  (⟨"FerryDeck", "isDrawnKind", "(I)Z"⟩, prog_1_method_45_code, 1, (some .boolean)),
  (⟨"FerryDeck", "spanOf", "(I)I"⟩, prog_1_method_46_code, 1, (some .int)),
  (⟨"FerryDeck", "tallerBy", "(I)I"⟩, prog_1_method_47_code, 1, (some .int)),
  (⟨"FerryDeck", "unitsOf", "(II)I"⟩, prog_1_method_48_code, 3, (some .int)),
  (⟨"FerryDeck", "foeOf", "(I)I"⟩, prog_1_method_49_code, 1, (some .int)),
  (⟨"FerryDeckModel", "<init>", "()V"⟩, prog_12_method_1_code, 2, none),
  (⟨"FerryDeckModel", "isLane", "(I)Z"⟩, prog_12_method_2_code, 2, (some .boolean)),
  (⟨"FerryDeckModel", "isThere", "(I)Z"⟩, prog_12_method_3_code, 2, (some .boolean)),
  (⟨"FerryDeckModel", "length", "(I)I"⟩, prog_12_method_4_code, 2, (some .int)),
  (⟨"FerryDeckModel", "isOpen", "(II)Z"⟩, prog_12_method_5_code, 4, (some .boolean)),
  (⟨"FerryDeckModel", "spot", "(II)I"⟩, prog_12_method_6_code, 3, (some .int)),
  (⟨"FerryDeckModel", "isPlace", "(II)Z"⟩, prog_12_method_7_code, 3, (some .boolean)),
  (⟨"FerryDeckModel", "get", "(II)I"⟩, prog_12_method_8_code, 3, (some .int)),
  (⟨"FerryDeckModel", "set", "(III)V"⟩, prog_12_method_9_code, 4, none),
  (⟨"FerryDeckModel", "isLoad", "(I)Z"⟩, prog_12_method_10_code, 2, (some .boolean)),
  (⟨"FerryDeckModel", "isSea", "()Z"⟩, prog_12_method_11_code, 1, (some .boolean)),
  (⟨"FerryDeckModel", "span", "(I)I"⟩, prog_12_method_12_code, 2, (some .int)),
  (⟨"FerryDeckModel", "tall", "(I)I"⟩, prog_12_method_13_code, 3, (some .int)),
  (⟨"FerryDeckModel", "units", "(I)I"⟩, prog_12_method_14_code, 4, (some .int)),
  (⟨"FerryDeckModel", "isDrawn", "(I)Z"⟩, prog_12_method_15_code, 2, (some .boolean)),
  (⟨"FerryDeckModel", "find", "(I)I"⟩, prog_12_method_16_code, 2, (some .int)),
  (⟨"FerryDeckModel", "deep", "(III)I"⟩, prog_12_method_17_code, 4, (some .int)),
  (⟨"FerryDeckModel", "way", "(II)I"⟩, prog_12_method_18_code, 4, (some .int)),
  (⟨"FerryDeckModel", "put", "(III)V"⟩, prog_12_method_19_code, 5, none),
  (⟨"FerryDeckModel", "take", "(II)V"⟩, prog_12_method_20_code, 4, none),
  (⟨"FerryDeckModel", "count", "(III)I"⟩, prog_12_method_21_code, 6, (some .int)),
  (⟨"FerryDeckModel", "aboard", "()I"⟩, prog_12_method_22_code, 3, (some .int))]
def am_ms4 : List am_Mi := [(⟨"FerryDeckModel", "isEmpty", "(I)Z"⟩, prog_12_method_23_code, 2, (some .boolean)),
  (⟨"FerryDeckModel", "act", "(IIII)V"⟩, prog_12_method_24_code, 6, none),
  (⟨"FerryDeckModel", "lane", "(IIIII)I"⟩, prog_12_method_25_code, 6, (some .int)),
  (⟨"FerryDeckModel", "miss", "(I)I"⟩, prog_12_method_26_code, 2, (some .int)),
  (⟨"FerryDeckModel", "inLane", "(I)I"⟩, prog_12_method_27_code, 4, (some .int)),
  (⟨"FerryDeckModel", "told", "(II)I"⟩, prog_12_method_28_code, 3, (some .int)),
  (⟨"FerryDeckModel", "hinders", "(III)I"⟩, prog_12_method_29_code, 4, (some .int)),
  (⟨"FerryDeckModel", "chock", "(II)I"⟩, prog_12_method_30_code, 4, (some .int)),
  (⟨"FerryDeckModel", "lift", "(II)I"⟩, prog_12_method_31_code, 4, (some .int)),
  (⟨"FerryDeckModel", "at", "(II)I"⟩, prog_12_method_32_code, 3, (some .int)),
  (⟨"FerryDeckModel", "kindAt", "(II)I"⟩, prog_12_method_33_code, 4, (some .int)),
  (⟨"FerryDeckModel", "copy", "(III)I"⟩, prog_12_method_34_code, 5, (some .int)),
  (⟨"FerryDeckModel", "sheet", "(I)I"⟩, prog_12_method_35_code, 2, (some .int)),
  (⟨"FerryDeckModel", "free", "(II)I"⟩, prog_12_method_36_code, 3, (some .int)),
  (⟨"FerryDeckModel", "load", "(IIIII)I"⟩, prog_12_method_37_code, 8, (some .int)),
  (⟨"FerryDeckModel", "of", "(II)I"⟩, prog_12_method_38_code, 3, (some .int)),
  (⟨"FerryDeckModel", "more", "(I)I"⟩, prog_12_method_39_code, 3, (some .int)),
  (⟨"FerryDeckModel", "drawer", "(I)I"⟩, prog_12_method_40_code, 2, (some .int)),
  (⟨"FerryDeckModel", "loads", "()I"⟩, prog_12_method_41_code, 1, (some .int)),
  (⟨"FerryDeckModel", "isNext", "(IIII)Z"⟩, prog_12_method_42_code, 6, (some .boolean)),
  (⟨"FerryDeckModel", "near", "(II)Z"⟩, prog_12_method_43_code, 6, (some .boolean)),
  (⟨"FerryDeckModel", "wouldBeNext", "(IIII)Z"⟩, prog_12_method_44_code, 9, (some .boolean)),
  (⟨"FerryDeckModel", "couldDrive", "(III)I"⟩, prog_12_method_45_code, 8, (some .int)),
  (⟨"FerryDeckModel", "doDrive", "(III)I"⟩, prog_12_method_46_code, 5, (some .int)),
  (⟨"FerryDeckModel", "drive", "(III)I"⟩, prog_12_method_47_code, 5, (some .int)),
  (⟨"FerryDeckModel", "out", "(II)I"⟩, prog_12_method_48_code, 6, (some .int)),
  (⟨"FerryDeckModel", "undo", "()I"⟩, prog_12_method_49_code, 4, (some .int)),
  (⟨"FerryDeckModel", "again", "()I"⟩, prog_12_method_50_code, 1, (some .int)),
  (⟨"FerryDeckModel", "day", "(IJ)I"⟩, prog_12_method_51_code, 4, (some .int)),
  (⟨"FerryDeckModel", "lean", "(I)J"⟩, prog_12_method_52_code, 5, (some .long)),
  (⟨"FerryDeckModel", "leaves", "(III)Z"⟩, prog_12_method_53_code, 5, (some .boolean)),
  (⟨"FerryDeckModel", "deepest", "(III)I"⟩, prog_12_method_54_code, 6, (some .int)),
  (⟨"FerryDeckModel", "isClear", "(III)Z"⟩, prog_12_method_55_code, 6, (some .boolean)),
  (⟨"FerryDeckModel", "hindering", "(III)I"⟩, prog_12_method_56_code, 8, (some .int)),
  (⟨"FerryDeckModel", "endFor", "(II)I"⟩, prog_12_method_57_code, 5, (some .int)),
  (⟨"FerryDeckModel", "stuckAt", "(I)I"⟩, prog_12_method_58_code, 4, (some .int)),
  (⟨"FerryDeckModel", "boundOf", "()I"⟩, prog_12_method_59_code, 5, (some .int)),
  (⟨"FerryDeckModel", "because", "(IIJI)V"⟩, prog_12_method_60_code, 6, none),
  (⟨"FerryDeckModel", "doSail", "()I"⟩, prog_12_method_61_code, 4, (some .int)),
  (⟨"FerryDeckModel", "sail", "()I"⟩, prog_12_method_62_code, 1, (some .int))]
def am_ms5 : List am_Mi := [(⟨"FerryDeckModel", "why", "(I)J"⟩, prog_12_method_63_code, 2, (some .long)),
  (⟨"FerryDeckModel", "leave", "(III)V"⟩, prog_12_method_64_code, 8, none),
  (⟨"FerryDeckModel", "arrive", "()I"⟩, prog_12_method_65_code, 4, (some .int)),
  (⟨"FerryDeckModel", "moved", "(I)I"⟩, prog_12_method_66_code, 2, (some .int)),
  (⟨"FerryDeckModel", "left", "(I)I"⟩, prog_12_method_67_code, 2, (some .int)),
  (⟨"FerryDeckModel", "bound", "()I"⟩, prog_12_method_68_code, 1, (some .int)),
  (⟨"FerryDeckModel", "ship", "(I)I"⟩, prog_12_method_69_code, 4, (some .int)),
  (⟨"FerryDeckModel", "hindersPlans", "()I"⟩, prog_12_method_70_code, 5, (some .int)),
  (⟨"FerryDeckModel", "isChocked", "()Z"⟩, prog_12_method_71_code, 3, (some .boolean)),
  (⟨"FerryDeckModel", "wouldSail", "()Z"⟩, prog_12_method_72_code, 5, (some .boolean)),
  (⟨"FerryDeckModel", "isBetter", "(I)Z"⟩, prog_12_method_73_code, 5, (some .boolean)),
  (⟨"FerryDeckModel", "judge", "()V"⟩, prog_12_method_74_code, 3, none),
  (⟨"FerryDeckModel", "choice", "(II)I"⟩, prog_12_method_75_code, 8, (some .int)),
  (⟨"FerryDeckModel", "tryAll", "()V"⟩, prog_12_method_76_code, 4, none),
  (⟨"FerryDeckModel", "least", "()I"⟩, prog_12_method_77_code, 3, (some .int)),
  (⟨"FerryDeckModel", "planned", "(II)I"⟩, prog_12_method_78_code, 3, (some .int)),
  (⟨"FerryDeckModel", "stow", "()I"⟩, prog_12_method_79_code, 3, (some .int)),
  (⟨"FerryDeckModel", "step", "(IIII)I"⟩, prog_12_method_80_code, 5, (some .int)),
  (⟨"FerryDeckModel", "forget", "()I"⟩, prog_12_method_81_code, 2, (some .int)),
  (⟨"FerryDeckModel", "isSo", "(IIII)Z"⟩, prog_12_method_82_code, 5, (some .boolean)),
  (⟨"FerryDeckModel", "copyAll", "([I[I)V"⟩, prog_12_method_83_code, 3, none),
  (⟨"FerryDeckModel", "check", "()I"⟩, prog_12_method_84_code, 7, (some .int)),
  (⟨"FerryDeckModel", "keep", "(I)Z"⟩, prog_12_method_85_code, 2, (some .boolean)),
  (⟨"FerryDeckModel", "back", "(I)Z"⟩, prog_12_method_86_code, 2, (some .boolean)),
  (⟨"FerryDeckModel", "found", "(I)I"⟩, prog_12_method_87_code, 2, (some .int)),
  (⟨"FerryDeckLaw", "law", "([I)Z"⟩, code, 4, (some .boolean))]
def am_ms : List am_Mi := am_ms0 ++ (am_ms1 ++ (am_ms2 ++ (am_ms3 ++ (am_ms4 ++ (am_ms5)))))
def am_nas : List Nat := [0, 0, 4, 0, 1, 0, 3, 1, 3, 5, 0, 4, 1, 0, 0, 1, 1, 0, 2, 1, 1, 3, 3, 1, 1, 0, 1, 5, 4, 1, 1, 1, 1, 2, 0, 1, 1, 1, 0, 0, 0, 1, 1, 1, 3, 3, 2, 4, 3, 2, 3, 3, 3, 1, 1, 0, 0, 4, 0, 0, 1, 1, 1, 0, 1, 0, 0, 0, 3, 3, 3, 3, 3, 3, 2, 2, 0, 1, 1, 1, 1, 1, 0, 0, 2, 3, 0, 0, 0, 0, 5, 1, 2, 2, 2, 2, 2, 3, 1, 2, 5, 2, 1, 1, 0, 2, 3, 2, 0, 0, 2, 1, 0, 1, 0, 1, 1, 0, 1, 0, 2, 0, 4, 0, 0, 1, 1, 1, 1, 2, 3, 1, 1, 1, 1, 1, 2, 1, 0, 1, 1, 1, 2, 2, 2, 2, 3, 1, 0, 1, 1, 1, 1, 1, 3, 2, 3, 2, 3, 0, 1, 4, 5, 1, 1, 2, 3, 2, 2, 2, 2, 3, 1, 2, 5, 2, 1, 1, 0, 4, 2, 4, 3, 3, 3, 2, 0, 0, 2, 1, 3, 3, 3, 3, 2, 1, 0, 4, 0, 0, 1, 3, 0, 1, 1, 0, 1, 0, 0, 0, 1, 0, 2, 0, 0, 2, 0, 4, 0, 4, 2, 0, 1, 1, 1, 1]
def am_cis : List Nat := [0, 0, 0, 0, 0, 1, 1, 1, 1, 1, 2, 2, 2, 2, 2, 2, 2, 2, 2, 2, 2, 2, 2, 2, 2, 3, 3, 3, 3, 3, 3, 3, 3, 3, 4, 4, 4, 5, 5, 5, 5, 5, 5, 5, 5, 5, 5, 5, 5, 5, 5, 5, 5, 5, 5, 5, 6, 6, 7, 7, 7, 7, 7, 8, 8, 8, 8, 8, 8, 8, 8, 8, 8, 8, 8, 8, 8, 8, 8, 8, 8, 8, 8, 8, 8, 8, 8, 8, 8, 9, 9, 9, 9, 9, 9, 9, 9, 9, 9, 9, 9, 9, 9, 9, 9, 9, 9, 9, 9, 9, 9, 9, 9, 9, 9, 9, 9, 9, 9, 9, 9, 9, 9, 9, 9, 9, 9, 9, 9, 9, 9, 9, 9, 9, 9, 9, 9, 9, 10, 10, 10, 10, 10, 10, 10, 10, 10, 10, 10, 10, 10, 10, 10, 10, 10, 10, 10, 10, 10, 10, 10, 10, 10, 10, 10, 10, 10, 10, 10, 10, 10, 10, 10, 10, 10, 10, 10, 10, 10, 10, 10, 10, 10, 10, 10, 10, 10, 10, 10, 10, 10, 10, 10, 10, 10, 10, 10, 10, 10, 10, 10, 10, 10, 10, 10, 10, 10, 10, 10, 10, 10, 10, 10, 10, 10, 10, 10, 10, 10, 10, 10, 10, 10, 10, 10, 99]
def am_mxs : List Nat := [1, 1, 5, 1, 2, 1, 5, 2, 6, 9, 1, 6, 2, 1, 1, 2, 2, 1, 3, 2, 3, 4, 5, 2, 2, 1, 2, 6, 5, 2, 2, 4, 2, 4, 1, 3, 2, 2, 1, 2, 2, 3, 2, 2, 5, 8, 4, 6, 4, 9, 6, 6, 6, 4, 4, 6, 1, 9, 1, 1, 2, 2, 2, 2, 3, 1, 1, 3, 4, 5, 8, 7, 5, 4, 4, 6, 2, 5, 2, 3, 5, 4, 4, 2, 5, 5, 2, 2, 2, 1, 6, 2, 4, 3, 3, 3, 4, 4, 2, 3, 9, 4, 3, 2, 1, 3, 5, 3, 1, 1, 4, 2, 1, 2, 1, 2, 2, 1, 2, 2, 4, 2, 6, 2, 2, 2, 2, 2, 2, 6, 3, 1, 1, 1, 1, 1, 3, 1, 2, 2, 2, 2, 4, 3, 3, 3, 4, 2, 1, 2, 3, 4, 2, 2, 4, 4, 5, 4, 6, 3, 2, 6, 6, 2, 4, 3, 4, 4, 4, 3, 4, 5, 2, 3, 8, 3, 3, 2, 1, 6, 6, 9, 8, 5, 5, 6, 4, 1, 4, 5, 5, 6, 6, 8, 5, 4, 5, 6, 4, 1, 2, 8, 4, 2, 2, 1, 4, 5, 3, 5, 5, 3, 8, 4, 3, 3, 3, 5, 2, 5, 3, 7, 2, 2, 2, 4]
/-- kind (0 virtual, 1 constructor, 2 static), places in lw_tbl of: code, instanceMethod or static, selects -/
def am_hs : List (Nat × Nat × Nat × Nat) := [(1, 179, 178, 0), (0, 502, 500, 501), (0, 548, 546, 547), (0, 728, 726, 727), (0, 1005, 1003, 1004), (1, 254, 253, 0), (0, 784, 782, 783), (0, 822, 820, 821), (0, 788, 787, 9), (0, 795, 794, 10), (1, 280, 279, 0), (0, 498, 496, 497), (0, 995, 993, 994), (0, 510, 508, 509), (0, 494, 492, 493), (0, 529, 527, 528), (0, 591, 589, 590), (0, 923, 921, 922), (0, 599, 597, 598), (0, 678, 676, 677), (0, 595, 593, 594), (0, 682, 680, 681), (0, 537, 535, 536), (0, 533, 531, 532), (0, 544, 542, 543), (1, 112, 111, 0), (0, 569, 567, 568), (0, 611, 609, 610), (0, 702, 700, 701), (0, 1000, 998, 999), (0, 645, 643, 644), (0, 741, 739, 740), (0, 654, 652, 653), (0, 650, 648, 649), (1, 210, 209, 0), (0, 966, 964, 965), (0, 1010, 1008, 1009), (1, 375, 374, 0), (0, 878, 876, 877), (0, 882, 881, 14), (0, 887, 886, 15), (0, 891, 890, 16), (0, 895, 894, 17), (0, 912, 911, 21), (0, 900, 899, 18), (0, 908, 907, 20), (0, 919, 918, 22), (0, 929, 928, 23), (0, 933, 932, 24), (0, 937, 936, 25), (0, 941, 940, 26), (0, 945, 944, 27), (0, 949, 948, 28), (0, 954, 953, 29), (0, 904, 903, 19), (0, 958, 957, 30), (1, 419, 418, 0), (0, 767, 765, 766), (1, 239, 238, 0), (0, 814, 812, 813), (0, 830, 828, 829), (0, 838, 836, 837), (0, 1015, 1013, 1014), (1, 104, 103, 0), (0, 991, 989, 990), (0, 490, 488, 489), (0, 749, 747, 748), (0, 859, 857, 858), (0, 522, 520, 521), (0, 663, 661, 662), (0, 669, 668, 1), (0, 686, 685, 2), (0, 693, 692, 3), (0, 697, 696, 4), (0, 716, 715, 5), (0, 710, 708, 709), (0, 724, 722, 723), (0, 754, 752, 753), (0, 762, 760, 761), (0, 771, 770, 6), (0, 775, 774, 7), (0, 780, 779, 8), (0, 850, 848, 849), (0, 810, 808, 809), (0, 818, 817, 11), (0, 826, 825, 12), (0, 867, 865, 866), (0, 872, 871, 13), (0, 975, 973, 974), (1, 96, 95, 0), (0, 476, 474, 475), (0, 506, 504, 505), (0, 514, 512, 513), (0, 518, 516, 517), (0, 555, 553, 554), (0, 559, 557, 558), (0, 564, 562, 563), (0, 573, 571, 572), (0, 580, 578, 579), (0, 584, 582, 583), (0, 603, 601, 602), (0, 621, 619, 620), (0, 628, 626, 627), (0, 633, 631, 632), (0, 637, 635, 636), (0, 641, 639, 640), (0, 659, 657, 658), (0, 706, 704, 705), (0, 720, 718, 719), (0, 732, 730, 731), (0, 736, 734, 735), (0, 745, 743, 744), (0, 758, 756, 757), (0, 801, 799, 800), (0, 806, 804, 805), (0, 834, 832, 833), (0, 842, 840, 841), (0, 846, 844, 845), (0, 855, 853, 854), (0, 863, 861, 862), (0, 962, 960, 961), (0, 970, 968, 969), (0, 979, 977, 978), (0, 983, 981, 982), (0, 987, 985, 986), (0, 1024, 1022, 1023), (0, 1028, 1026, 1027), (0, 1032, 1030, 1031), (0, 483, 482, 0), (0, 1020, 1019, 31), (2, 486, 485, 0), (2, 479, 478, 0), (2, 587, 586, 0), (2, 607, 606, 0), (2, 624, 623, 0), (2, 614, 613, 0), (2, 617, 616, 0), (2, 689, 688, 0), (1, 1037, 1036, 0), (0, 1122, 1121, 32), (0, 1134, 1133, 35), (0, 1142, 1141, 37), (0, 1211, 1210, 45), (0, 1178, 1177, 43), (0, 1174, 1173, 42), (0, 1162, 1161, 40), (0, 1232, 1231, 49), (0, 1228, 1227, 48), (0, 1130, 1129, 34), (0, 1240, 1239, 50), (0, 1244, 1243, 51), (0, 1248, 1247, 52), (0, 1260, 1259, 53), (0, 1126, 1125, 33), (0, 1219, 1218, 47), (0, 1215, 1214, 46), (0, 1291, 1290, 57), (0, 1299, 1298, 58), (0, 1146, 1145, 38), (0, 1316, 1315, 59), (0, 1138, 1137, 36), (0, 1182, 1181, 44), (0, 1118, 1116, 1117), (0, 1150, 1148, 1149), (0, 1158, 1157, 39), (0, 1154, 1152, 1153), (0, 1170, 1169, 41), (0, 1166, 1164, 1165), (0, 1186, 1184, 1185), (0, 1190, 1188, 1189), (0, 1194, 1192, 1193), (0, 1199, 1197, 1198), (0, 1203, 1201, 1202), (0, 1207, 1205, 1206), (0, 1223, 1221, 1222), (0, 1236, 1234, 1235), (0, 1252, 1250, 1251), (0, 1256, 1254, 1255), (0, 1264, 1262, 1263), (2, 1271, 1270, 0), (0, 1268, 1266, 1267), (0, 1287, 1286, 56), (0, 1283, 1282, 55), (0, 1279, 1278, 54), (0, 1275, 1273, 1274), (0, 1295, 1293, 1294), (0, 1303, 1301, 1302), (0, 1307, 1305, 1306), (0, 1311, 1309, 1310), (0, 1320, 1318, 1319), (0, 1349, 1348, 65), (0, 1345, 1344, 64), (0, 1353, 1352, 66), (0, 1357, 1356, 67), (0, 1341, 1340, 63), (0, 1337, 1336, 62), (0, 1386, 1385, 69), (0, 1332, 1331, 61), (0, 1328, 1327, 60), (0, 1324, 1322, 1323), (0, 1361, 1359, 1360), (0, 1370, 1369, 68), (0, 1366, 1364, 1365), (0, 1374, 1372, 1373), (0, 1378, 1376, 1377), (0, 1382, 1380, 1381), (0, 1390, 1388, 1389), (0, 1398, 1397, 70), (0, 1402, 1401, 71), (0, 1418, 1417, 75), (0, 1422, 1421, 76), (0, 1414, 1413, 74), (0, 1410, 1409, 73), (0, 1406, 1405, 72), (0, 1394, 1392, 1393), (0, 1426, 1424, 1425), (0, 1430, 1428, 1429), (0, 1435, 1433, 1434), (0, 1439, 1437, 1438), (0, 1450, 1449, 77), (2, 1446, 1445, 0), (0, 1443, 1441, 1442), (0, 1459, 1457, 1458), (0, 1463, 1461, 1462), (0, 1467, 1465, 1466), (2, 0, 0, 0)]
def am_na (j : Nat) : Nat := am_nas.getD j 0
def am_ci (j : Nat) : Nat := am_cis.getD j 0
def am_mx (j : Nat) : Nat := am_mxs.getD j 0
def am_LAW : Nat := 225
