def RX0 : String := "RollerLeaf$Cells"
def TX0 : u_T := fun k => match k with
  | 0 => ("RollerLeaf$Cells", "columns", "I", true)
  | 1 => ("RollerLeaf$Cells", "rows", "I", true)
  | _ => ("RollerLeaf$Cells", "colours", "[I", true)
def tyX0 : Nat → FieldType := fun k => match k with
  | 0 => .int
  | 1 => .int
  | _ => .array .int
abbrev wsX00 : List Cond := u_ws RX0 TX0 3
theorem nmX0 : ∀ a, a < 3 → ∀ b, b < 3 → a ≠ b → (TX0 a).2.1 ≠ (TX0 b).2.1 := by decide +kernel
theorem tyX0_ok : ∀ k, k < 3 → parseFieldDescriptor (TX0 k).2.2.1 = some (tyX0 k) := by decide +kernel
abbrev cX0_init : ByteArray := prog_2_method_1_code
def yX0_init : MethodName := ⟨RX0, "<init>", "(II)V"⟩
abbrev cX0_holds : ByteArray := prog_2_method_2_code
def yX0_holds : MethodName := ⟨RX0, "holds", "(II)Z"⟩
abbrev cX0_colourAt : ByteArray := prog_2_method_3_code
def yX0_colourAt : MethodName := ⟨RX0, "colourAt", "(II)I"⟩
abbrev cX0_put : ByteArray := prog_2_method_4_code
def yX0_put : MethodName := ⟨RX0, "put", "(III)V"⟩
abbrev cX0_place : ByteArray := prog_2_method_5_code
def yX0_place : MethodName := ⟨RX0, "place", "(II)I"⟩
def RX1 : String := "RollerLeaf$Lot"
def TX1 : u_T := fun k => match k with
  | 0 => ("RollerLeaf$Lot", "roller", "LRollerLeaf$Roller;", true)
  | 1 => ("RollerLeaf$Lot", "rollerNumber", "I", true)
  | 2 => ("RollerLeaf$Lot", "dye", "I", true)
  | 3 => ("RollerLeaf$Lot", "length", "I", true)
  | _ => ("RollerLeaf$Lot", "rollsLeft", "I", false)
def tyX1 : Nat → FieldType := fun k => match k with
  | 0 => .object "RollerLeaf$Roller"
  | 1 => .int
  | 2 => .int
  | 3 => .int
  | _ => .int
abbrev wsX10 : List Cond := u_ws RX1 TX1 5
theorem nmX1 : ∀ a, a < 5 → ∀ b, b < 5 → a ≠ b → (TX1 a).2.1 ≠ (TX1 b).2.1 := by decide +kernel
theorem tyX1_ok : ∀ k, k < 5 → parseFieldDescriptor (TX1 k).2.2.1 = some (tyX1 k) := by decide +kernel
abbrev cX1_init : ByteArray := prog_3_method_1_code
def yX1_init : MethodName := ⟨RX1, "<init>", "(LRollerLeaf$Roller;IIII)V"⟩
abbrev cX1_roundsOfARoll : ByteArray := prog_3_method_2_code
def yX1_roundsOfARoll : MethodName := ⟨RX1, "roundsOfARoll", "()I"⟩
def RX2 : String := "RollerLeaf$OpenedRolls"
def TX2 : u_T := fun k => match k with
  | 0 => ("RollerLeaf$OpenedRolls", "lastCuts", "[I", true)
  | 1 => ("RollerLeaf$OpenedRolls", "opened", "I", false)
  | 2 => ("RollerLeaf$OpenedRolls", "mostOpened", "I", false)
  | 3 => ("RollerLeaf$OpenedRolls", "length", "I", false)
  | 4 => ("RollerLeaf$OpenedRolls", "repeatRows", "I", false)
  | _ => ("RollerLeaf$OpenedRolls", "phase", "I", false)
def tyX2 : Nat → FieldType := fun k => match k with
  | 0 => .array .int
  | 1 => .int
  | 2 => .int
  | 3 => .int
  | 4 => .int
  | _ => .int
abbrev wsX20 : List Cond := u_ws RX2 TX2 6
theorem nmX2 : ∀ a, a < 6 → ∀ b, b < 6 → a ≠ b → (TX2 a).2.1 ≠ (TX2 b).2.1 := by decide +kernel
theorem tyX2_ok : ∀ k, k < 6 → parseFieldDescriptor (TX2 k).2.2.1 = some (tyX2 k) := by decide +kernel
abbrev cX2_init : ByteArray := prog_4_method_1_code
def yX2_init : MethodName := ⟨RX2, "<init>", "()V"⟩
abbrev cX2_beginAnew : ByteArray := prog_4_method_2_code
def yX2_beginAnew : MethodName := ⟨RX2, "beginAnew", "(LRollerLeaf$Lot;I)V"⟩
abbrev cX2_takeDrop : ByteArray := prog_4_method_3_code
def yX2_takeDrop : MethodName := ⟨RX2, "takeDrop", "(I)I"⟩
abbrev cX2_takeFromNewRoll : ByteArray := prog_4_method_4_code
def yX2_takeFromNewRoll : MethodName := ⟨RX2, "takeFromNewRoll", "(I)I"⟩
def RX3 : String := "RollerLeaf$Pattern"
def TX3 : u_T := fun k => match k with
  | 0 => ("RollerLeaf$Pattern", "motif", "LRollerLeaf$Cells;", true)
  | 1 => ("RollerLeaf$Pattern", "symmetry", "I", true)
  | 2 => ("RollerLeaf$Pattern", "repeatColumns", "I", true)
  | _ => ("RollerLeaf$Pattern", "repeatRows", "I", true)
def tyX3 : Nat → FieldType := fun k => match k with
  | 0 => .object "RollerLeaf$Cells"
  | 1 => .int
  | 2 => .int
  | _ => .int
abbrev wsX30 : List Cond := u_ws RX3 TX3 4
theorem nmX3 : ∀ a, a < 4 → ∀ b, b < 4 → a ≠ b → (TX3 a).2.1 ≠ (TX3 b).2.1 := by decide +kernel
theorem tyX3_ok : ∀ k, k < 4 → parseFieldDescriptor (TX3 k).2.2.1 = some (tyX3 k) := by decide +kernel
abbrev cX3_init : ByteArray := prog_5_method_1_code
def yX3_init : MethodName := ⟨RX3, "<init>", "(III)V"⟩
abbrev cX3_colourAt : ByteArray := prog_5_method_2_code
def yX3_colourAt : MethodName := ⟨RX3, "colourAt", "(II)I"⟩
abbrev cX3_flipsColumns : ByteArray := prog_5_method_3_code
def yX3_flipsColumns : MethodName := ⟨RX3, "flipsColumns", "(ZZ)Z"⟩
abbrev cX3_flipsRows : ByteArray := prog_5_method_4_code
def yX3_flipsRows : MethodName := ⟨RX3, "flipsRows", "(ZZ)Z"⟩
abbrev cX3_leastMove : ByteArray := prog_5_method_5_code
def yX3_leastMove : MethodName := ⟨RX3, "leastMove", "(Z)I"⟩
abbrev cX3_staysWhenMoved : ByteArray := prog_5_method_6_code
def yX3_staysWhenMoved : MethodName := ⟨RX3, "staysWhenMoved", "(II)Z"⟩
abbrev cX3_drawn : ByteArray := prog_5_method_7_code
def yX3_drawn : MethodName := ⟨RX3, "drawn", "()LRollerLeaf$Cells;"⟩
def RX4 : String := "RollerLeaf$Roller"
def TX4 : u_T := fun k => match k with
  | 0 => ("RollerLeaf$Roller", "round", "I", true)
  | _ => ("RollerLeaf$Roller", "engraving", "LRollerLeaf$Cells;", true)
def tyX4 : Nat → FieldType := fun k => match k with
  | 0 => .int
  | _ => .object "RollerLeaf$Cells"
abbrev wsX40 : List Cond := u_ws RX4 TX4 2
theorem nmX4 : ∀ a, a < 2 → ∀ b, b < 2 → a ≠ b → (TX4 a).2.1 ≠ (TX4 b).2.1 := by decide +kernel
theorem tyX4_ok : ∀ k, k < 2 → parseFieldDescriptor (TX4 k).2.2.1 = some (tyX4 k) := by decide +kernel
abbrev cX4_init : ByteArray := prog_6_method_1_code
def yX4_init : MethodName := ⟨RX4, "<init>", "(ILRollerLeaf$Cells;)V"⟩
def RX5 : String := "RollerLeaf$Room"
def TX5 : u_T := fun k => match k with
  | 0 => ("RollerLeaf$Room", "walls", "[LRollerLeaf$Wall;", true)
  | 1 => ("RollerLeaf$Room", "rolls", "LRollerLeaf$OpenedRolls;", true)
  | 2 => ("RollerLeaf$Room", "wallCount", "I", false)
  | 3 => ("RollerLeaf$Room", "lot", "LRollerLeaf$Lot;", false)
  | _ => ("RollerLeaf$Room", "lotNumber", "I", false)
def tyX5 : Nat → FieldType := fun k => match k with
  | 0 => .array (.object "RollerLeaf$Wall")
  | 1 => .object "RollerLeaf$OpenedRolls"
  | 2 => .int
  | 3 => .object "RollerLeaf$Lot"
  | _ => .int
abbrev wsX50 : List Cond := u_ws RX5 TX5 5
theorem nmX5 : ∀ a, a < 5 → ∀ b, b < 5 → a ≠ b → (TX5 a).2.1 ≠ (TX5 b).2.1 := by decide +kernel
theorem tyX5_ok : ∀ k, k < 5 → parseFieldDescriptor (TX5 k).2.2.1 = some (tyX5 k) := by decide +kernel
abbrev cX5_init : ByteArray := prog_7_method_1_code
def yX5_init : MethodName := ⟨RX5, "<init>", "()V"⟩
abbrev cX5_isHung : ByteArray := prog_7_method_2_code
def yX5_isHung : MethodName := ⟨RX5, "isHung", "()Z"⟩
abbrev cX5_makeBare : ByteArray := prog_7_method_3_code
def yX5_makeBare : MethodName := ⟨RX5, "makeBare", "()V"⟩
abbrev cX5_addWall : ByteArray := prog_7_method_4_code
def yX5_addWall : MethodName := ⟨RX5, "addWall", "(II)I"⟩
abbrev cX5_bestPhase : ByteArray := prog_7_method_5_code
def yX5_bestPhase : MethodName := ⟨RX5, "bestPhase", "(LRollerLeaf$Lot;)I"⟩
abbrev cX5_cutAll : ByteArray := prog_7_method_6_code
def yX5_cutAll : MethodName := ⟨RX5, "cutAll", "(LRollerLeaf$Lot;I)Z"⟩
abbrev cX5_hangFrom : ByteArray := prog_7_method_7_code
def yX5_hangFrom : MethodName := ⟨RX5, "hangFrom", "(LRollerLeaf$Lot;II)I"⟩
abbrev cX5_lengthenFrom : ByteArray := prog_7_method_8_code
def yX5_lengthenFrom : MethodName := ⟨RX5, "lengthenFrom", "(LRollerLeaf$Lot;LRollerLeaf$Wall;I)Z"⟩
abbrev cX5_allDrops : ByteArray := prog_7_method_9_code
def yX5_allDrops : MethodName := ⟨RX5, "allDrops", "()I"⟩
abbrev cX5_waste : ByteArray := prog_7_method_10_code
def yX5_waste : MethodName := ⟨RX5, "waste", "()I"⟩
def RX6 : String := "RollerLeaf$Wall"
def TX6 : u_T := fun k => match k with
  | 0 => ("RollerLeaf$Wall", "height", "I", true)
  | 1 => ("RollerLeaf$Wall", "cuts", "[I", true)
  | _ => ("RollerLeaf$Wall", "drops", "I", false)
def tyX6 : Nat → FieldType := fun k => match k with
  | 0 => .int
  | 1 => .array .int
  | _ => .int
abbrev wsX60 : List Cond := u_ws RX6 TX6 3
theorem nmX6 : ∀ a, a < 3 → ∀ b, b < 3 → a ≠ b → (TX6 a).2.1 ≠ (TX6 b).2.1 := by decide +kernel
theorem tyX6_ok : ∀ k, k < 3 → parseFieldDescriptor (TX6 k).2.2.1 = some (tyX6 k) := by decide +kernel
abbrev cX6_init : ByteArray := prog_8_method_1_code
def yX6_init : MethodName := ⟨RX6, "<init>", "(II)V"⟩
abbrev cX6_takeDrops : ByteArray := prog_8_method_2_code
def yX6_takeDrops : MethodName := ⟨RX6, "takeDrops", "(LRollerLeaf$OpenedRolls;I)Z"⟩
def RX7 : String := "RollerLeaf"
def TX7 : u_T := fun k => match k with
  | 0 => ("RollerLeaf", "patterns", "[LRollerLeaf$Pattern;", true)
  | 1 => ("RollerLeaf", "patternCount", "I", false)
  | 2 => ("RollerLeaf", "rollers", "[LRollerLeaf$Roller;", true)
  | 3 => ("RollerLeaf", "rollerCount", "I", false)
  | 4 => ("RollerLeaf", "lots", "[LRollerLeaf$Lot;", true)
  | 5 => ("RollerLeaf", "lotCount", "I", false)
  | 6 => ("RollerLeaf", "rooms", "[LRollerLeaf$Room;", true)
  | _ => ("RollerLeaf", "lostRows", "I", false)
def tyX7 : Nat → FieldType := fun k => match k with
  | 0 => .array (.object "RollerLeaf$Pattern")
  | 1 => .int
  | 2 => .array (.object "RollerLeaf$Roller")
  | 3 => .int
  | 4 => .array (.object "RollerLeaf$Lot")
  | 5 => .int
  | 6 => .array (.object "RollerLeaf$Room")
  | _ => .int
abbrev wsX70 : List Cond := u_ws RX7 TX7 8
theorem nmX7 : ∀ a, a < 8 → ∀ b, b < 8 → a ≠ b → (TX7 a).2.1 ≠ (TX7 b).2.1 := by decide +kernel
theorem tyX7_ok : ∀ k, k < 8 → parseFieldDescriptor (TX7 k).2.2.1 = some (tyX7 k) := by decide +kernel
abbrev cX7_init : ByteArray := prog_1_method_1_code
def yX7_init : MethodName := ⟨RX7, "<init>", "()V"⟩
abbrev cX7_pattern : ByteArray := prog_1_method_2_code
def yX7_pattern : MethodName := ⟨RX7, "pattern", "(III)I"⟩
abbrev cX7_paint : ByteArray := prog_1_method_3_code
def yX7_paint : MethodName := ⟨RX7, "paint", "(IIII)I"⟩
abbrev cX7_colour : ByteArray := prog_1_method_4_code
def yX7_colour : MethodName := ⟨RX7, "colour", "(III)I"⟩
abbrev cX7_repeat : ByteArray := prog_1_method_5_code
def yX7_repeat : MethodName := ⟨RX7, "repeat", "(IZ)I"⟩
abbrev cX7_repeatAnew : ByteArray := prog_1_method_6_code
def yX7_repeatAnew : MethodName := ⟨RX7, "repeatAnew", "(IZ)I"⟩
abbrev cX7_roller : ByteArray := prog_1_method_7_code
def yX7_roller : MethodName := ⟨RX7, "roller", "(II)I"⟩
abbrev cX7_lot : ByteArray := prog_1_method_8_code
def yX7_lot : MethodName := ⟨RX7, "lot", "(IIII)I"⟩
abbrev cX7_lotOf : ByteArray := prog_1_method_9_code
def yX7_lotOf : MethodName := ⟨RX7, "lotOf", "(II)I"⟩
abbrev cX7_wall : ByteArray := prog_1_method_10_code
def yX7_wall : MethodName := ⟨RX7, "wall", "(III)I"⟩
abbrev cX7_hang : ByteArray := prog_1_method_11_code
def yX7_hang : MethodName := ⟨RX7, "hang", "(II)I"⟩
abbrev cX7_lengthen : ByteArray := prog_1_method_12_code
def yX7_lengthen : MethodName := ⟨RX7, "lengthen", "(III)I"⟩
abbrev cX7_strip : ByteArray := prog_1_method_13_code
def yX7_strip : MethodName := ⟨RX7, "strip", "(I)I"⟩
abbrev cX7_room : ByteArray := prog_1_method_14_code
def yX7_room : MethodName := ⟨RX7, "room", "(II)I"⟩
abbrev cX7_cut : ByteArray := prog_1_method_15_code
def yX7_cut : MethodName := ⟨RX7, "cut", "(III)I"⟩
abbrev cX7_seen : ByteArray := prog_1_method_16_code
def yX7_seen : MethodName := ⟨RX7, "seen", "(IIII)I"⟩
abbrev cX7_lost : ByteArray := prog_1_method_17_code
def yX7_lost : MethodName := ⟨RX7, "lost", "()I"⟩
abbrev cX7_patternAt : ByteArray := prog_1_method_18_code
def yX7_patternAt : MethodName := ⟨RX7, "patternAt", "(I)LRollerLeaf$Pattern;"⟩
abbrev cX7_rollerAt : ByteArray := prog_1_method_19_code
def yX7_rollerAt : MethodName := ⟨RX7, "rollerAt", "(I)LRollerLeaf$Roller;"⟩
abbrev cX7_lotAt : ByteArray := prog_1_method_20_code
def yX7_lotAt : MethodName := ⟨RX7, "lotAt", "(I)LRollerLeaf$Lot;"⟩
abbrev cX7_roomAt : ByteArray := prog_1_method_21_code
def yX7_roomAt : MethodName := ⟨RX7, "roomAt", "(I)LRollerLeaf$Room;"⟩
abbrev cX7_wallAt : ByteArray := prog_1_method_22_code
def yX7_wallAt : MethodName := ⟨RX7, "wallAt", "(LRollerLeaf$Room;I)LRollerLeaf$Wall;"⟩
abbrev cX7_requireWithin : ByteArray := prog_1_method_23_code
def yX7_requireWithin : MethodName := ⟨RX7, "requireWithin", "(III)V"⟩
abbrev cX7_lose : ByteArray := prog_1_method_24_code
def yX7_lose : MethodName := ⟨RX7, "lose", "(LRollerLeaf$Lot;I)V"⟩
abbrev cX7_wrapped : ByteArray := prog_1_method_25_code
def yX7_wrapped : MethodName := ⟨RX7, "wrapped", "(II)I"⟩
def RX8 : String := "RollerLeafModel"
def TX8 : u_T := fun k => match k with
  | 0 => ("RollerLeafModel", "refusal", "I", false)
  | 1 => ("RollerLeafModel", "patterns", "I", false)
  | 2 => ("RollerLeafModel", "wide", "[I", true)
  | 3 => ("RollerLeafModel", "high", "[I", true)
  | 4 => ("RollerLeafModel", "sort", "[I", true)
  | 5 => ("RollerLeafModel", "motif", "[I", true)
  | 6 => ("RollerLeafModel", "rollers", "I", false)
  | 7 => ("RollerLeafModel", "patternOf", "[I", true)
  | 8 => ("RollerLeafModel", "round", "[I", true)
  | 9 => ("RollerLeafModel", "engraved", "[I", true)
  | 10 => ("RollerLeafModel", "lots", "I", false)
  | 11 => ("RollerLeafModel", "rollerOf", "[I", true)
  | 12 => ("RollerLeafModel", "dye", "[I", true)
  | 13 => ("RollerLeafModel", "rolls", "[I", true)
  | 14 => ("RollerLeafModel", "length", "[I", true)
  | 15 => ("RollerLeafModel", "walls", "[I", true)
  | 16 => ("RollerLeafModel", "drops", "[I", true)
  | 17 => ("RollerLeafModel", "height", "[I", true)
  | 18 => ("RollerLeafModel", "lotOf", "[I", true)
  | 19 => ("RollerLeafModel", "phase", "[I", true)
  | 20 => ("RollerLeafModel", "opened", "[I", true)
  | 21 => ("RollerLeafModel", "ends", "[I", true)
  | 22 => ("RollerLeafModel", "tried", "[I", true)
  | 23 => ("RollerLeafModel", "manyTried", "I", false)
  | 24 => ("RollerLeafModel", "cutRoll", "I", false)
  | 25 => ("RollerLeafModel", "cutRow", "I", false)
  | 26 => ("RollerLeafModel", "cutRolls", "[I", true)
  | 27 => ("RollerLeafModel", "cutRows", "[I", true)
  | _ => ("RollerLeafModel", "lost", "I", false)
def tyX8 : Nat → FieldType := fun k => match k with
  | 0 => .int
  | 1 => .int
  | 2 => .array .int
  | 3 => .array .int
  | 4 => .array .int
  | 5 => .array .int
  | 6 => .int
  | 7 => .array .int
  | 8 => .array .int
  | 9 => .array .int
  | 10 => .int
  | 11 => .array .int
  | 12 => .array .int
  | 13 => .array .int
  | 14 => .array .int
  | 15 => .array .int
  | 16 => .array .int
  | 17 => .array .int
  | 18 => .array .int
  | 19 => .array .int
  | 20 => .array .int
  | 21 => .array .int
  | 22 => .array .int
  | 23 => .int
  | 24 => .int
  | 25 => .int
  | 26 => .array .int
  | 27 => .array .int
  | _ => .int
abbrev wsX80 : List Cond := u_ws RX8 TX8 29
theorem nmX8 : ∀ a, a < 29 → ∀ b, b < 29 → a ≠ b → (TX8 a).2.1 ≠ (TX8 b).2.1 := by decide +kernel
theorem tyX8_ok : ∀ k, k < 29 → parseFieldDescriptor (TX8 k).2.2.1 = some (tyX8 k) := by decide +kernel
abbrev cX8_init : ByteArray := prog_10_method_1_code
def yX8_init : MethodName := ⟨RX8, "<init>", "()V"⟩
abbrev cX8_thrown : ByteArray := prog_10_method_2_code
def yX8_thrown : MethodName := ⟨RX8, "thrown", "()I"⟩
abbrev cX8_refused : ByteArray := prog_10_method_3_code
def yX8_refused : MethodName := ⟨RX8, "refused", "(I)Z"⟩
abbrev cX8_is : ByteArray := prog_10_method_4_code
def yX8_is : MethodName := ⟨RX8, "is", "(III)Z"⟩
abbrev cX8_isPattern : ByteArray := prog_10_method_5_code
def yX8_isPattern : MethodName := ⟨RX8, "isPattern", "(I)Z"⟩
abbrev cX8_pattern : ByteArray := prog_10_method_6_code
def yX8_pattern : MethodName := ⟨RX8, "pattern", "(III)I"⟩
abbrev cX8_paint : ByteArray := prog_10_method_7_code
def yX8_paint : MethodName := ⟨RX8, "paint", "(IIII)I"⟩
abbrev cX8_columns : ByteArray := prog_10_method_8_code
def yX8_columns : MethodName := ⟨RX8, "columns", "(I)I"⟩
abbrev cX8_rows : ByteArray := prog_10_method_9_code
def yX8_rows : MethodName := ⟨RX8, "rows", "(I)I"⟩
abbrev cX8_cell : ByteArray := prog_10_method_10_code
def yX8_cell : MethodName := ⟨RX8, "cell", "(III)I"⟩
abbrev cX8_modulo : ByteArray := prog_10_method_11_code
def yX8_modulo : MethodName := ⟨RX8, "modulo", "(II)I"⟩
abbrev cX8_colourAt : ByteArray := prog_10_method_12_code
def yX8_colourAt : MethodName := ⟨RX8, "colourAt", "(III)I"⟩
abbrev cX8_colour : ByteArray := prog_10_method_13_code
def yX8_colour : MethodName := ⟨RX8, "colour", "(III)I"⟩
abbrev cX8_repeat : ByteArray := prog_10_method_14_code
def yX8_repeat : MethodName := ⟨RX8, "repeat", "(IZ)I"⟩
abbrev cX8_repeatAnew : ByteArray := prog_10_method_15_code
def yX8_repeatAnew : MethodName := ⟨RX8, "repeatAnew", "(IZ)I"⟩
abbrev cX8_holds : ByteArray := prog_10_method_16_code
def yX8_holds : MethodName := ⟨RX8, "holds", "(III)Z"⟩
abbrev cX8_roller : ByteArray := prog_10_method_17_code
def yX8_roller : MethodName := ⟨RX8, "roller", "(II)I"⟩
abbrev cX8_lot : ByteArray := prog_10_method_18_code
def yX8_lot : MethodName := ⟨RX8, "lot", "(IIII)I"⟩
abbrev cX8_lotOf : ByteArray := prog_10_method_19_code
def yX8_lotOf : MethodName := ⟨RX8, "lotOf", "(II)I"⟩
abbrev cX8_rowsOfLot : ByteArray := prog_10_method_20_code
def yX8_rowsOfLot : MethodName := ⟨RX8, "rowsOfLot", "(I)I"⟩
abbrev cX8_isRoom : ByteArray := prog_10_method_21_code
def yX8_isRoom : MethodName := ⟨RX8, "isRoom", "(I)Z"⟩
abbrev cX8_isHung : ByteArray := prog_10_method_22_code
def yX8_isHung : MethodName := ⟨RX8, "isHung", "(I)Z"⟩
abbrev cX8_wall : ByteArray := prog_10_method_23_code
def yX8_wall : MethodName := ⟨RX8, "wall", "(III)I"⟩
abbrev cX8_give : ByteArray := prog_10_method_24_code
def yX8_give : MethodName := ⟨RX8, "give", "(IIII)Z"⟩
abbrev cX8_cutAll : ByteArray := prog_10_method_25_code
def yX8_cutAll : MethodName := ⟨RX8, "cutAll", "(IIIZ)I"⟩
abbrev cX8_hang : ByteArray := prog_10_method_26_code
def yX8_hang : MethodName := ⟨RX8, "hang", "(II)I"⟩
abbrev cX8_keep : ByteArray := prog_10_method_27_code
def yX8_keep : MethodName := ⟨RX8, "keep", "(I)V"⟩
abbrev cX8_lose : ByteArray := prog_10_method_28_code
def yX8_lose : MethodName := ⟨RX8, "lose", "(I)V"⟩
abbrev cX8_isWall : ByteArray := prog_10_method_29_code
def yX8_isWall : MethodName := ⟨RX8, "isWall", "(II)Z"⟩
abbrev cX8_lengthen : ByteArray := prog_10_method_30_code
def yX8_lengthen : MethodName := ⟨RX8, "lengthen", "(III)I"⟩
abbrev cX8_strip : ByteArray := prog_10_method_31_code
def yX8_strip : MethodName := ⟨RX8, "strip", "(I)I"⟩
abbrev cX8_sum : ByteArray := prog_10_method_32_code
def yX8_sum : MethodName := ⟨RX8, "sum", "(IZ)I"⟩
abbrev cX8_room : ByteArray := prog_10_method_33_code
def yX8_room : MethodName := ⟨RX8, "room", "(II)I"⟩
abbrev cX8_cut : ByteArray := prog_10_method_34_code
def yX8_cut : MethodName := ⟨RX8, "cut", "(III)I"⟩
abbrev cX8_seen : ByteArray := prog_10_method_35_code
def yX8_seen : MethodName := ⟨RX8, "seen", "(IIII)I"⟩
abbrev cX8_lost : ByteArray := prog_10_method_36_code
def yX8_lost : MethodName := ⟨RX8, "lost", "()I"⟩
def RJ9 : String := "java/lang/Math"
def TJ9 : u_T := fun k => match k with
  | _ => ("", "", "", false)
def tyJ9 : Nat → FieldType := fun k => match k with
  | _ => .int
abbrev wsJ90 : List Cond := u_ws RJ9 TJ9 0
theorem nmJ9 : ∀ a, a < 0 → ∀ b, b < 0 → a ≠ b → (TJ9 a).2.1 ≠ (TJ9 b).2.1 := by decide +kernel
theorem tyJ9_ok : ∀ k, k < 0 → parseFieldDescriptor (TJ9 k).2.2.1 = some (tyJ9 k) := by decide +kernel
abbrev cJ9_max_7cf53 : ByteArray := prog_15_method_65_code
def yJ9_max_7cf53 : MethodName := ⟨RJ9, "max", "(II)I"⟩
def RJ0 : String := "java/lang/String"
def TJ0 : u_T := fun k => match k with
  | _ => ("", "", "", false)
def tyJ0 : Nat → FieldType := fun k => match k with
  | _ => .int
abbrev wsJ00 : List Cond := u_ws RJ0 TJ0 0
theorem nmJ0 : ∀ a, a < 0 → ∀ b, b < 0 → a ≠ b → (TJ0 a).2.1 ≠ (TJ0 b).2.1 := by decide +kernel
theorem tyJ0_ok : ∀ k, k < 0 → parseFieldDescriptor (TJ0 k).2.2.1 = some (tyJ0 k) := by decide +kernel
def RL : String := "RollerLeafLaw"
abbrev cL_pattern : ByteArray := method_3_code
def yL_pattern : MethodName := ⟨RL, "pattern", "(LRollerLeaf;III[J)I"⟩
abbrev cL_paint : ByteArray := method_4_code
def yL_paint : MethodName := ⟨RL, "paint", "(LRollerLeaf;IIII[J)I"⟩
abbrev cL_colour : ByteArray := method_5_code
def yL_colour : MethodName := ⟨RL, "colour", "(LRollerLeaf;III[J)I"⟩
abbrev cL_repeat : ByteArray := method_6_code
def yL_repeat : MethodName := ⟨RL, "repeat", "(LRollerLeaf;IZ[J)I"⟩
abbrev cL_repeatAnew : ByteArray := method_7_code
def yL_repeatAnew : MethodName := ⟨RL, "repeatAnew", "(LRollerLeaf;IZ[J)I"⟩
abbrev cL_roller : ByteArray := method_8_code
def yL_roller : MethodName := ⟨RL, "roller", "(LRollerLeaf;II[J)I"⟩
abbrev cL_lot : ByteArray := method_9_code
def yL_lot : MethodName := ⟨RL, "lot", "(LRollerLeaf;IIII[J)I"⟩
abbrev cL_lotOf : ByteArray := method_10_code
def yL_lotOf : MethodName := ⟨RL, "lotOf", "(LRollerLeaf;II[J)I"⟩
abbrev cL_wall : ByteArray := method_11_code
def yL_wall : MethodName := ⟨RL, "wall", "(LRollerLeaf;III[J)I"⟩
abbrev cL_hang : ByteArray := method_12_code
def yL_hang : MethodName := ⟨RL, "hang", "(LRollerLeaf;II[J)I"⟩
abbrev cL_lengthen : ByteArray := method_13_code
def yL_lengthen : MethodName := ⟨RL, "lengthen", "(LRollerLeaf;III[J)I"⟩
abbrev cL_strip : ByteArray := method_14_code
def yL_strip : MethodName := ⟨RL, "strip", "(LRollerLeaf;I[J)I"⟩
abbrev cL_room : ByteArray := method_15_code
def yL_room : MethodName := ⟨RL, "room", "(LRollerLeaf;II[J)I"⟩
abbrev cL_cut : ByteArray := method_16_code
def yL_cut : MethodName := ⟨RL, "cut", "(LRollerLeaf;III[J)I"⟩
abbrev cL_seen : ByteArray := method_17_code
def yL_seen : MethodName := ⟨RL, "seen", "(LRollerLeaf;IIII[J)I"⟩
abbrev cL_law : ByteArray := code
def yL_law : MethodName := ⟨RL, "law", "([I)Z"⟩
abbrev vwCl : List vw_C := [(RX0, TX0, 3), (RX1, TX1, 5), (RX2, TX2, 6), (RX3, TX3, 4), (RX4, TX4, 2), (RX5, TX5, 5), (RX6, TX6, 3), (RX7, TX7, 8), (RX8, TX8, 29)]
theorem dX0_init_0 : decode cX0_init 0 = .ok (.aload_n 0, 1) := by decide +kernel
theorem dX0_init_1 : decode cX0_init 1 = .ok (.invokespecial 3, 3) := by decide +kernel
theorem dX0_init_4 : decode cX0_init 4 = .ok (.aload_n 0, 1) := by decide +kernel
theorem dX0_init_5 : decode cX0_init 5 = .ok (.bipush 100, 2) := by decide +kernel
theorem dX0_init_7 : decode cX0_init 7 = .ok (.newarray .int, 2) := by decide +kernel
theorem dX0_init_9 : decode cX0_init 9 = .ok (.putfield 9, 3) := by decide +kernel
theorem dX0_init_12 : decode cX0_init 12 = .ok (.aload_n 0, 1) := by decide +kernel
theorem dX0_init_13 : decode cX0_init 13 = .ok (.iload_n 1, 1) := by decide +kernel
theorem dX0_init_14 : decode cX0_init 14 = .ok (.putfield 15, 3) := by decide +kernel
theorem dX0_init_17 : decode cX0_init 17 = .ok (.aload_n 0, 1) := by decide +kernel
theorem dX0_init_18 : decode cX0_init 18 = .ok (.iload_n 2, 1) := by decide +kernel
theorem dX0_init_19 : decode cX0_init 19 = .ok (.putfield 19, 3) := by decide +kernel
theorem dX0_init_22 : decode cX0_init 22 = .ok (.return_, 1) := by decide +kernel
theorem dX0_holds_0 : decode cX0_holds 0 = .ok (.iload_n 1, 1) := by decide +kernel
theorem dX0_holds_1 : decode cX0_holds 1 = .ok (.ifCond .lt 27, 3) := by decide +kernel
theorem dX0_holds_4 : decode cX0_holds 4 = .ok (.iload_n 1, 1) := by decide +kernel
theorem dX0_holds_5 : decode cX0_holds 5 = .ok (.aload_n 0, 1) := by decide +kernel
theorem dX0_holds_6 : decode cX0_holds 6 = .ok (.getfield 15, 3) := by decide +kernel
theorem dX0_holds_9 : decode cX0_holds 9 = .ok (.if_icmp .ge 19, 3) := by decide +kernel
theorem dX0_holds_12 : decode cX0_holds 12 = .ok (.iload_n 2, 1) := by decide +kernel
theorem dX0_holds_13 : decode cX0_holds 13 = .ok (.ifCond .lt 15, 3) := by decide +kernel
theorem dX0_holds_16 : decode cX0_holds 16 = .ok (.iload_n 2, 1) := by decide +kernel
theorem dX0_holds_17 : decode cX0_holds 17 = .ok (.aload_n 0, 1) := by decide +kernel
theorem dX0_holds_18 : decode cX0_holds 18 = .ok (.getfield 19, 3) := by decide +kernel
theorem dX0_holds_21 : decode cX0_holds 21 = .ok (.if_icmp .ge 7, 3) := by decide +kernel
theorem dX0_holds_24 : decode cX0_holds 24 = .ok (.iconst 1, 1) := by decide +kernel
theorem dX0_holds_25 : decode cX0_holds 25 = .ok (.goto 4, 3) := by decide +kernel
theorem dX0_holds_28 : decode cX0_holds 28 = .ok (.iconst 0, 1) := by decide +kernel
theorem dX0_holds_29 : decode cX0_holds 29 = .ok (.ireturn, 1) := by decide +kernel
theorem dX0_colourAt_0 : decode cX0_colourAt 0 = .ok (.aload_n 0, 1) := by decide +kernel
theorem dX0_colourAt_1 : decode cX0_colourAt 1 = .ok (.iload_n 1, 1) := by decide +kernel
theorem dX0_colourAt_2 : decode cX0_colourAt 2 = .ok (.iload_n 2, 1) := by decide +kernel
theorem dX0_colourAt_3 : decode cX0_colourAt 3 = .ok (.invokevirtual 22, 3) := by decide +kernel
theorem dX0_colourAt_6 : decode cX0_colourAt 6 = .ok (.istore_n 3, 1) := by decide +kernel
theorem dX0_colourAt_7 : decode cX0_colourAt 7 = .ok (.iload_n 3, 1) := by decide +kernel
theorem dX0_colourAt_8 : decode cX0_colourAt 8 = .ok (.ifCond .lt 12, 3) := by decide +kernel
theorem dX0_colourAt_11 : decode cX0_colourAt 11 = .ok (.iload_n 3, 1) := by decide +kernel
theorem dX0_colourAt_12 : decode cX0_colourAt 12 = .ok (.aload_n 0, 1) := by decide +kernel
theorem dX0_colourAt_13 : decode cX0_colourAt 13 = .ok (.getfield 9, 3) := by decide +kernel
theorem dX0_colourAt_16 : decode cX0_colourAt 16 = .ok (.arraylength, 1) := by decide +kernel
theorem dX0_colourAt_17 : decode cX0_colourAt 17 = .ok (.if_icmp .lt 7, 3) := by decide +kernel
theorem dX0_colourAt_20 : decode cX0_colourAt 20 = .ok (.iconst (-1), 1) := by decide +kernel
theorem dX0_colourAt_21 : decode cX0_colourAt 21 = .ok (.goto 9, 3) := by decide +kernel
theorem dX0_colourAt_24 : decode cX0_colourAt 24 = .ok (.aload_n 0, 1) := by decide +kernel
theorem dX0_colourAt_25 : decode cX0_colourAt 25 = .ok (.getfield 9, 3) := by decide +kernel
theorem dX0_colourAt_28 : decode cX0_colourAt 28 = .ok (.iload_n 3, 1) := by decide +kernel
theorem dX0_colourAt_29 : decode cX0_colourAt 29 = .ok (.iaload, 1) := by decide +kernel
theorem dX0_colourAt_30 : decode cX0_colourAt 30 = .ok (.ireturn, 1) := by decide +kernel
theorem dX0_put_0 : decode cX0_put 0 = .ok (.aload_n 0, 1) := by decide +kernel
theorem dX0_put_1 : decode cX0_put 1 = .ok (.iload_n 1, 1) := by decide +kernel
theorem dX0_put_2 : decode cX0_put 2 = .ok (.iload_n 2, 1) := by decide +kernel
theorem dX0_put_3 : decode cX0_put 3 = .ok (.invokevirtual 22, 3) := by decide +kernel
theorem dX0_put_6 : decode cX0_put 6 = .ok (.istore 4, 2) := by decide +kernel
theorem dX0_put_8 : decode cX0_put 8 = .ok (.iload 4, 2) := by decide +kernel
theorem dX0_put_10 : decode cX0_put 10 = .ok (.ifCond .lt 21, 3) := by decide +kernel
theorem dX0_put_13 : decode cX0_put 13 = .ok (.iload 4, 2) := by decide +kernel
theorem dX0_put_15 : decode cX0_put 15 = .ok (.aload_n 0, 1) := by decide +kernel
theorem dX0_put_16 : decode cX0_put 16 = .ok (.getfield 9, 3) := by decide +kernel
theorem dX0_put_19 : decode cX0_put 19 = .ok (.arraylength, 1) := by decide +kernel
theorem dX0_put_20 : decode cX0_put 20 = .ok (.if_icmp .ge 11, 3) := by decide +kernel
theorem dX0_put_23 : decode cX0_put 23 = .ok (.aload_n 0, 1) := by decide +kernel
theorem dX0_put_24 : decode cX0_put 24 = .ok (.getfield 9, 3) := by decide +kernel
theorem dX0_put_27 : decode cX0_put 27 = .ok (.iload 4, 2) := by decide +kernel
theorem dX0_put_29 : decode cX0_put 29 = .ok (.iload_n 3, 1) := by decide +kernel
theorem dX0_put_30 : decode cX0_put 30 = .ok (.iastore, 1) := by decide +kernel
theorem dX0_put_31 : decode cX0_put 31 = .ok (.return_, 1) := by decide +kernel
theorem dX0_place_0 : decode cX0_place 0 = .ok (.iload_n 2, 1) := by decide +kernel
theorem dX0_place_1 : decode cX0_place 1 = .ok (.aload_n 0, 1) := by decide +kernel
theorem dX0_place_2 : decode cX0_place 2 = .ok (.getfield 19, 3) := by decide +kernel
theorem dX0_place_5 : decode cX0_place 5 = .ok (.invokestatic 26, 3) := by decide +kernel
theorem dX0_place_8 : decode cX0_place 8 = .ok (.aload_n 0, 1) := by decide +kernel
theorem dX0_place_9 : decode cX0_place 9 = .ok (.getfield 15, 3) := by decide +kernel
theorem dX0_place_12 : decode cX0_place 12 = .ok (.imul, 1) := by decide +kernel
theorem dX0_place_13 : decode cX0_place 13 = .ok (.iload_n 1, 1) := by decide +kernel
theorem dX0_place_14 : decode cX0_place 14 = .ok (.aload_n 0, 1) := by decide +kernel
theorem dX0_place_15 : decode cX0_place 15 = .ok (.getfield 15, 3) := by decide +kernel
theorem dX0_place_18 : decode cX0_place 18 = .ok (.invokestatic 26, 3) := by decide +kernel
theorem dX0_place_21 : decode cX0_place 21 = .ok (.iadd, 1) := by decide +kernel
theorem dX0_place_22 : decode cX0_place 22 = .ok (.ireturn, 1) := by decide +kernel
theorem dX1_init_0 : decode cX1_init 0 = .ok (.aload_n 0, 1) := by decide +kernel
theorem dX1_init_1 : decode cX1_init 1 = .ok (.invokespecial 1, 3) := by decide +kernel
theorem dX1_init_4 : decode cX1_init 4 = .ok (.aload_n 0, 1) := by decide +kernel
theorem dX1_init_5 : decode cX1_init 5 = .ok (.aload_n 1, 1) := by decide +kernel
theorem dX1_init_6 : decode cX1_init 6 = .ok (.putfield 7, 3) := by decide +kernel
theorem dX1_init_9 : decode cX1_init 9 = .ok (.aload_n 0, 1) := by decide +kernel
theorem dX1_init_10 : decode cX1_init 10 = .ok (.iload_n 2, 1) := by decide +kernel
theorem dX1_init_11 : decode cX1_init 11 = .ok (.putfield 13, 3) := by decide +kernel
theorem dX1_init_14 : decode cX1_init 14 = .ok (.aload_n 0, 1) := by decide +kernel
theorem dX1_init_15 : decode cX1_init 15 = .ok (.iload_n 3, 1) := by decide +kernel
theorem dX1_init_16 : decode cX1_init 16 = .ok (.putfield 17, 3) := by decide +kernel
theorem dX1_init_19 : decode cX1_init 19 = .ok (.aload_n 0, 1) := by decide +kernel
theorem dX1_init_20 : decode cX1_init 20 = .ok (.iload 4, 2) := by decide +kernel
theorem dX1_init_22 : decode cX1_init 22 = .ok (.putfield 20, 3) := by decide +kernel
theorem dX1_init_25 : decode cX1_init 25 = .ok (.aload_n 0, 1) := by decide +kernel
theorem dX1_init_26 : decode cX1_init 26 = .ok (.iload 5, 2) := by decide +kernel
theorem dX1_init_28 : decode cX1_init 28 = .ok (.putfield 23, 3) := by decide +kernel
theorem dX1_init_31 : decode cX1_init 31 = .ok (.return_, 1) := by decide +kernel
theorem dX1_roundsOfARoll_0 : decode cX1_roundsOfARoll 0 = .ok (.aload_n 0, 1) := by decide +kernel
theorem dX1_roundsOfARoll_1 : decode cX1_roundsOfARoll 1 = .ok (.getfield 7, 3) := by decide +kernel
theorem dX1_roundsOfARoll_4 : decode cX1_roundsOfARoll 4 = .ok (.getfield 26, 3) := by decide +kernel
theorem dX1_roundsOfARoll_7 : decode cX1_roundsOfARoll 7 = .ok (.istore_n 1, 1) := by decide +kernel
theorem dX1_roundsOfARoll_8 : decode cX1_roundsOfARoll 8 = .ok (.iload_n 1, 1) := by decide +kernel
theorem dX1_roundsOfARoll_9 : decode cX1_roundsOfARoll 9 = .ok (.iconst 1, 1) := by decide +kernel
theorem dX1_roundsOfARoll_10 : decode cX1_roundsOfARoll 10 = .ok (.if_icmp .ge 7, 3) := by decide +kernel
theorem dX1_roundsOfARoll_13 : decode cX1_roundsOfARoll 13 = .ok (.iconst 0, 1) := by decide +kernel
theorem dX1_roundsOfARoll_14 : decode cX1_roundsOfARoll 14 = .ok (.goto 13, 3) := by decide +kernel
theorem dX1_roundsOfARoll_17 : decode cX1_roundsOfARoll 17 = .ok (.aload_n 0, 1) := by decide +kernel
theorem dX1_roundsOfARoll_18 : decode cX1_roundsOfARoll 18 = .ok (.getfield 23, 3) := by decide +kernel
theorem dX1_roundsOfARoll_21 : decode cX1_roundsOfARoll 21 = .ok (.iload_n 1, 1) := by decide +kernel
theorem dX1_roundsOfARoll_22 : decode cX1_roundsOfARoll 22 = .ok (.iadd, 1) := by decide +kernel
theorem dX1_roundsOfARoll_23 : decode cX1_roundsOfARoll 23 = .ok (.iconst 1, 1) := by decide +kernel
theorem dX1_roundsOfARoll_24 : decode cX1_roundsOfARoll 24 = .ok (.isub, 1) := by decide +kernel
theorem dX1_roundsOfARoll_25 : decode cX1_roundsOfARoll 25 = .ok (.iload_n 1, 1) := by decide +kernel
theorem dX1_roundsOfARoll_26 : decode cX1_roundsOfARoll 26 = .ok (.idiv, 1) := by decide +kernel
theorem dX1_roundsOfARoll_27 : decode cX1_roundsOfARoll 27 = .ok (.ireturn, 1) := by decide +kernel
theorem dX2_init_0 : decode cX2_init 0 = .ok (.aload_n 0, 1) := by decide +kernel
theorem dX2_init_1 : decode cX2_init 1 = .ok (.invokespecial 3, 3) := by decide +kernel
theorem dX2_init_4 : decode cX2_init 4 = .ok (.aload_n 0, 1) := by decide +kernel
theorem dX2_init_5 : decode cX2_init 5 = .ok (.bipush 20, 2) := by decide +kernel
theorem dX2_init_7 : decode cX2_init 7 = .ok (.newarray .int, 2) := by decide +kernel
theorem dX2_init_9 : decode cX2_init 9 = .ok (.putfield 9, 3) := by decide +kernel
theorem dX2_init_12 : decode cX2_init 12 = .ok (.return_, 1) := by decide +kernel
theorem dX2_beginAnew_0 : decode cX2_beginAnew 0 = .ok (.aload_n 0, 1) := by decide +kernel
theorem dX2_beginAnew_1 : decode cX2_beginAnew 1 = .ok (.iconst 0, 1) := by decide +kernel
theorem dX2_beginAnew_2 : decode cX2_beginAnew 2 = .ok (.putfield 15, 3) := by decide +kernel
theorem dX2_beginAnew_5 : decode cX2_beginAnew 5 = .ok (.aload_n 0, 1) := by decide +kernel
theorem dX2_beginAnew_6 : decode cX2_beginAnew 6 = .ok (.aload_n 1, 1) := by decide +kernel
theorem dX2_beginAnew_7 : decode cX2_beginAnew 7 = .ok (.getfield 19, 3) := by decide +kernel
theorem dX2_beginAnew_10 : decode cX2_beginAnew 10 = .ok (.putfield 24, 3) := by decide +kernel
theorem dX2_beginAnew_13 : decode cX2_beginAnew 13 = .ok (.aload_n 0, 1) := by decide +kernel
theorem dX2_beginAnew_14 : decode cX2_beginAnew 14 = .ok (.aload_n 1, 1) := by decide +kernel
theorem dX2_beginAnew_15 : decode cX2_beginAnew 15 = .ok (.getfield 27, 3) := by decide +kernel
theorem dX2_beginAnew_18 : decode cX2_beginAnew 18 = .ok (.putfield 30, 3) := by decide +kernel
theorem dX2_beginAnew_21 : decode cX2_beginAnew 21 = .ok (.aload_n 0, 1) := by decide +kernel
theorem dX2_beginAnew_22 : decode cX2_beginAnew 22 = .ok (.aload_n 1, 1) := by decide +kernel
theorem dX2_beginAnew_23 : decode cX2_beginAnew 23 = .ok (.getfield 31, 3) := by decide +kernel
theorem dX2_beginAnew_26 : decode cX2_beginAnew 26 = .ok (.getfield 35, 3) := by decide +kernel
theorem dX2_beginAnew_29 : decode cX2_beginAnew 29 = .ok (.getfield 41, 3) := by decide +kernel
theorem dX2_beginAnew_32 : decode cX2_beginAnew 32 = .ok (.putfield 46, 3) := by decide +kernel
theorem dX2_beginAnew_35 : decode cX2_beginAnew 35 = .ok (.aload_n 0, 1) := by decide +kernel
theorem dX2_beginAnew_36 : decode cX2_beginAnew 36 = .ok (.iload_n 2, 1) := by decide +kernel
theorem dX2_beginAnew_37 : decode cX2_beginAnew 37 = .ok (.putfield 49, 3) := by decide +kernel
theorem dX2_beginAnew_40 : decode cX2_beginAnew 40 = .ok (.return_, 1) := by decide +kernel
theorem dX2_takeDrop_0 : decode cX2_takeDrop 0 = .ok (.iconst 0, 1) := by decide +kernel
theorem dX2_takeDrop_1 : decode cX2_takeDrop 1 = .ok (.istore_n 2, 1) := by decide +kernel
theorem dX2_takeDrop_2 : decode cX2_takeDrop 2 = .ok (.iload_n 2, 1) := by decide +kernel
theorem dX2_takeDrop_3 : decode cX2_takeDrop 3 = .ok (.aload_n 0, 1) := by decide +kernel
theorem dX2_takeDrop_4 : decode cX2_takeDrop 4 = .ok (.getfield 15, 3) := by decide +kernel
theorem dX2_takeDrop_7 : decode cX2_takeDrop 7 = .ok (.if_icmp .ge 71, 3) := by decide +kernel
theorem dX2_takeDrop_10 : decode cX2_takeDrop 10 = .ok (.iload_n 2, 1) := by decide +kernel
theorem dX2_takeDrop_11 : decode cX2_takeDrop 11 = .ok (.aload_n 0, 1) := by decide +kernel
theorem dX2_takeDrop_12 : decode cX2_takeDrop 12 = .ok (.getfield 9, 3) := by decide +kernel
theorem dX2_takeDrop_15 : decode cX2_takeDrop 15 = .ok (.arraylength, 1) := by decide +kernel
theorem dX2_takeDrop_16 : decode cX2_takeDrop 16 = .ok (.if_icmp .ge 62, 3) := by decide +kernel
theorem dX2_takeDrop_19 : decode cX2_takeDrop 19 = .ok (.aload_n 0, 1) := by decide +kernel
theorem dX2_takeDrop_20 : decode cX2_takeDrop 20 = .ok (.getfield 9, 3) := by decide +kernel
theorem dX2_takeDrop_23 : decode cX2_takeDrop 23 = .ok (.iload_n 2, 1) := by decide +kernel
theorem dX2_takeDrop_24 : decode cX2_takeDrop 24 = .ok (.iaload, 1) := by decide +kernel
theorem dX2_takeDrop_25 : decode cX2_takeDrop 25 = .ok (.aload_n 0, 1) := by decide +kernel
theorem dX2_takeDrop_26 : decode cX2_takeDrop 26 = .ok (.getfield 49, 3) := by decide +kernel
theorem dX2_takeDrop_29 : decode cX2_takeDrop 29 = .ok (.aload_n 0, 1) := by decide +kernel
theorem dX2_takeDrop_30 : decode cX2_takeDrop 30 = .ok (.getfield 9, 3) := by decide +kernel
theorem dX2_takeDrop_33 : decode cX2_takeDrop 33 = .ok (.iload_n 2, 1) := by decide +kernel
theorem dX2_takeDrop_34 : decode cX2_takeDrop 34 = .ok (.iaload, 1) := by decide +kernel
theorem dX2_takeDrop_35 : decode cX2_takeDrop 35 = .ok (.isub, 1) := by decide +kernel
theorem dX2_takeDrop_36 : decode cX2_takeDrop 36 = .ok (.aload_n 0, 1) := by decide +kernel
theorem dX2_takeDrop_37 : decode cX2_takeDrop 37 = .ok (.getfield 46, 3) := by decide +kernel
theorem dX2_takeDrop_40 : decode cX2_takeDrop 40 = .ok (.invokestatic 52, 3) := by decide +kernel
theorem dX2_takeDrop_43 : decode cX2_takeDrop 43 = .ok (.iadd, 1) := by decide +kernel
theorem dX2_takeDrop_44 : decode cX2_takeDrop 44 = .ok (.istore_n 3, 1) := by decide +kernel
theorem dX2_takeDrop_45 : decode cX2_takeDrop 45 = .ok (.iload_n 3, 1) := by decide +kernel
theorem dX2_takeDrop_46 : decode cX2_takeDrop 46 = .ok (.iload_n 1, 1) := by decide +kernel
theorem dX2_takeDrop_47 : decode cX2_takeDrop 47 = .ok (.iadd, 1) := by decide +kernel
theorem dX2_takeDrop_48 : decode cX2_takeDrop 48 = .ok (.aload_n 0, 1) := by decide +kernel
theorem dX2_takeDrop_49 : decode cX2_takeDrop 49 = .ok (.getfield 30, 3) := by decide +kernel
theorem dX2_takeDrop_52 : decode cX2_takeDrop 52 = .ok (.if_icmp .gt 20, 3) := by decide +kernel
theorem dX2_takeDrop_55 : decode cX2_takeDrop 55 = .ok (.aload_n 0, 1) := by decide +kernel
theorem dX2_takeDrop_56 : decode cX2_takeDrop 56 = .ok (.getfield 9, 3) := by decide +kernel
theorem dX2_takeDrop_59 : decode cX2_takeDrop 59 = .ok (.iload_n 2, 1) := by decide +kernel
theorem dX2_takeDrop_60 : decode cX2_takeDrop 60 = .ok (.iload_n 3, 1) := by decide +kernel
theorem dX2_takeDrop_61 : decode cX2_takeDrop 61 = .ok (.iload_n 1, 1) := by decide +kernel
theorem dX2_takeDrop_62 : decode cX2_takeDrop 62 = .ok (.iadd, 1) := by decide +kernel
theorem dX2_takeDrop_63 : decode cX2_takeDrop 63 = .ok (.iastore, 1) := by decide +kernel
theorem dX2_takeDrop_64 : decode cX2_takeDrop 64 = .ok (.sipush 1000, 3) := by decide +kernel
theorem dX2_takeDrop_67 : decode cX2_takeDrop 67 = .ok (.iload_n 2, 1) := by decide +kernel
theorem dX2_takeDrop_68 : decode cX2_takeDrop 68 = .ok (.imul, 1) := by decide +kernel
theorem dX2_takeDrop_69 : decode cX2_takeDrop 69 = .ok (.iload_n 3, 1) := by decide +kernel
theorem dX2_takeDrop_70 : decode cX2_takeDrop 70 = .ok (.iadd, 1) := by decide +kernel
theorem dX2_takeDrop_71 : decode cX2_takeDrop 71 = .ok (.ireturn, 1) := by decide +kernel
theorem dX2_takeDrop_72 : decode cX2_takeDrop 72 = .ok (.iinc 2 1, 3) := by decide +kernel
theorem dX2_takeDrop_75 : decode cX2_takeDrop 75 = .ok (.goto (-73), 3) := by decide +kernel
theorem dX2_takeDrop_78 : decode cX2_takeDrop 78 = .ok (.aload_n 0, 1) := by decide +kernel
theorem dX2_takeDrop_79 : decode cX2_takeDrop 79 = .ok (.iload_n 1, 1) := by decide +kernel
theorem dX2_takeDrop_80 : decode cX2_takeDrop 80 = .ok (.invokevirtual 56, 3) := by decide +kernel
theorem dX2_takeDrop_83 : decode cX2_takeDrop 83 = .ok (.ireturn, 1) := by decide +kernel
theorem dX2_takeFromNewRoll_0 : decode cX2_takeFromNewRoll 0 = .ok (.aload_n 0, 1) := by decide +kernel
theorem dX2_takeFromNewRoll_1 : decode cX2_takeFromNewRoll 1 = .ok (.getfield 15, 3) := by decide +kernel
theorem dX2_takeFromNewRoll_4 : decode cX2_takeFromNewRoll 4 = .ok (.istore_n 2, 1) := by decide +kernel
theorem dX2_takeFromNewRoll_5 : decode cX2_takeFromNewRoll 5 = .ok (.iload_n 2, 1) := by decide +kernel
theorem dX2_takeFromNewRoll_6 : decode cX2_takeFromNewRoll 6 = .ok (.ifCond .lt 24, 3) := by decide +kernel
theorem dX2_takeFromNewRoll_9 : decode cX2_takeFromNewRoll 9 = .ok (.iload_n 2, 1) := by decide +kernel
theorem dX2_takeFromNewRoll_10 : decode cX2_takeFromNewRoll 10 = .ok (.aload_n 0, 1) := by decide +kernel
theorem dX2_takeFromNewRoll_11 : decode cX2_takeFromNewRoll 11 = .ok (.getfield 24, 3) := by decide +kernel
theorem dX2_takeFromNewRoll_14 : decode cX2_takeFromNewRoll 14 = .ok (.if_icmp .ge 16, 3) := by decide +kernel
theorem dX2_takeFromNewRoll_17 : decode cX2_takeFromNewRoll 17 = .ok (.iload_n 2, 1) := by decide +kernel
theorem dX2_takeFromNewRoll_18 : decode cX2_takeFromNewRoll 18 = .ok (.aload_n 0, 1) := by decide +kernel
theorem dX2_takeFromNewRoll_19 : decode cX2_takeFromNewRoll 19 = .ok (.getfield 9, 3) := by decide +kernel
theorem dX2_takeFromNewRoll_22 : decode cX2_takeFromNewRoll 22 = .ok (.arraylength, 1) := by decide +kernel
theorem dX2_takeFromNewRoll_23 : decode cX2_takeFromNewRoll 23 = .ok (.if_icmp .ge 7, 3) := by decide +kernel
theorem dX2_takeFromNewRoll_26 : decode cX2_takeFromNewRoll 26 = .ok (.iconst 1, 1) := by decide +kernel
theorem dX2_takeFromNewRoll_27 : decode cX2_takeFromNewRoll 27 = .ok (.goto 4, 3) := by decide +kernel
theorem dX2_takeFromNewRoll_30 : decode cX2_takeFromNewRoll 30 = .ok (.iconst 0, 1) := by decide +kernel
theorem dX2_takeFromNewRoll_31 : decode cX2_takeFromNewRoll 31 = .ok (.istore_n 3, 1) := by decide +kernel
theorem dX2_takeFromNewRoll_32 : decode cX2_takeFromNewRoll 32 = .ok (.iload_n 3, 1) := by decide +kernel
theorem dX2_takeFromNewRoll_33 : decode cX2_takeFromNewRoll 33 = .ok (.ifCond .eq 16, 3) := by decide +kernel
theorem dX2_takeFromNewRoll_36 : decode cX2_takeFromNewRoll 36 = .ok (.aload_n 0, 1) := by decide +kernel
theorem dX2_takeFromNewRoll_37 : decode cX2_takeFromNewRoll 37 = .ok (.getfield 49, 3) := by decide +kernel
theorem dX2_takeFromNewRoll_40 : decode cX2_takeFromNewRoll 40 = .ok (.iload_n 1, 1) := by decide +kernel
theorem dX2_takeFromNewRoll_41 : decode cX2_takeFromNewRoll 41 = .ok (.iadd, 1) := by decide +kernel
theorem dX2_takeFromNewRoll_42 : decode cX2_takeFromNewRoll 42 = .ok (.aload_n 0, 1) := by decide +kernel
theorem dX2_takeFromNewRoll_43 : decode cX2_takeFromNewRoll 43 = .ok (.getfield 30, 3) := by decide +kernel
theorem dX2_takeFromNewRoll_46 : decode cX2_takeFromNewRoll 46 = .ok (.if_icmp .le 5, 3) := by decide +kernel
theorem dX2_takeFromNewRoll_49 : decode cX2_takeFromNewRoll 49 = .ok (.iconst (-1), 1) := by decide +kernel
theorem dX2_takeFromNewRoll_50 : decode cX2_takeFromNewRoll 50 = .ok (.ireturn, 1) := by decide +kernel
theorem dX2_takeFromNewRoll_51 : decode cX2_takeFromNewRoll 51 = .ok (.aload_n 0, 1) := by decide +kernel
theorem dX2_takeFromNewRoll_52 : decode cX2_takeFromNewRoll 52 = .ok (.getfield 9, 3) := by decide +kernel
theorem dX2_takeFromNewRoll_55 : decode cX2_takeFromNewRoll 55 = .ok (.iload_n 2, 1) := by decide +kernel
theorem dX2_takeFromNewRoll_56 : decode cX2_takeFromNewRoll 56 = .ok (.aload_n 0, 1) := by decide +kernel
theorem dX2_takeFromNewRoll_57 : decode cX2_takeFromNewRoll 57 = .ok (.getfield 49, 3) := by decide +kernel
theorem dX2_takeFromNewRoll_60 : decode cX2_takeFromNewRoll 60 = .ok (.iload_n 1, 1) := by decide +kernel
theorem dX2_takeFromNewRoll_61 : decode cX2_takeFromNewRoll 61 = .ok (.iadd, 1) := by decide +kernel
theorem dX2_takeFromNewRoll_62 : decode cX2_takeFromNewRoll 62 = .ok (.iastore, 1) := by decide +kernel
theorem dX2_takeFromNewRoll_63 : decode cX2_takeFromNewRoll 63 = .ok (.aload_n 0, 1) := by decide +kernel
theorem dX2_takeFromNewRoll_64 : decode cX2_takeFromNewRoll 64 = .ok (.iload_n 2, 1) := by decide +kernel
theorem dX2_takeFromNewRoll_65 : decode cX2_takeFromNewRoll 65 = .ok (.iconst 1, 1) := by decide +kernel
theorem dX2_takeFromNewRoll_66 : decode cX2_takeFromNewRoll 66 = .ok (.iadd, 1) := by decide +kernel
theorem dX2_takeFromNewRoll_67 : decode cX2_takeFromNewRoll 67 = .ok (.putfield 15, 3) := by decide +kernel
theorem dX2_takeFromNewRoll_70 : decode cX2_takeFromNewRoll 70 = .ok (.sipush 1000, 3) := by decide +kernel
theorem dX2_takeFromNewRoll_73 : decode cX2_takeFromNewRoll 73 = .ok (.iload_n 2, 1) := by decide +kernel
theorem dX2_takeFromNewRoll_74 : decode cX2_takeFromNewRoll 74 = .ok (.imul, 1) := by decide +kernel
theorem dX2_takeFromNewRoll_75 : decode cX2_takeFromNewRoll 75 = .ok (.aload_n 0, 1) := by decide +kernel
theorem dX2_takeFromNewRoll_76 : decode cX2_takeFromNewRoll 76 = .ok (.getfield 49, 3) := by decide +kernel
theorem dX2_takeFromNewRoll_79 : decode cX2_takeFromNewRoll 79 = .ok (.iadd, 1) := by decide +kernel
theorem dX2_takeFromNewRoll_80 : decode cX2_takeFromNewRoll 80 = .ok (.ireturn, 1) := by decide +kernel
theorem dX3_init_0 : decode cX3_init 0 = .ok (.aload_n 0, 1) := by decide +kernel
theorem dX3_init_1 : decode cX3_init 1 = .ok (.invokespecial 3, 3) := by decide +kernel
theorem dX3_init_4 : decode cX3_init 4 = .ok (.aload_n 0, 1) := by decide +kernel
theorem dX3_init_5 : decode cX3_init 5 = .ok (.new 9, 3) := by decide +kernel
theorem dX3_init_8 : decode cX3_init 8 = .ok (.dup, 1) := by decide +kernel
theorem dX3_init_9 : decode cX3_init 9 = .ok (.iload_n 1, 1) := by decide +kernel
theorem dX3_init_10 : decode cX3_init 10 = .ok (.iload_n 2, 1) := by decide +kernel
theorem dX3_init_11 : decode cX3_init 11 = .ok (.invokespecial 11, 3) := by decide +kernel
theorem dX3_init_14 : decode cX3_init 14 = .ok (.putfield 14, 3) := by decide +kernel
theorem dX3_init_17 : decode cX3_init 17 = .ok (.aload_n 0, 1) := by decide +kernel
theorem dX3_init_18 : decode cX3_init 18 = .ok (.iload_n 3, 1) := by decide +kernel
theorem dX3_init_19 : decode cX3_init 19 = .ok (.putfield 20, 3) := by decide +kernel
theorem dX3_init_22 : decode cX3_init 22 = .ok (.iload_n 3, 1) := by decide +kernel
theorem dX3_init_23 : decode cX3_init 23 = .ok (.ifCond .eq 8, 3) := by decide +kernel
theorem dX3_init_26 : decode cX3_init 26 = .ok (.iload_n 3, 1) := by decide +kernel
theorem dX3_init_27 : decode cX3_init 27 = .ok (.iconst 1, 1) := by decide +kernel
theorem dX3_init_28 : decode cX3_init 28 = .ok (.if_icmp .ne 7, 3) := by decide +kernel
theorem dX3_init_31 : decode cX3_init 31 = .ok (.iconst 1, 1) := by decide +kernel
theorem dX3_init_32 : decode cX3_init 32 = .ok (.goto 4, 3) := by decide +kernel
theorem dX3_init_35 : decode cX3_init 35 = .ok (.iconst 0, 1) := by decide +kernel
theorem dX3_init_36 : decode cX3_init 36 = .ok (.istore 4, 2) := by decide +kernel
theorem dX3_init_38 : decode cX3_init 38 = .ok (.iload_n 3, 1) := by decide +kernel
theorem dX3_init_39 : decode cX3_init 39 = .ok (.ifCond .eq 13, 3) := by decide +kernel
theorem dX3_init_42 : decode cX3_init 42 = .ok (.iload_n 3, 1) := by decide +kernel
theorem dX3_init_43 : decode cX3_init 43 = .ok (.iconst 2, 1) := by decide +kernel
theorem dX3_init_44 : decode cX3_init 44 = .ok (.if_icmp .eq 8, 3) := by decide +kernel
theorem dX3_init_47 : decode cX3_init 47 = .ok (.iload_n 3, 1) := by decide +kernel
theorem dX3_init_48 : decode cX3_init 48 = .ok (.iconst 3, 1) := by decide +kernel
theorem dX3_init_49 : decode cX3_init 49 = .ok (.if_icmp .ne 7, 3) := by decide +kernel
theorem dX3_init_52 : decode cX3_init 52 = .ok (.iconst 1, 1) := by decide +kernel
theorem dX3_init_53 : decode cX3_init 53 = .ok (.goto 4, 3) := by decide +kernel
theorem dX3_init_56 : decode cX3_init 56 = .ok (.iconst 0, 1) := by decide +kernel
theorem dX3_init_57 : decode cX3_init 57 = .ok (.istore 5, 2) := by decide +kernel
theorem dX3_init_59 : decode cX3_init 59 = .ok (.aload_n 0, 1) := by decide +kernel
theorem dX3_init_60 : decode cX3_init 60 = .ok (.iload 4, 2) := by decide +kernel
theorem dX3_init_62 : decode cX3_init 62 = .ok (.ifCond .eq 7, 3) := by decide +kernel
theorem dX3_init_65 : decode cX3_init 65 = .ok (.iload_n 1, 1) := by decide +kernel
theorem dX3_init_66 : decode cX3_init 66 = .ok (.goto 6, 3) := by decide +kernel
theorem dX3_init_69 : decode cX3_init 69 = .ok (.iconst 2, 1) := by decide +kernel
theorem dX3_init_70 : decode cX3_init 70 = .ok (.iload_n 1, 1) := by decide +kernel
theorem dX3_init_71 : decode cX3_init 71 = .ok (.imul, 1) := by decide +kernel
theorem dX3_init_72 : decode cX3_init 72 = .ok (.putfield 24, 3) := by decide +kernel
theorem dX3_init_75 : decode cX3_init 75 = .ok (.aload_n 0, 1) := by decide +kernel
theorem dX3_init_76 : decode cX3_init 76 = .ok (.iload 5, 2) := by decide +kernel
theorem dX3_init_78 : decode cX3_init 78 = .ok (.ifCond .eq 7, 3) := by decide +kernel
theorem dX3_init_81 : decode cX3_init 81 = .ok (.iload_n 2, 1) := by decide +kernel
theorem dX3_init_82 : decode cX3_init 82 = .ok (.goto 6, 3) := by decide +kernel
theorem dX3_init_85 : decode cX3_init 85 = .ok (.iconst 2, 1) := by decide +kernel
theorem dX3_init_86 : decode cX3_init 86 = .ok (.iload_n 2, 1) := by decide +kernel
theorem dX3_init_87 : decode cX3_init 87 = .ok (.imul, 1) := by decide +kernel
theorem dX3_init_88 : decode cX3_init 88 = .ok (.putfield 27, 3) := by decide +kernel
theorem dX3_init_91 : decode cX3_init 91 = .ok (.return_, 1) := by decide +kernel
theorem dX3_colourAt_0 : decode cX3_colourAt 0 = .ok (.iload_n 1, 1) := by decide +kernel
theorem dX3_colourAt_1 : decode cX3_colourAt 1 = .ok (.aload_n 0, 1) := by decide +kernel
theorem dX3_colourAt_2 : decode cX3_colourAt 2 = .ok (.getfield 24, 3) := by decide +kernel
theorem dX3_colourAt_5 : decode cX3_colourAt 5 = .ok (.invokestatic 30, 3) := by decide +kernel
theorem dX3_colourAt_8 : decode cX3_colourAt 8 = .ok (.aload_n 0, 1) := by decide +kernel
theorem dX3_colourAt_9 : decode cX3_colourAt 9 = .ok (.getfield 14, 3) := by decide +kernel
theorem dX3_colourAt_12 : decode cX3_colourAt 12 = .ok (.getfield 34, 3) := by decide +kernel
theorem dX3_colourAt_15 : decode cX3_colourAt 15 = .ok (.if_icmp .lt 7, 3) := by decide +kernel
theorem dX3_colourAt_18 : decode cX3_colourAt 18 = .ok (.iconst 1, 1) := by decide +kernel
theorem dX3_colourAt_19 : decode cX3_colourAt 19 = .ok (.goto 4, 3) := by decide +kernel
theorem dX3_colourAt_22 : decode cX3_colourAt 22 = .ok (.iconst 0, 1) := by decide +kernel
theorem dX3_colourAt_23 : decode cX3_colourAt 23 = .ok (.istore_n 3, 1) := by decide +kernel
theorem dX3_colourAt_24 : decode cX3_colourAt 24 = .ok (.iload_n 2, 1) := by decide +kernel
theorem dX3_colourAt_25 : decode cX3_colourAt 25 = .ok (.aload_n 0, 1) := by decide +kernel
theorem dX3_colourAt_26 : decode cX3_colourAt 26 = .ok (.getfield 27, 3) := by decide +kernel
theorem dX3_colourAt_29 : decode cX3_colourAt 29 = .ok (.invokestatic 30, 3) := by decide +kernel
theorem dX3_colourAt_32 : decode cX3_colourAt 32 = .ok (.aload_n 0, 1) := by decide +kernel
theorem dX3_colourAt_33 : decode cX3_colourAt 33 = .ok (.getfield 14, 3) := by decide +kernel
theorem dX3_colourAt_36 : decode cX3_colourAt 36 = .ok (.getfield 37, 3) := by decide +kernel
theorem dX3_colourAt_39 : decode cX3_colourAt 39 = .ok (.if_icmp .lt 7, 3) := by decide +kernel
theorem dX3_colourAt_42 : decode cX3_colourAt 42 = .ok (.iconst 1, 1) := by decide +kernel
theorem dX3_colourAt_43 : decode cX3_colourAt 43 = .ok (.goto 4, 3) := by decide +kernel
theorem dX3_colourAt_46 : decode cX3_colourAt 46 = .ok (.iconst 0, 1) := by decide +kernel
theorem dX3_colourAt_47 : decode cX3_colourAt 47 = .ok (.istore 4, 2) := by decide +kernel
theorem dX3_colourAt_49 : decode cX3_colourAt 49 = .ok (.iload_n 1, 1) := by decide +kernel
theorem dX3_colourAt_50 : decode cX3_colourAt 50 = .ok (.aload_n 0, 1) := by decide +kernel
theorem dX3_colourAt_51 : decode cX3_colourAt 51 = .ok (.getfield 14, 3) := by decide +kernel
theorem dX3_colourAt_54 : decode cX3_colourAt 54 = .ok (.getfield 34, 3) := by decide +kernel
theorem dX3_colourAt_57 : decode cX3_colourAt 57 = .ok (.invokestatic 30, 3) := by decide +kernel
theorem dX3_colourAt_60 : decode cX3_colourAt 60 = .ok (.istore 5, 2) := by decide +kernel
theorem dX3_colourAt_62 : decode cX3_colourAt 62 = .ok (.iload_n 2, 1) := by decide +kernel
theorem dX3_colourAt_63 : decode cX3_colourAt 63 = .ok (.aload_n 0, 1) := by decide +kernel
theorem dX3_colourAt_64 : decode cX3_colourAt 64 = .ok (.getfield 14, 3) := by decide +kernel
theorem dX3_colourAt_67 : decode cX3_colourAt 67 = .ok (.getfield 37, 3) := by decide +kernel
theorem dX3_colourAt_70 : decode cX3_colourAt 70 = .ok (.invokestatic 30, 3) := by decide +kernel
theorem dX3_colourAt_73 : decode cX3_colourAt 73 = .ok (.istore 6, 2) := by decide +kernel
theorem dX3_colourAt_75 : decode cX3_colourAt 75 = .ok (.aload_n 0, 1) := by decide +kernel
theorem dX3_colourAt_76 : decode cX3_colourAt 76 = .ok (.getfield 20, 3) := by decide +kernel
theorem dX3_colourAt_79 : decode cX3_colourAt 79 = .ok (.iconst 5, 1) := by decide +kernel
theorem dX3_colourAt_80 : decode cX3_colourAt 80 = .ok (.if_icmp .ne 21, 3) := by decide +kernel
theorem dX3_colourAt_83 : decode cX3_colourAt 83 = .ok (.iload_n 3, 1) := by decide +kernel
theorem dX3_colourAt_84 : decode cX3_colourAt 84 = .ok (.iload 4, 2) := by decide +kernel
theorem dX3_colourAt_86 : decode cX3_colourAt 86 = .ok (.if_icmp .eq 15, 3) := by decide +kernel
theorem dX3_colourAt_89 : decode cX3_colourAt 89 = .ok (.iload 5, 2) := by decide +kernel
theorem dX3_colourAt_91 : decode cX3_colourAt 91 = .ok (.istore 7, 2) := by decide +kernel
theorem dX3_colourAt_93 : decode cX3_colourAt 93 = .ok (.iload 6, 2) := by decide +kernel
theorem dX3_colourAt_95 : decode cX3_colourAt 95 = .ok (.istore 5, 2) := by decide +kernel
theorem dX3_colourAt_97 : decode cX3_colourAt 97 = .ok (.iload 7, 2) := by decide +kernel
theorem dX3_colourAt_99 : decode cX3_colourAt 99 = .ok (.istore 6, 2) := by decide +kernel
theorem dX3_colourAt_101 : decode cX3_colourAt 101 = .ok (.aload_n 0, 1) := by decide +kernel
theorem dX3_colourAt_102 : decode cX3_colourAt 102 = .ok (.iload_n 3, 1) := by decide +kernel
theorem dX3_colourAt_103 : decode cX3_colourAt 103 = .ok (.iload 4, 2) := by decide +kernel
theorem dX3_colourAt_105 : decode cX3_colourAt 105 = .ok (.invokevirtual 40, 3) := by decide +kernel
theorem dX3_colourAt_108 : decode cX3_colourAt 108 = .ok (.ifCond .eq 17, 3) := by decide +kernel
theorem dX3_colourAt_111 : decode cX3_colourAt 111 = .ok (.aload_n 0, 1) := by decide +kernel
theorem dX3_colourAt_112 : decode cX3_colourAt 112 = .ok (.getfield 14, 3) := by decide +kernel
theorem dX3_colourAt_115 : decode cX3_colourAt 115 = .ok (.getfield 34, 3) := by decide +kernel
theorem dX3_colourAt_118 : decode cX3_colourAt 118 = .ok (.iconst 1, 1) := by decide +kernel
theorem dX3_colourAt_119 : decode cX3_colourAt 119 = .ok (.isub, 1) := by decide +kernel
theorem dX3_colourAt_120 : decode cX3_colourAt 120 = .ok (.iload 5, 2) := by decide +kernel
theorem dX3_colourAt_122 : decode cX3_colourAt 122 = .ok (.isub, 1) := by decide +kernel
theorem dX3_colourAt_123 : decode cX3_colourAt 123 = .ok (.istore 5, 2) := by decide +kernel
theorem dX3_colourAt_125 : decode cX3_colourAt 125 = .ok (.aload_n 0, 1) := by decide +kernel
theorem dX3_colourAt_126 : decode cX3_colourAt 126 = .ok (.iload_n 3, 1) := by decide +kernel
theorem dX3_colourAt_127 : decode cX3_colourAt 127 = .ok (.iload 4, 2) := by decide +kernel
theorem dX3_colourAt_129 : decode cX3_colourAt 129 = .ok (.invokevirtual 44, 3) := by decide +kernel
theorem dX3_colourAt_132 : decode cX3_colourAt 132 = .ok (.ifCond .eq 17, 3) := by decide +kernel
theorem dX3_colourAt_135 : decode cX3_colourAt 135 = .ok (.aload_n 0, 1) := by decide +kernel
theorem dX3_colourAt_136 : decode cX3_colourAt 136 = .ok (.getfield 14, 3) := by decide +kernel
theorem dX3_colourAt_139 : decode cX3_colourAt 139 = .ok (.getfield 37, 3) := by decide +kernel
theorem dX3_colourAt_142 : decode cX3_colourAt 142 = .ok (.iconst 1, 1) := by decide +kernel
theorem dX3_colourAt_143 : decode cX3_colourAt 143 = .ok (.isub, 1) := by decide +kernel
theorem dX3_colourAt_144 : decode cX3_colourAt 144 = .ok (.iload 6, 2) := by decide +kernel
theorem dX3_colourAt_146 : decode cX3_colourAt 146 = .ok (.isub, 1) := by decide +kernel
theorem dX3_colourAt_147 : decode cX3_colourAt 147 = .ok (.istore 6, 2) := by decide +kernel
theorem dX3_colourAt_149 : decode cX3_colourAt 149 = .ok (.aload_n 0, 1) := by decide +kernel
theorem dX3_colourAt_150 : decode cX3_colourAt 150 = .ok (.getfield 14, 3) := by decide +kernel
theorem dX3_colourAt_153 : decode cX3_colourAt 153 = .ok (.iload 5, 2) := by decide +kernel
theorem dX3_colourAt_155 : decode cX3_colourAt 155 = .ok (.iload 6, 2) := by decide +kernel
theorem dX3_colourAt_157 : decode cX3_colourAt 157 = .ok (.invokevirtual 47, 3) := by decide +kernel
theorem dX3_colourAt_160 : decode cX3_colourAt 160 = .ok (.ireturn, 1) := by decide +kernel
theorem dX3_flipsColumns_0 : decode cX3_flipsColumns 0 = .ok (.aload_n 0, 1) := by decide +kernel
theorem dX3_flipsColumns_1 : decode cX3_flipsColumns 1 = .ok (.getfield 20, 3) := by decide +kernel
theorem dX3_flipsColumns_4 : decode cX3_flipsColumns 4 = .ok (.tableswitch 40 1 5 #[36, 38, 40, 38, 36], 36) := by decide +kernel
theorem dX3_flipsColumns_40 : decode cX3_flipsColumns 40 = .ok (.iload_n 2, 1) := by decide +kernel
theorem dX3_flipsColumns_41 : decode cX3_flipsColumns 41 = .ok (.ireturn, 1) := by decide +kernel
theorem dX3_flipsColumns_42 : decode cX3_flipsColumns 42 = .ok (.iload_n 1, 1) := by decide +kernel
theorem dX3_flipsColumns_43 : decode cX3_flipsColumns 43 = .ok (.ireturn, 1) := by decide +kernel
theorem dX3_flipsColumns_44 : decode cX3_flipsColumns 44 = .ok (.iconst 0, 1) := by decide +kernel
theorem dX3_flipsColumns_45 : decode cX3_flipsColumns 45 = .ok (.ireturn, 1) := by decide +kernel
theorem dX3_flipsRows_0 : decode cX3_flipsRows 0 = .ok (.aload_n 0, 1) := by decide +kernel
theorem dX3_flipsRows_1 : decode cX3_flipsRows 1 = .ok (.getfield 20, 3) := by decide +kernel
theorem dX3_flipsRows_4 : decode cX3_flipsRows 4 = .ok (.tableswitch 40 1 5 #[36, 40, 38, 36, 38], 36) := by decide +kernel
theorem dX3_flipsRows_40 : decode cX3_flipsRows 40 = .ok (.iload_n 2, 1) := by decide +kernel
theorem dX3_flipsRows_41 : decode cX3_flipsRows 41 = .ok (.ireturn, 1) := by decide +kernel
theorem dX3_flipsRows_42 : decode cX3_flipsRows 42 = .ok (.iload_n 1, 1) := by decide +kernel
theorem dX3_flipsRows_43 : decode cX3_flipsRows 43 = .ok (.ireturn, 1) := by decide +kernel
theorem dX3_flipsRows_44 : decode cX3_flipsRows 44 = .ok (.iconst 0, 1) := by decide +kernel
theorem dX3_flipsRows_45 : decode cX3_flipsRows 45 = .ok (.ireturn, 1) := by decide +kernel
theorem dX3_leastMove_0 : decode cX3_leastMove 0 = .ok (.iload_n 1, 1) := by decide +kernel
theorem dX3_leastMove_1 : decode cX3_leastMove 1 = .ok (.ifCond .eq 10, 3) := by decide +kernel
theorem dX3_leastMove_4 : decode cX3_leastMove 4 = .ok (.aload_n 0, 1) := by decide +kernel
theorem dX3_leastMove_5 : decode cX3_leastMove 5 = .ok (.getfield 27, 3) := by decide +kernel
theorem dX3_leastMove_8 : decode cX3_leastMove 8 = .ok (.goto 7, 3) := by decide +kernel
theorem dX3_leastMove_11 : decode cX3_leastMove 11 = .ok (.aload_n 0, 1) := by decide +kernel
theorem dX3_leastMove_12 : decode cX3_leastMove 12 = .ok (.getfield 24, 3) := by decide +kernel
theorem dX3_leastMove_15 : decode cX3_leastMove 15 = .ok (.istore_n 2, 1) := by decide +kernel
theorem dX3_leastMove_16 : decode cX3_leastMove 16 = .ok (.iconst 1, 1) := by decide +kernel
theorem dX3_leastMove_17 : decode cX3_leastMove 17 = .ok (.istore_n 3, 1) := by decide +kernel
theorem dX3_leastMove_18 : decode cX3_leastMove 18 = .ok (.iload_n 3, 1) := by decide +kernel
theorem dX3_leastMove_19 : decode cX3_leastMove 19 = .ok (.iload_n 2, 1) := by decide +kernel
theorem dX3_leastMove_20 : decode cX3_leastMove 20 = .ok (.if_icmp .ge 36, 3) := by decide +kernel
theorem dX3_leastMove_23 : decode cX3_leastMove 23 = .ok (.iload_n 1, 1) := by decide +kernel
theorem dX3_leastMove_24 : decode cX3_leastMove 24 = .ok (.ifCond .eq 15, 3) := by decide +kernel
theorem dX3_leastMove_27 : decode cX3_leastMove 27 = .ok (.aload_n 0, 1) := by decide +kernel
theorem dX3_leastMove_28 : decode cX3_leastMove 28 = .ok (.iconst 0, 1) := by decide +kernel
theorem dX3_leastMove_29 : decode cX3_leastMove 29 = .ok (.iload_n 3, 1) := by decide +kernel
theorem dX3_leastMove_30 : decode cX3_leastMove 30 = .ok (.invokevirtual 50, 3) := by decide +kernel
theorem dX3_leastMove_33 : decode cX3_leastMove 33 = .ok (.ifCond .eq 17, 3) := by decide +kernel
theorem dX3_leastMove_36 : decode cX3_leastMove 36 = .ok (.goto 12, 3) := by decide +kernel
theorem dX3_leastMove_39 : decode cX3_leastMove 39 = .ok (.aload_n 0, 1) := by decide +kernel
theorem dX3_leastMove_40 : decode cX3_leastMove 40 = .ok (.iload_n 3, 1) := by decide +kernel
theorem dX3_leastMove_41 : decode cX3_leastMove 41 = .ok (.iconst 0, 1) := by decide +kernel
theorem dX3_leastMove_42 : decode cX3_leastMove 42 = .ok (.invokevirtual 50, 3) := by decide +kernel
theorem dX3_leastMove_45 : decode cX3_leastMove 45 = .ok (.ifCond .eq 5, 3) := by decide +kernel
theorem dX3_leastMove_48 : decode cX3_leastMove 48 = .ok (.iload_n 3, 1) := by decide +kernel
theorem dX3_leastMove_49 : decode cX3_leastMove 49 = .ok (.ireturn, 1) := by decide +kernel
theorem dX3_leastMove_50 : decode cX3_leastMove 50 = .ok (.iinc 3 1, 3) := by decide +kernel
theorem dX3_leastMove_53 : decode cX3_leastMove 53 = .ok (.goto (-35), 3) := by decide +kernel
theorem dX3_leastMove_56 : decode cX3_leastMove 56 = .ok (.iload_n 2, 1) := by decide +kernel
theorem dX3_leastMove_57 : decode cX3_leastMove 57 = .ok (.ireturn, 1) := by decide +kernel
theorem dX3_staysWhenMoved_0 : decode cX3_staysWhenMoved 0 = .ok (.iconst 0, 1) := by decide +kernel
theorem dX3_staysWhenMoved_1 : decode cX3_staysWhenMoved 1 = .ok (.istore_n 3, 1) := by decide +kernel
theorem dX3_staysWhenMoved_2 : decode cX3_staysWhenMoved 2 = .ok (.iload_n 3, 1) := by decide +kernel
theorem dX3_staysWhenMoved_3 : decode cX3_staysWhenMoved 3 = .ok (.aload_n 0, 1) := by decide +kernel
theorem dX3_staysWhenMoved_4 : decode cX3_staysWhenMoved 4 = .ok (.getfield 27, 3) := by decide +kernel
theorem dX3_staysWhenMoved_7 : decode cX3_staysWhenMoved 7 = .ok (.if_icmp .ge 50, 3) := by decide +kernel
theorem dX3_staysWhenMoved_10 : decode cX3_staysWhenMoved 10 = .ok (.iconst 0, 1) := by decide +kernel
theorem dX3_staysWhenMoved_11 : decode cX3_staysWhenMoved 11 = .ok (.istore 4, 2) := by decide +kernel
theorem dX3_staysWhenMoved_13 : decode cX3_staysWhenMoved 13 = .ok (.iload 4, 2) := by decide +kernel
theorem dX3_staysWhenMoved_15 : decode cX3_staysWhenMoved 15 = .ok (.aload_n 0, 1) := by decide +kernel
theorem dX3_staysWhenMoved_16 : decode cX3_staysWhenMoved 16 = .ok (.getfield 24, 3) := by decide +kernel
theorem dX3_staysWhenMoved_19 : decode cX3_staysWhenMoved 19 = .ok (.if_icmp .ge 32, 3) := by decide +kernel
theorem dX3_staysWhenMoved_22 : decode cX3_staysWhenMoved 22 = .ok (.aload_n 0, 1) := by decide +kernel
theorem dX3_staysWhenMoved_23 : decode cX3_staysWhenMoved 23 = .ok (.iload 4, 2) := by decide +kernel
theorem dX3_staysWhenMoved_25 : decode cX3_staysWhenMoved 25 = .ok (.iload_n 3, 1) := by decide +kernel
theorem dX3_staysWhenMoved_26 : decode cX3_staysWhenMoved 26 = .ok (.invokevirtual 54, 3) := by decide +kernel
theorem dX3_staysWhenMoved_29 : decode cX3_staysWhenMoved 29 = .ok (.aload_n 0, 1) := by decide +kernel
theorem dX3_staysWhenMoved_30 : decode cX3_staysWhenMoved 30 = .ok (.iload 4, 2) := by decide +kernel
theorem dX3_staysWhenMoved_32 : decode cX3_staysWhenMoved 32 = .ok (.iload_n 1, 1) := by decide +kernel
theorem dX3_staysWhenMoved_33 : decode cX3_staysWhenMoved 33 = .ok (.iadd, 1) := by decide +kernel
theorem dX3_staysWhenMoved_34 : decode cX3_staysWhenMoved 34 = .ok (.iload_n 3, 1) := by decide +kernel
theorem dX3_staysWhenMoved_35 : decode cX3_staysWhenMoved 35 = .ok (.iload_n 2, 1) := by decide +kernel
theorem dX3_staysWhenMoved_36 : decode cX3_staysWhenMoved 36 = .ok (.iadd, 1) := by decide +kernel
theorem dX3_staysWhenMoved_37 : decode cX3_staysWhenMoved 37 = .ok (.invokevirtual 54, 3) := by decide +kernel
theorem dX3_staysWhenMoved_40 : decode cX3_staysWhenMoved 40 = .ok (.if_icmp .eq 5, 3) := by decide +kernel
theorem dX3_staysWhenMoved_43 : decode cX3_staysWhenMoved 43 = .ok (.iconst 0, 1) := by decide +kernel
theorem dX3_staysWhenMoved_44 : decode cX3_staysWhenMoved 44 = .ok (.ireturn, 1) := by decide +kernel
theorem dX3_staysWhenMoved_45 : decode cX3_staysWhenMoved 45 = .ok (.iinc 4 1, 3) := by decide +kernel
theorem dX3_staysWhenMoved_48 : decode cX3_staysWhenMoved 48 = .ok (.goto (-35), 3) := by decide +kernel
theorem dX3_staysWhenMoved_51 : decode cX3_staysWhenMoved 51 = .ok (.iinc 3 1, 3) := by decide +kernel
theorem dX3_staysWhenMoved_54 : decode cX3_staysWhenMoved 54 = .ok (.goto (-52), 3) := by decide +kernel
theorem dX3_staysWhenMoved_57 : decode cX3_staysWhenMoved 57 = .ok (.iconst 1, 1) := by decide +kernel
theorem dX3_staysWhenMoved_58 : decode cX3_staysWhenMoved 58 = .ok (.ireturn, 1) := by decide +kernel
theorem dX3_drawn_0 : decode cX3_drawn 0 = .ok (.new 9, 3) := by decide +kernel
theorem dX3_drawn_3 : decode cX3_drawn 3 = .ok (.dup, 1) := by decide +kernel
theorem dX3_drawn_4 : decode cX3_drawn 4 = .ok (.aload_n 0, 1) := by decide +kernel
theorem dX3_drawn_5 : decode cX3_drawn 5 = .ok (.getfield 24, 3) := by decide +kernel
theorem dX3_drawn_8 : decode cX3_drawn 8 = .ok (.aload_n 0, 1) := by decide +kernel
theorem dX3_drawn_9 : decode cX3_drawn 9 = .ok (.getfield 27, 3) := by decide +kernel
theorem dX3_drawn_12 : decode cX3_drawn 12 = .ok (.invokespecial 11, 3) := by decide +kernel
theorem dX3_drawn_15 : decode cX3_drawn 15 = .ok (.astore_n 1, 1) := by decide +kernel
theorem dX3_drawn_16 : decode cX3_drawn 16 = .ok (.iconst 0, 1) := by decide +kernel
theorem dX3_drawn_17 : decode cX3_drawn 17 = .ok (.istore_n 2, 1) := by decide +kernel
theorem dX3_drawn_18 : decode cX3_drawn 18 = .ok (.iload_n 2, 1) := by decide +kernel
theorem dX3_drawn_19 : decode cX3_drawn 19 = .ok (.aload_n 0, 1) := by decide +kernel
theorem dX3_drawn_20 : decode cX3_drawn 20 = .ok (.getfield 27, 3) := by decide +kernel
theorem dX3_drawn_23 : decode cX3_drawn 23 = .ok (.if_icmp .ge 37, 3) := by decide +kernel
theorem dX3_drawn_26 : decode cX3_drawn 26 = .ok (.iconst 0, 1) := by decide +kernel
theorem dX3_drawn_27 : decode cX3_drawn 27 = .ok (.istore_n 3, 1) := by decide +kernel
theorem dX3_drawn_28 : decode cX3_drawn 28 = .ok (.iload_n 3, 1) := by decide +kernel
theorem dX3_drawn_29 : decode cX3_drawn 29 = .ok (.aload_n 0, 1) := by decide +kernel
theorem dX3_drawn_30 : decode cX3_drawn 30 = .ok (.getfield 24, 3) := by decide +kernel
theorem dX3_drawn_33 : decode cX3_drawn 33 = .ok (.if_icmp .ge 21, 3) := by decide +kernel
theorem dX3_drawn_36 : decode cX3_drawn 36 = .ok (.aload_n 1, 1) := by decide +kernel
theorem dX3_drawn_37 : decode cX3_drawn 37 = .ok (.iload_n 3, 1) := by decide +kernel
theorem dX3_drawn_38 : decode cX3_drawn 38 = .ok (.iload_n 2, 1) := by decide +kernel
theorem dX3_drawn_39 : decode cX3_drawn 39 = .ok (.aload_n 0, 1) := by decide +kernel
theorem dX3_drawn_40 : decode cX3_drawn 40 = .ok (.iload_n 3, 1) := by decide +kernel
theorem dX3_drawn_41 : decode cX3_drawn 41 = .ok (.iload_n 2, 1) := by decide +kernel
theorem dX3_drawn_42 : decode cX3_drawn 42 = .ok (.invokevirtual 54, 3) := by decide +kernel
theorem dX3_drawn_45 : decode cX3_drawn 45 = .ok (.invokevirtual 55, 3) := by decide +kernel
theorem dX3_drawn_48 : decode cX3_drawn 48 = .ok (.iinc 3 1, 3) := by decide +kernel
theorem dX3_drawn_51 : decode cX3_drawn 51 = .ok (.goto (-23), 3) := by decide +kernel
theorem dX3_drawn_54 : decode cX3_drawn 54 = .ok (.iinc 2 1, 3) := by decide +kernel
theorem dX3_drawn_57 : decode cX3_drawn 57 = .ok (.goto (-39), 3) := by decide +kernel
theorem dX3_drawn_60 : decode cX3_drawn 60 = .ok (.aload_n 1, 1) := by decide +kernel
theorem dX3_drawn_61 : decode cX3_drawn 61 = .ok (.areturn, 1) := by decide +kernel
theorem dX4_init_0 : decode cX4_init 0 = .ok (.aload_n 0, 1) := by decide +kernel
theorem dX4_init_1 : decode cX4_init 1 = .ok (.invokespecial 1, 3) := by decide +kernel
theorem dX4_init_4 : decode cX4_init 4 = .ok (.aload_n 0, 1) := by decide +kernel
theorem dX4_init_5 : decode cX4_init 5 = .ok (.iload_n 1, 1) := by decide +kernel
theorem dX4_init_6 : decode cX4_init 6 = .ok (.putfield 7, 3) := by decide +kernel
theorem dX4_init_9 : decode cX4_init 9 = .ok (.aload_n 0, 1) := by decide +kernel
theorem dX4_init_10 : decode cX4_init 10 = .ok (.aload_n 2, 1) := by decide +kernel
theorem dX4_init_11 : decode cX4_init 11 = .ok (.putfield 13, 3) := by decide +kernel
theorem dX4_init_14 : decode cX4_init 14 = .ok (.return_, 1) := by decide +kernel
theorem dX5_init_0 : decode cX5_init 0 = .ok (.aload_n 0, 1) := by decide +kernel
theorem dX5_init_1 : decode cX5_init 1 = .ok (.invokespecial 3, 3) := by decide +kernel
theorem dX5_init_4 : decode cX5_init 4 = .ok (.aload_n 0, 1) := by decide +kernel
theorem dX5_init_5 : decode cX5_init 5 = .ok (.iconst 4, 1) := by decide +kernel
theorem dX5_init_6 : decode cX5_init 6 = .ok (.anewarray 9, 3) := by decide +kernel
theorem dX5_init_9 : decode cX5_init 9 = .ok (.putfield 11, 3) := by decide +kernel
theorem dX5_init_12 : decode cX5_init 12 = .ok (.aload_n 0, 1) := by decide +kernel
theorem dX5_init_13 : decode cX5_init 13 = .ok (.new 17, 3) := by decide +kernel
theorem dX5_init_16 : decode cX5_init 16 = .ok (.dup, 1) := by decide +kernel
theorem dX5_init_17 : decode cX5_init 17 = .ok (.invokespecial 19, 3) := by decide +kernel
theorem dX5_init_20 : decode cX5_init 20 = .ok (.putfield 20, 3) := by decide +kernel
theorem dX5_init_23 : decode cX5_init 23 = .ok (.return_, 1) := by decide +kernel
theorem dX5_isHung_0 : decode cX5_isHung 0 = .ok (.aload_n 0, 1) := by decide +kernel
theorem dX5_isHung_1 : decode cX5_isHung 1 = .ok (.getfield 24, 3) := by decide +kernel
theorem dX5_isHung_4 : decode cX5_isHung 4 = .ok (.ifnull 7, 3) := by decide +kernel
theorem dX5_isHung_7 : decode cX5_isHung 7 = .ok (.iconst 1, 1) := by decide +kernel
theorem dX5_isHung_8 : decode cX5_isHung 8 = .ok (.goto 4, 3) := by decide +kernel
theorem dX5_isHung_11 : decode cX5_isHung 11 = .ok (.iconst 0, 1) := by decide +kernel
theorem dX5_isHung_12 : decode cX5_isHung 12 = .ok (.ireturn, 1) := by decide +kernel
theorem dX5_makeBare_0 : decode cX5_makeBare 0 = .ok (.aload_n 0, 1) := by decide +kernel
theorem dX5_makeBare_1 : decode cX5_makeBare 1 = .ok (.aconst_null, 1) := by decide +kernel
theorem dX5_makeBare_2 : decode cX5_makeBare 2 = .ok (.putfield 24, 3) := by decide +kernel
theorem dX5_makeBare_5 : decode cX5_makeBare 5 = .ok (.return_, 1) := by decide +kernel
theorem dX5_addWall_0 : decode cX5_addWall 0 = .ok (.aload_n 0, 1) := by decide +kernel
theorem dX5_addWall_1 : decode cX5_addWall 1 = .ok (.getfield 28, 3) := by decide +kernel
theorem dX5_addWall_4 : decode cX5_addWall 4 = .ok (.istore_n 3, 1) := by decide +kernel
theorem dX5_addWall_5 : decode cX5_addWall 5 = .ok (.iload_n 3, 1) := by decide +kernel
theorem dX5_addWall_6 : decode cX5_addWall 6 = .ok (.ifCond .lt 12, 3) := by decide +kernel
theorem dX5_addWall_9 : decode cX5_addWall 9 = .ok (.iload_n 3, 1) := by decide +kernel
theorem dX5_addWall_10 : decode cX5_addWall 10 = .ok (.aload_n 0, 1) := by decide +kernel
theorem dX5_addWall_11 : decode cX5_addWall 11 = .ok (.getfield 11, 3) := by decide +kernel
theorem dX5_addWall_14 : decode cX5_addWall 14 = .ok (.arraylength, 1) := by decide +kernel
theorem dX5_addWall_15 : decode cX5_addWall 15 = .ok (.if_icmp .lt 5, 3) := by decide +kernel
theorem dX5_addWall_18 : decode cX5_addWall 18 = .ok (.iconst (-1), 1) := by decide +kernel
theorem dX5_addWall_19 : decode cX5_addWall 19 = .ok (.ireturn, 1) := by decide +kernel
theorem dX5_addWall_20 : decode cX5_addWall 20 = .ok (.aload_n 0, 1) := by decide +kernel
theorem dX5_addWall_21 : decode cX5_addWall 21 = .ok (.getfield 11, 3) := by decide +kernel
theorem dX5_addWall_24 : decode cX5_addWall 24 = .ok (.iload_n 3, 1) := by decide +kernel
theorem dX5_addWall_25 : decode cX5_addWall 25 = .ok (.new 9, 3) := by decide +kernel
theorem dX5_addWall_28 : decode cX5_addWall 28 = .ok (.dup, 1) := by decide +kernel
theorem dX5_addWall_29 : decode cX5_addWall 29 = .ok (.iload_n 1, 1) := by decide +kernel
theorem dX5_addWall_30 : decode cX5_addWall 30 = .ok (.iload_n 2, 1) := by decide +kernel
theorem dX5_addWall_31 : decode cX5_addWall 31 = .ok (.invokespecial 32, 3) := by decide +kernel
theorem dX5_addWall_34 : decode cX5_addWall 34 = .ok (.aastore, 1) := by decide +kernel
theorem dX5_addWall_35 : decode cX5_addWall 35 = .ok (.aload_n 0, 1) := by decide +kernel
theorem dX5_addWall_36 : decode cX5_addWall 36 = .ok (.iload_n 3, 1) := by decide +kernel
theorem dX5_addWall_37 : decode cX5_addWall 37 = .ok (.iconst 1, 1) := by decide +kernel
theorem dX5_addWall_38 : decode cX5_addWall 38 = .ok (.iadd, 1) := by decide +kernel
theorem dX5_addWall_39 : decode cX5_addWall 39 = .ok (.putfield 28, 3) := by decide +kernel
theorem dX5_addWall_42 : decode cX5_addWall 42 = .ok (.iload_n 3, 1) := by decide +kernel
theorem dX5_addWall_43 : decode cX5_addWall 43 = .ok (.ireturn, 1) := by decide +kernel
theorem dX5_bestPhase_0 : decode cX5_bestPhase 0 = .ok (.iconst (-1), 1) := by decide +kernel
theorem dX5_bestPhase_1 : decode cX5_bestPhase 1 = .ok (.istore_n 2, 1) := by decide +kernel
theorem dX5_bestPhase_2 : decode cX5_bestPhase 2 = .ok (.bipush 21, 2) := by decide +kernel
theorem dX5_bestPhase_4 : decode cX5_bestPhase 4 = .ok (.istore_n 3, 1) := by decide +kernel
theorem dX5_bestPhase_5 : decode cX5_bestPhase 5 = .ok (.iconst 0, 1) := by decide +kernel
theorem dX5_bestPhase_6 : decode cX5_bestPhase 6 = .ok (.istore 4, 2) := by decide +kernel
theorem dX5_bestPhase_8 : decode cX5_bestPhase 8 = .ok (.iload 4, 2) := by decide +kernel
theorem dX5_bestPhase_10 : decode cX5_bestPhase 10 = .ok (.aload_n 1, 1) := by decide +kernel
theorem dX5_bestPhase_11 : decode cX5_bestPhase 11 = .ok (.getfield 35, 3) := by decide +kernel
theorem dX5_bestPhase_14 : decode cX5_bestPhase 14 = .ok (.getfield 41, 3) := by decide +kernel
theorem dX5_bestPhase_17 : decode cX5_bestPhase 17 = .ok (.getfield 47, 3) := by decide +kernel
theorem dX5_bestPhase_20 : decode cX5_bestPhase 20 = .ok (.if_icmp .ge 41, 3) := by decide +kernel
theorem dX5_bestPhase_23 : decode cX5_bestPhase 23 = .ok (.aload_n 0, 1) := by decide +kernel
theorem dX5_bestPhase_24 : decode cX5_bestPhase 24 = .ok (.aload_n 1, 1) := by decide +kernel
theorem dX5_bestPhase_25 : decode cX5_bestPhase 25 = .ok (.iload 4, 2) := by decide +kernel
theorem dX5_bestPhase_27 : decode cX5_bestPhase 27 = .ok (.invokevirtual 52, 3) := by decide +kernel
theorem dX5_bestPhase_30 : decode cX5_bestPhase 30 = .ok (.ifCond .eq 25, 3) := by decide +kernel
theorem dX5_bestPhase_33 : decode cX5_bestPhase 33 = .ok (.aload_n 0, 1) := by decide +kernel
theorem dX5_bestPhase_34 : decode cX5_bestPhase 34 = .ok (.getfield 20, 3) := by decide +kernel
theorem dX5_bestPhase_37 : decode cX5_bestPhase 37 = .ok (.getfield 56, 3) := by decide +kernel
theorem dX5_bestPhase_40 : decode cX5_bestPhase 40 = .ok (.iload_n 3, 1) := by decide +kernel
theorem dX5_bestPhase_41 : decode cX5_bestPhase 41 = .ok (.if_icmp .ge 14, 3) := by decide +kernel
theorem dX5_bestPhase_44 : decode cX5_bestPhase 44 = .ok (.iload 4, 2) := by decide +kernel
theorem dX5_bestPhase_46 : decode cX5_bestPhase 46 = .ok (.istore_n 2, 1) := by decide +kernel
theorem dX5_bestPhase_47 : decode cX5_bestPhase 47 = .ok (.aload_n 0, 1) := by decide +kernel
theorem dX5_bestPhase_48 : decode cX5_bestPhase 48 = .ok (.getfield 20, 3) := by decide +kernel
theorem dX5_bestPhase_51 : decode cX5_bestPhase 51 = .ok (.getfield 56, 3) := by decide +kernel
theorem dX5_bestPhase_54 : decode cX5_bestPhase 54 = .ok (.istore_n 3, 1) := by decide +kernel
theorem dX5_bestPhase_55 : decode cX5_bestPhase 55 = .ok (.iinc 4 1, 3) := by decide +kernel
theorem dX5_bestPhase_58 : decode cX5_bestPhase 58 = .ok (.goto (-50), 3) := by decide +kernel
theorem dX5_bestPhase_61 : decode cX5_bestPhase 61 = .ok (.iload_n 2, 1) := by decide +kernel
theorem dX5_bestPhase_62 : decode cX5_bestPhase 62 = .ok (.ireturn, 1) := by decide +kernel
theorem dX5_cutAll_0 : decode cX5_cutAll 0 = .ok (.aload_n 0, 1) := by decide +kernel
theorem dX5_cutAll_1 : decode cX5_cutAll 1 = .ok (.getfield 20, 3) := by decide +kernel
theorem dX5_cutAll_4 : decode cX5_cutAll 4 = .ok (.aload_n 1, 1) := by decide +kernel
theorem dX5_cutAll_5 : decode cX5_cutAll 5 = .ok (.iload_n 2, 1) := by decide +kernel
theorem dX5_cutAll_6 : decode cX5_cutAll 6 = .ok (.invokevirtual 59, 3) := by decide +kernel
theorem dX5_cutAll_9 : decode cX5_cutAll 9 = .ok (.aload_n 0, 1) := by decide +kernel
theorem dX5_cutAll_10 : decode cX5_cutAll 10 = .ok (.getfield 11, 3) := by decide +kernel
theorem dX5_cutAll_13 : decode cX5_cutAll 13 = .ok (.astore_n 3, 1) := by decide +kernel
theorem dX5_cutAll_14 : decode cX5_cutAll 14 = .ok (.aload_n 3, 1) := by decide +kernel
theorem dX5_cutAll_15 : decode cX5_cutAll 15 = .ok (.arraylength, 1) := by decide +kernel
theorem dX5_cutAll_16 : decode cX5_cutAll 16 = .ok (.istore 4, 2) := by decide +kernel
theorem dX5_cutAll_18 : decode cX5_cutAll 18 = .ok (.iconst 0, 1) := by decide +kernel
theorem dX5_cutAll_19 : decode cX5_cutAll 19 = .ok (.istore 5, 2) := by decide +kernel
theorem dX5_cutAll_21 : decode cX5_cutAll 21 = .ok (.iload 5, 2) := by decide +kernel
theorem dX5_cutAll_23 : decode cX5_cutAll 23 = .ok (.iload 4, 2) := by decide +kernel
theorem dX5_cutAll_25 : decode cX5_cutAll 25 = .ok (.if_icmp .ge 35, 3) := by decide +kernel
theorem dX5_cutAll_28 : decode cX5_cutAll 28 = .ok (.aload_n 3, 1) := by decide +kernel
theorem dX5_cutAll_29 : decode cX5_cutAll 29 = .ok (.iload 5, 2) := by decide +kernel
theorem dX5_cutAll_31 : decode cX5_cutAll 31 = .ok (.aaload, 1) := by decide +kernel
theorem dX5_cutAll_32 : decode cX5_cutAll 32 = .ok (.astore 6, 2) := by decide +kernel
theorem dX5_cutAll_34 : decode cX5_cutAll 34 = .ok (.aload 6, 2) := by decide +kernel
theorem dX5_cutAll_36 : decode cX5_cutAll 36 = .ok (.ifnull 18, 3) := by decide +kernel
theorem dX5_cutAll_39 : decode cX5_cutAll 39 = .ok (.aload 6, 2) := by decide +kernel
theorem dX5_cutAll_41 : decode cX5_cutAll 41 = .ok (.aload_n 0, 1) := by decide +kernel
theorem dX5_cutAll_42 : decode cX5_cutAll 42 = .ok (.getfield 20, 3) := by decide +kernel
theorem dX5_cutAll_45 : decode cX5_cutAll 45 = .ok (.iconst 0, 1) := by decide +kernel
theorem dX5_cutAll_46 : decode cX5_cutAll 46 = .ok (.invokevirtual 63, 3) := by decide +kernel
theorem dX5_cutAll_49 : decode cX5_cutAll 49 = .ok (.ifCond .ne 5, 3) := by decide +kernel
theorem dX5_cutAll_52 : decode cX5_cutAll 52 = .ok (.iconst 0, 1) := by decide +kernel
theorem dX5_cutAll_53 : decode cX5_cutAll 53 = .ok (.ireturn, 1) := by decide +kernel
theorem dX5_cutAll_54 : decode cX5_cutAll 54 = .ok (.iinc 5 1, 3) := by decide +kernel
theorem dX5_cutAll_57 : decode cX5_cutAll 57 = .ok (.goto (-36), 3) := by decide +kernel
theorem dX5_cutAll_60 : decode cX5_cutAll 60 = .ok (.iconst 1, 1) := by decide +kernel
theorem dX5_cutAll_61 : decode cX5_cutAll 61 = .ok (.ireturn, 1) := by decide +kernel
theorem dX5_hangFrom_0 : decode cX5_hangFrom 0 = .ok (.aload_n 0, 1) := by decide +kernel
theorem dX5_hangFrom_1 : decode cX5_hangFrom 1 = .ok (.aload_n 1, 1) := by decide +kernel
theorem dX5_hangFrom_2 : decode cX5_hangFrom 2 = .ok (.iload_n 3, 1) := by decide +kernel
theorem dX5_hangFrom_3 : decode cX5_hangFrom 3 = .ok (.invokevirtual 52, 3) := by decide +kernel
theorem dX5_hangFrom_6 : decode cX5_hangFrom 6 = .ok (.pop, 1) := by decide +kernel
theorem dX5_hangFrom_7 : decode cX5_hangFrom 7 = .ok (.aload_n 1, 1) := by decide +kernel
theorem dX5_hangFrom_8 : decode cX5_hangFrom 8 = .ok (.dup, 1) := by decide +kernel
theorem dX5_hangFrom_9 : decode cX5_hangFrom 9 = .ok (.getfield 67, 3) := by decide +kernel
theorem dX5_hangFrom_12 : decode cX5_hangFrom 12 = .ok (.aload_n 0, 1) := by decide +kernel
theorem dX5_hangFrom_13 : decode cX5_hangFrom 13 = .ok (.getfield 20, 3) := by decide +kernel
theorem dX5_hangFrom_16 : decode cX5_hangFrom 16 = .ok (.getfield 56, 3) := by decide +kernel
theorem dX5_hangFrom_19 : decode cX5_hangFrom 19 = .ok (.isub, 1) := by decide +kernel
theorem dX5_hangFrom_20 : decode cX5_hangFrom 20 = .ok (.putfield 67, 3) := by decide +kernel
theorem dX5_hangFrom_23 : decode cX5_hangFrom 23 = .ok (.aload_n 0, 1) := by decide +kernel
theorem dX5_hangFrom_24 : decode cX5_hangFrom 24 = .ok (.aload_n 1, 1) := by decide +kernel
theorem dX5_hangFrom_25 : decode cX5_hangFrom 25 = .ok (.putfield 24, 3) := by decide +kernel
theorem dX5_hangFrom_28 : decode cX5_hangFrom 28 = .ok (.aload_n 0, 1) := by decide +kernel
theorem dX5_hangFrom_29 : decode cX5_hangFrom 29 = .ok (.iload_n 2, 1) := by decide +kernel
theorem dX5_hangFrom_30 : decode cX5_hangFrom 30 = .ok (.putfield 70, 3) := by decide +kernel
theorem dX5_hangFrom_33 : decode cX5_hangFrom 33 = .ok (.aload_n 0, 1) := by decide +kernel
theorem dX5_hangFrom_34 : decode cX5_hangFrom 34 = .ok (.getfield 20, 3) := by decide +kernel
theorem dX5_hangFrom_37 : decode cX5_hangFrom 37 = .ok (.getfield 56, 3) := by decide +kernel
theorem dX5_hangFrom_40 : decode cX5_hangFrom 40 = .ok (.ireturn, 1) := by decide +kernel
theorem dX5_lengthenFrom_0 : decode cX5_lengthenFrom 0 = .ok (.aload_n 2, 1) := by decide +kernel
theorem dX5_lengthenFrom_1 : decode cX5_lengthenFrom 1 = .ok (.getfield 73, 3) := by decide +kernel
theorem dX5_lengthenFrom_4 : decode cX5_lengthenFrom 4 = .ok (.istore 4, 2) := by decide +kernel
theorem dX5_lengthenFrom_6 : decode cX5_lengthenFrom 6 = .ok (.aload_n 0, 1) := by decide +kernel
theorem dX5_lengthenFrom_7 : decode cX5_lengthenFrom 7 = .ok (.getfield 20, 3) := by decide +kernel
theorem dX5_lengthenFrom_10 : decode cX5_lengthenFrom 10 = .ok (.getfield 56, 3) := by decide +kernel
theorem dX5_lengthenFrom_13 : decode cX5_lengthenFrom 13 = .ok (.istore 5, 2) := by decide +kernel
theorem dX5_lengthenFrom_15 : decode cX5_lengthenFrom 15 = .ok (.aload_n 0, 1) := by decide +kernel
theorem dX5_lengthenFrom_16 : decode cX5_lengthenFrom 16 = .ok (.getfield 20, 3) := by decide +kernel
theorem dX5_lengthenFrom_19 : decode cX5_lengthenFrom 19 = .ok (.iload 5, 2) := by decide +kernel
theorem dX5_lengthenFrom_21 : decode cX5_lengthenFrom 21 = .ok (.aload_n 1, 1) := by decide +kernel
theorem dX5_lengthenFrom_22 : decode cX5_lengthenFrom 22 = .ok (.getfield 67, 3) := by decide +kernel
theorem dX5_lengthenFrom_25 : decode cX5_lengthenFrom 25 = .ok (.iadd, 1) := by decide +kernel
theorem dX5_lengthenFrom_26 : decode cX5_lengthenFrom 26 = .ok (.putfield 76, 3) := by decide +kernel
theorem dX5_lengthenFrom_29 : decode cX5_lengthenFrom 29 = .ok (.aload_n 2, 1) := by decide +kernel
theorem dX5_lengthenFrom_30 : decode cX5_lengthenFrom 30 = .ok (.iload 4, 2) := by decide +kernel
theorem dX5_lengthenFrom_32 : decode cX5_lengthenFrom 32 = .ok (.iload_n 3, 1) := by decide +kernel
theorem dX5_lengthenFrom_33 : decode cX5_lengthenFrom 33 = .ok (.iadd, 1) := by decide +kernel
theorem dX5_lengthenFrom_34 : decode cX5_lengthenFrom 34 = .ok (.putfield 73, 3) := by decide +kernel
theorem dX5_lengthenFrom_37 : decode cX5_lengthenFrom 37 = .ok (.aload_n 2, 1) := by decide +kernel
theorem dX5_lengthenFrom_38 : decode cX5_lengthenFrom 38 = .ok (.aload_n 0, 1) := by decide +kernel
theorem dX5_lengthenFrom_39 : decode cX5_lengthenFrom 39 = .ok (.getfield 20, 3) := by decide +kernel
theorem dX5_lengthenFrom_42 : decode cX5_lengthenFrom 42 = .ok (.iload 4, 2) := by decide +kernel
theorem dX5_lengthenFrom_44 : decode cX5_lengthenFrom 44 = .ok (.invokevirtual 63, 3) := by decide +kernel
theorem dX5_lengthenFrom_47 : decode cX5_lengthenFrom 47 = .ok (.istore 6, 2) := by decide +kernel
theorem dX5_lengthenFrom_49 : decode cX5_lengthenFrom 49 = .ok (.iload 6, 2) := by decide +kernel
theorem dX5_lengthenFrom_51 : decode cX5_lengthenFrom 51 = .ok (.ifCond .eq 22, 3) := by decide +kernel
theorem dX5_lengthenFrom_54 : decode cX5_lengthenFrom 54 = .ok (.aload_n 1, 1) := by decide +kernel
theorem dX5_lengthenFrom_55 : decode cX5_lengthenFrom 55 = .ok (.dup, 1) := by decide +kernel
theorem dX5_lengthenFrom_56 : decode cX5_lengthenFrom 56 = .ok (.getfield 67, 3) := by decide +kernel
theorem dX5_lengthenFrom_59 : decode cX5_lengthenFrom 59 = .ok (.aload_n 0, 1) := by decide +kernel
theorem dX5_lengthenFrom_60 : decode cX5_lengthenFrom 60 = .ok (.getfield 20, 3) := by decide +kernel
theorem dX5_lengthenFrom_63 : decode cX5_lengthenFrom 63 = .ok (.getfield 56, 3) := by decide +kernel
theorem dX5_lengthenFrom_66 : decode cX5_lengthenFrom 66 = .ok (.iload 5, 2) := by decide +kernel
theorem dX5_lengthenFrom_68 : decode cX5_lengthenFrom 68 = .ok (.isub, 1) := by decide +kernel
theorem dX5_lengthenFrom_69 : decode cX5_lengthenFrom 69 = .ok (.isub, 1) := by decide +kernel
theorem dX5_lengthenFrom_70 : decode cX5_lengthenFrom 70 = .ok (.putfield 67, 3) := by decide +kernel
theorem dX5_lengthenFrom_73 : decode cX5_lengthenFrom 73 = .ok (.iload 6, 2) := by decide +kernel
theorem dX5_lengthenFrom_75 : decode cX5_lengthenFrom 75 = .ok (.ireturn, 1) := by decide +kernel
theorem dX5_allDrops_0 : decode cX5_allDrops 0 = .ok (.iconst 0, 1) := by decide +kernel
theorem dX5_allDrops_1 : decode cX5_allDrops 1 = .ok (.istore_n 1, 1) := by decide +kernel
theorem dX5_allDrops_2 : decode cX5_allDrops 2 = .ok (.aload_n 0, 1) := by decide +kernel
theorem dX5_allDrops_3 : decode cX5_allDrops 3 = .ok (.getfield 11, 3) := by decide +kernel
theorem dX5_allDrops_6 : decode cX5_allDrops 6 = .ok (.astore_n 2, 1) := by decide +kernel
theorem dX5_allDrops_7 : decode cX5_allDrops 7 = .ok (.aload_n 2, 1) := by decide +kernel
theorem dX5_allDrops_8 : decode cX5_allDrops 8 = .ok (.arraylength, 1) := by decide +kernel
theorem dX5_allDrops_9 : decode cX5_allDrops 9 = .ok (.istore_n 3, 1) := by decide +kernel
theorem dX5_allDrops_10 : decode cX5_allDrops 10 = .ok (.iconst 0, 1) := by decide +kernel
theorem dX5_allDrops_11 : decode cX5_allDrops 11 = .ok (.istore 4, 2) := by decide +kernel
theorem dX5_allDrops_13 : decode cX5_allDrops 13 = .ok (.iload 4, 2) := by decide +kernel
theorem dX5_allDrops_15 : decode cX5_allDrops 15 = .ok (.iload_n 3, 1) := by decide +kernel
theorem dX5_allDrops_16 : decode cX5_allDrops 16 = .ok (.if_icmp .ge 32, 3) := by decide +kernel
theorem dX5_allDrops_19 : decode cX5_allDrops 19 = .ok (.aload_n 2, 1) := by decide +kernel
theorem dX5_allDrops_20 : decode cX5_allDrops 20 = .ok (.iload 4, 2) := by decide +kernel
theorem dX5_allDrops_22 : decode cX5_allDrops 22 = .ok (.aaload, 1) := by decide +kernel
theorem dX5_allDrops_23 : decode cX5_allDrops 23 = .ok (.astore 5, 2) := by decide +kernel
theorem dX5_allDrops_25 : decode cX5_allDrops 25 = .ok (.iload_n 1, 1) := by decide +kernel
theorem dX5_allDrops_26 : decode cX5_allDrops 26 = .ok (.aload 5, 2) := by decide +kernel
theorem dX5_allDrops_28 : decode cX5_allDrops 28 = .ok (.ifnonnull 7, 3) := by decide +kernel
theorem dX5_allDrops_31 : decode cX5_allDrops 31 = .ok (.iconst 0, 1) := by decide +kernel
theorem dX5_allDrops_32 : decode cX5_allDrops 32 = .ok (.goto 8, 3) := by decide +kernel
theorem dX5_allDrops_35 : decode cX5_allDrops 35 = .ok (.aload 5, 2) := by decide +kernel
theorem dX5_allDrops_37 : decode cX5_allDrops 37 = .ok (.getfield 73, 3) := by decide +kernel
theorem dX5_allDrops_40 : decode cX5_allDrops 40 = .ok (.iadd, 1) := by decide +kernel
theorem dX5_allDrops_41 : decode cX5_allDrops 41 = .ok (.istore_n 1, 1) := by decide +kernel
theorem dX5_allDrops_42 : decode cX5_allDrops 42 = .ok (.iinc 4 1, 3) := by decide +kernel
theorem dX5_allDrops_45 : decode cX5_allDrops 45 = .ok (.goto (-32), 3) := by decide +kernel
theorem dX5_allDrops_48 : decode cX5_allDrops 48 = .ok (.iload_n 1, 1) := by decide +kernel
theorem dX5_allDrops_49 : decode cX5_allDrops 49 = .ok (.ireturn, 1) := by decide +kernel
theorem dX5_waste_0 : decode cX5_waste 0 = .ok (.aload_n 0, 1) := by decide +kernel
theorem dX5_waste_1 : decode cX5_waste 1 = .ok (.getfield 24, 3) := by decide +kernel
theorem dX5_waste_4 : decode cX5_waste 4 = .ok (.ifnonnull 5, 3) := by decide +kernel
theorem dX5_waste_7 : decode cX5_waste 7 = .ok (.iconst (-1), 1) := by decide +kernel
theorem dX5_waste_8 : decode cX5_waste 8 = .ok (.ireturn, 1) := by decide +kernel
theorem dX5_waste_9 : decode cX5_waste 9 = .ok (.aload_n 0, 1) := by decide +kernel
theorem dX5_waste_10 : decode cX5_waste 10 = .ok (.getfield 20, 3) := by decide +kernel
theorem dX5_waste_13 : decode cX5_waste 13 = .ok (.getfield 56, 3) := by decide +kernel
theorem dX5_waste_16 : decode cX5_waste 16 = .ok (.aload_n 0, 1) := by decide +kernel
theorem dX5_waste_17 : decode cX5_waste 17 = .ok (.getfield 24, 3) := by decide +kernel
theorem dX5_waste_20 : decode cX5_waste 20 = .ok (.getfield 79, 3) := by decide +kernel
theorem dX5_waste_23 : decode cX5_waste 23 = .ok (.imul, 1) := by decide +kernel
theorem dX5_waste_24 : decode cX5_waste 24 = .ok (.istore_n 1, 1) := by decide +kernel
theorem dX5_waste_25 : decode cX5_waste 25 = .ok (.aload_n 0, 1) := by decide +kernel
theorem dX5_waste_26 : decode cX5_waste 26 = .ok (.getfield 11, 3) := by decide +kernel
theorem dX5_waste_29 : decode cX5_waste 29 = .ok (.astore_n 2, 1) := by decide +kernel
theorem dX5_waste_30 : decode cX5_waste 30 = .ok (.aload_n 2, 1) := by decide +kernel
theorem dX5_waste_31 : decode cX5_waste 31 = .ok (.arraylength, 1) := by decide +kernel
theorem dX5_waste_32 : decode cX5_waste 32 = .ok (.istore_n 3, 1) := by decide +kernel
theorem dX5_waste_33 : decode cX5_waste 33 = .ok (.iconst 0, 1) := by decide +kernel
theorem dX5_waste_34 : decode cX5_waste 34 = .ok (.istore 4, 2) := by decide +kernel
theorem dX5_waste_36 : decode cX5_waste 36 = .ok (.iload 4, 2) := by decide +kernel
theorem dX5_waste_38 : decode cX5_waste 38 = .ok (.iload_n 3, 1) := by decide +kernel
theorem dX5_waste_39 : decode cX5_waste 39 = .ok (.if_icmp .ge 38, 3) := by decide +kernel
theorem dX5_waste_42 : decode cX5_waste 42 = .ok (.aload_n 2, 1) := by decide +kernel
theorem dX5_waste_43 : decode cX5_waste 43 = .ok (.iload 4, 2) := by decide +kernel
theorem dX5_waste_45 : decode cX5_waste 45 = .ok (.aaload, 1) := by decide +kernel
theorem dX5_waste_46 : decode cX5_waste 46 = .ok (.astore 5, 2) := by decide +kernel
theorem dX5_waste_48 : decode cX5_waste 48 = .ok (.iload_n 1, 1) := by decide +kernel
theorem dX5_waste_49 : decode cX5_waste 49 = .ok (.aload 5, 2) := by decide +kernel
theorem dX5_waste_51 : decode cX5_waste 51 = .ok (.ifnonnull 7, 3) := by decide +kernel
theorem dX5_waste_54 : decode cX5_waste 54 = .ok (.iconst 0, 1) := by decide +kernel
theorem dX5_waste_55 : decode cX5_waste 55 = .ok (.goto 14, 3) := by decide +kernel
theorem dX5_waste_58 : decode cX5_waste 58 = .ok (.aload 5, 2) := by decide +kernel
theorem dX5_waste_60 : decode cX5_waste 60 = .ok (.getfield 73, 3) := by decide +kernel
theorem dX5_waste_63 : decode cX5_waste 63 = .ok (.aload 5, 2) := by decide +kernel
theorem dX5_waste_65 : decode cX5_waste 65 = .ok (.getfield 82, 3) := by decide +kernel
theorem dX5_waste_68 : decode cX5_waste 68 = .ok (.imul, 1) := by decide +kernel
theorem dX5_waste_69 : decode cX5_waste 69 = .ok (.isub, 1) := by decide +kernel
theorem dX5_waste_70 : decode cX5_waste 70 = .ok (.istore_n 1, 1) := by decide +kernel
theorem dX5_waste_71 : decode cX5_waste 71 = .ok (.iinc 4 1, 3) := by decide +kernel
theorem dX5_waste_74 : decode cX5_waste 74 = .ok (.goto (-38), 3) := by decide +kernel
theorem dX5_waste_77 : decode cX5_waste 77 = .ok (.iload_n 1, 1) := by decide +kernel
theorem dX5_waste_78 : decode cX5_waste 78 = .ok (.ireturn, 1) := by decide +kernel
theorem dX6_init_0 : decode cX6_init 0 = .ok (.aload_n 0, 1) := by decide +kernel
theorem dX6_init_1 : decode cX6_init 1 = .ok (.invokespecial 3, 3) := by decide +kernel
theorem dX6_init_4 : decode cX6_init 4 = .ok (.aload_n 0, 1) := by decide +kernel
theorem dX6_init_5 : decode cX6_init 5 = .ok (.bipush 24, 2) := by decide +kernel
theorem dX6_init_7 : decode cX6_init 7 = .ok (.newarray .int, 2) := by decide +kernel
theorem dX6_init_9 : decode cX6_init 9 = .ok (.putfield 9, 3) := by decide +kernel
theorem dX6_init_12 : decode cX6_init 12 = .ok (.aload_n 0, 1) := by decide +kernel
theorem dX6_init_13 : decode cX6_init 13 = .ok (.iload_n 1, 1) := by decide +kernel
theorem dX6_init_14 : decode cX6_init 14 = .ok (.putfield 15, 3) := by decide +kernel
theorem dX6_init_17 : decode cX6_init 17 = .ok (.aload_n 0, 1) := by decide +kernel
theorem dX6_init_18 : decode cX6_init 18 = .ok (.iload_n 2, 1) := by decide +kernel
theorem dX6_init_19 : decode cX6_init 19 = .ok (.putfield 19, 3) := by decide +kernel
theorem dX6_init_22 : decode cX6_init 22 = .ok (.return_, 1) := by decide +kernel
theorem dX6_takeDrops_0 : decode cX6_takeDrops 0 = .ok (.iload_n 2, 1) := by decide +kernel
theorem dX6_takeDrops_1 : decode cX6_takeDrops 1 = .ok (.iconst 0, 1) := by decide +kernel
theorem dX6_takeDrops_2 : decode cX6_takeDrops 2 = .ok (.invokestatic 22, 3) := by decide +kernel
theorem dX6_takeDrops_5 : decode cX6_takeDrops 5 = .ok (.istore_n 3, 1) := by decide +kernel
theorem dX6_takeDrops_6 : decode cX6_takeDrops 6 = .ok (.iload_n 3, 1) := by decide +kernel
theorem dX6_takeDrops_7 : decode cX6_takeDrops 7 = .ok (.aload_n 0, 1) := by decide +kernel
theorem dX6_takeDrops_8 : decode cX6_takeDrops 8 = .ok (.getfield 15, 3) := by decide +kernel
theorem dX6_takeDrops_11 : decode cX6_takeDrops 11 = .ok (.if_icmp .ge 44, 3) := by decide +kernel
theorem dX6_takeDrops_14 : decode cX6_takeDrops 14 = .ok (.iload_n 3, 1) := by decide +kernel
theorem dX6_takeDrops_15 : decode cX6_takeDrops 15 = .ok (.aload_n 0, 1) := by decide +kernel
theorem dX6_takeDrops_16 : decode cX6_takeDrops 16 = .ok (.getfield 9, 3) := by decide +kernel
theorem dX6_takeDrops_19 : decode cX6_takeDrops 19 = .ok (.arraylength, 1) := by decide +kernel
theorem dX6_takeDrops_20 : decode cX6_takeDrops 20 = .ok (.if_icmp .ge 35, 3) := by decide +kernel
theorem dX6_takeDrops_23 : decode cX6_takeDrops 23 = .ok (.aload_n 0, 1) := by decide +kernel
theorem dX6_takeDrops_24 : decode cX6_takeDrops 24 = .ok (.getfield 9, 3) := by decide +kernel
theorem dX6_takeDrops_27 : decode cX6_takeDrops 27 = .ok (.iload_n 3, 1) := by decide +kernel
theorem dX6_takeDrops_28 : decode cX6_takeDrops 28 = .ok (.aload_n 1, 1) := by decide +kernel
theorem dX6_takeDrops_29 : decode cX6_takeDrops 29 = .ok (.aload_n 0, 1) := by decide +kernel
theorem dX6_takeDrops_30 : decode cX6_takeDrops 30 = .ok (.getfield 19, 3) := by decide +kernel
theorem dX6_takeDrops_33 : decode cX6_takeDrops 33 = .ok (.invokevirtual 28, 3) := by decide +kernel
theorem dX6_takeDrops_36 : decode cX6_takeDrops 36 = .ok (.iastore, 1) := by decide +kernel
theorem dX6_takeDrops_37 : decode cX6_takeDrops 37 = .ok (.aload_n 0, 1) := by decide +kernel
theorem dX6_takeDrops_38 : decode cX6_takeDrops 38 = .ok (.getfield 9, 3) := by decide +kernel
theorem dX6_takeDrops_41 : decode cX6_takeDrops 41 = .ok (.iload_n 3, 1) := by decide +kernel
theorem dX6_takeDrops_42 : decode cX6_takeDrops 42 = .ok (.iaload, 1) := by decide +kernel
theorem dX6_takeDrops_43 : decode cX6_takeDrops 43 = .ok (.iconst (-1), 1) := by decide +kernel
theorem dX6_takeDrops_44 : decode cX6_takeDrops 44 = .ok (.if_icmp .ne 5, 3) := by decide +kernel
theorem dX6_takeDrops_47 : decode cX6_takeDrops 47 = .ok (.iconst 0, 1) := by decide +kernel
theorem dX6_takeDrops_48 : decode cX6_takeDrops 48 = .ok (.ireturn, 1) := by decide +kernel
theorem dX6_takeDrops_49 : decode cX6_takeDrops 49 = .ok (.iinc 3 1, 3) := by decide +kernel
theorem dX6_takeDrops_52 : decode cX6_takeDrops 52 = .ok (.goto (-46), 3) := by decide +kernel
theorem dX6_takeDrops_55 : decode cX6_takeDrops 55 = .ok (.iconst 1, 1) := by decide +kernel
theorem dX6_takeDrops_56 : decode cX6_takeDrops 56 = .ok (.ireturn, 1) := by decide +kernel
theorem dX7_init_0 : decode cX7_init 0 = .ok (.aload_n 0, 1) := by decide +kernel
theorem dX7_init_1 : decode cX7_init 1 = .ok (.invokespecial 3, 3) := by decide +kernel
theorem dX7_init_4 : decode cX7_init 4 = .ok (.aload_n 0, 1) := by decide +kernel
theorem dX7_init_5 : decode cX7_init 5 = .ok (.bipush 6, 2) := by decide +kernel
theorem dX7_init_7 : decode cX7_init 7 = .ok (.anewarray 9, 3) := by decide +kernel
theorem dX7_init_10 : decode cX7_init 10 = .ok (.putfield 11, 3) := by decide +kernel
theorem dX7_init_13 : decode cX7_init 13 = .ok (.aload_n 0, 1) := by decide +kernel
theorem dX7_init_14 : decode cX7_init 14 = .ok (.bipush 8, 2) := by decide +kernel
theorem dX7_init_16 : decode cX7_init 16 = .ok (.anewarray 15, 3) := by decide +kernel
theorem dX7_init_19 : decode cX7_init 19 = .ok (.putfield 17, 3) := by decide +kernel
theorem dX7_init_22 : decode cX7_init 22 = .ok (.aload_n 0, 1) := by decide +kernel
theorem dX7_init_23 : decode cX7_init 23 = .ok (.bipush 10, 2) := by decide +kernel
theorem dX7_init_25 : decode cX7_init 25 = .ok (.anewarray 21, 3) := by decide +kernel
theorem dX7_init_28 : decode cX7_init 28 = .ok (.putfield 23, 3) := by decide +kernel
theorem dX7_init_31 : decode cX7_init 31 = .ok (.aload_n 0, 1) := by decide +kernel
theorem dX7_init_32 : decode cX7_init 32 = .ok (.iconst 4, 1) := by decide +kernel
theorem dX7_init_33 : decode cX7_init 33 = .ok (.anewarray 27, 3) := by decide +kernel
theorem dX7_init_36 : decode cX7_init 36 = .ok (.putfield 29, 3) := by decide +kernel
theorem dX7_init_39 : decode cX7_init 39 = .ok (.iconst 0, 1) := by decide +kernel
theorem dX7_init_40 : decode cX7_init 40 = .ok (.istore_n 1, 1) := by decide +kernel
theorem dX7_init_41 : decode cX7_init 41 = .ok (.iload_n 1, 1) := by decide +kernel
theorem dX7_init_42 : decode cX7_init 42 = .ok (.aload_n 0, 1) := by decide +kernel
theorem dX7_init_43 : decode cX7_init 43 = .ok (.getfield 29, 3) := by decide +kernel
theorem dX7_init_46 : decode cX7_init 46 = .ok (.arraylength, 1) := by decide +kernel
theorem dX7_init_47 : decode cX7_init 47 = .ok (.if_icmp .ge 22, 3) := by decide +kernel
theorem dX7_init_50 : decode cX7_init 50 = .ok (.aload_n 0, 1) := by decide +kernel
theorem dX7_init_51 : decode cX7_init 51 = .ok (.getfield 29, 3) := by decide +kernel
theorem dX7_init_54 : decode cX7_init 54 = .ok (.iload_n 1, 1) := by decide +kernel
theorem dX7_init_55 : decode cX7_init 55 = .ok (.new 27, 3) := by decide +kernel
theorem dX7_init_58 : decode cX7_init 58 = .ok (.dup, 1) := by decide +kernel
theorem dX7_init_59 : decode cX7_init 59 = .ok (.invokespecial 33, 3) := by decide +kernel
theorem dX7_init_62 : decode cX7_init 62 = .ok (.aastore, 1) := by decide +kernel
theorem dX7_init_63 : decode cX7_init 63 = .ok (.iinc 1 1, 3) := by decide +kernel
theorem dX7_init_66 : decode cX7_init 66 = .ok (.goto (-25), 3) := by decide +kernel
theorem dX7_init_69 : decode cX7_init 69 = .ok (.return_, 1) := by decide +kernel
theorem dX7_pattern_0 : decode cX7_pattern 0 = .ok (.iload_n 1, 1) := by decide +kernel
theorem dX7_pattern_1 : decode cX7_pattern 1 = .ok (.iconst 1, 1) := by decide +kernel
theorem dX7_pattern_2 : decode cX7_pattern 2 = .ok (.iconst 5, 1) := by decide +kernel
theorem dX7_pattern_3 : decode cX7_pattern 3 = .ok (.invokestatic 34, 3) := by decide +kernel
theorem dX7_pattern_6 : decode cX7_pattern 6 = .ok (.iload_n 2, 1) := by decide +kernel
theorem dX7_pattern_7 : decode cX7_pattern 7 = .ok (.iconst 1, 1) := by decide +kernel
theorem dX7_pattern_8 : decode cX7_pattern 8 = .ok (.iconst 5, 1) := by decide +kernel
theorem dX7_pattern_9 : decode cX7_pattern 9 = .ok (.invokestatic 34, 3) := by decide +kernel
theorem dX7_pattern_12 : decode cX7_pattern 12 = .ok (.iload_n 3, 1) := by decide +kernel
theorem dX7_pattern_13 : decode cX7_pattern 13 = .ok (.iconst 0, 1) := by decide +kernel
theorem dX7_pattern_14 : decode cX7_pattern 14 = .ok (.iconst 5, 1) := by decide +kernel
theorem dX7_pattern_15 : decode cX7_pattern 15 = .ok (.invokestatic 34, 3) := by decide +kernel
theorem dX7_pattern_18 : decode cX7_pattern 18 = .ok (.iload_n 3, 1) := by decide +kernel
theorem dX7_pattern_19 : decode cX7_pattern 19 = .ok (.iconst 5, 1) := by decide +kernel
theorem dX7_pattern_20 : decode cX7_pattern 20 = .ok (.if_icmp .ne 18, 3) := by decide +kernel
theorem dX7_pattern_23 : decode cX7_pattern 23 = .ok (.iload_n 1, 1) := by decide +kernel
theorem dX7_pattern_24 : decode cX7_pattern 24 = .ok (.iload_n 2, 1) := by decide +kernel
theorem dX7_pattern_25 : decode cX7_pattern 25 = .ok (.if_icmp .eq 13, 3) := by decide +kernel
theorem dX7_pattern_28 : decode cX7_pattern 28 = .ok (.new 38, 3) := by decide +kernel
theorem dX7_pattern_31 : decode cX7_pattern 31 = .ok (.dup, 1) := by decide +kernel
theorem dX7_pattern_32 : decode cX7_pattern 32 = .ok (.ldc 40, 2) := by decide +kernel
theorem dX7_pattern_34 : decode cX7_pattern 34 = .ok (.invokespecial 42, 3) := by decide +kernel
theorem dX7_pattern_37 : decode cX7_pattern 37 = .ok (.athrow, 1) := by decide +kernel
theorem dX7_pattern_38 : decode cX7_pattern 38 = .ok (.aload_n 0, 1) := by decide +kernel
theorem dX7_pattern_39 : decode cX7_pattern 39 = .ok (.getfield 45, 3) := by decide +kernel
theorem dX7_pattern_42 : decode cX7_pattern 42 = .ok (.istore 4, 2) := by decide +kernel
theorem dX7_pattern_44 : decode cX7_pattern 44 = .ok (.iload 4, 2) := by decide +kernel
theorem dX7_pattern_46 : decode cX7_pattern 46 = .ok (.ifCond .lt 13, 3) := by decide +kernel
theorem dX7_pattern_49 : decode cX7_pattern 49 = .ok (.iload 4, 2) := by decide +kernel
theorem dX7_pattern_51 : decode cX7_pattern 51 = .ok (.aload_n 0, 1) := by decide +kernel
theorem dX7_pattern_52 : decode cX7_pattern 52 = .ok (.getfield 11, 3) := by decide +kernel
theorem dX7_pattern_55 : decode cX7_pattern 55 = .ok (.arraylength, 1) := by decide +kernel
theorem dX7_pattern_56 : decode cX7_pattern 56 = .ok (.if_icmp .lt 13, 3) := by decide +kernel
theorem dX7_pattern_59 : decode cX7_pattern 59 = .ok (.new 49, 3) := by decide +kernel
theorem dX7_pattern_62 : decode cX7_pattern 62 = .ok (.dup, 1) := by decide +kernel
theorem dX7_pattern_63 : decode cX7_pattern 63 = .ok (.ldc 51, 2) := by decide +kernel
theorem dX7_pattern_65 : decode cX7_pattern 65 = .ok (.invokespecial 53, 3) := by decide +kernel
theorem dX7_pattern_68 : decode cX7_pattern 68 = .ok (.athrow, 1) := by decide +kernel
theorem dX7_pattern_69 : decode cX7_pattern 69 = .ok (.aload_n 0, 1) := by decide +kernel
theorem dX7_pattern_70 : decode cX7_pattern 70 = .ok (.getfield 11, 3) := by decide +kernel
theorem dX7_pattern_73 : decode cX7_pattern 73 = .ok (.iload 4, 2) := by decide +kernel
theorem dX7_pattern_75 : decode cX7_pattern 75 = .ok (.new 9, 3) := by decide +kernel
theorem dX7_pattern_78 : decode cX7_pattern 78 = .ok (.dup, 1) := by decide +kernel
theorem dX7_pattern_79 : decode cX7_pattern 79 = .ok (.iload_n 1, 1) := by decide +kernel
theorem dX7_pattern_80 : decode cX7_pattern 80 = .ok (.iload_n 2, 1) := by decide +kernel
theorem dX7_pattern_81 : decode cX7_pattern 81 = .ok (.iload_n 3, 1) := by decide +kernel
theorem dX7_pattern_82 : decode cX7_pattern 82 = .ok (.invokespecial 54, 3) := by decide +kernel
theorem dX7_pattern_85 : decode cX7_pattern 85 = .ok (.aastore, 1) := by decide +kernel
theorem dX7_pattern_86 : decode cX7_pattern 86 = .ok (.aload_n 0, 1) := by decide +kernel
theorem dX7_pattern_87 : decode cX7_pattern 87 = .ok (.iload 4, 2) := by decide +kernel
theorem dX7_pattern_89 : decode cX7_pattern 89 = .ok (.iconst 1, 1) := by decide +kernel
theorem dX7_pattern_90 : decode cX7_pattern 90 = .ok (.iadd, 1) := by decide +kernel
theorem dX7_pattern_91 : decode cX7_pattern 91 = .ok (.putfield 45, 3) := by decide +kernel
theorem dX7_pattern_94 : decode cX7_pattern 94 = .ok (.iload 4, 2) := by decide +kernel
theorem dX7_pattern_96 : decode cX7_pattern 96 = .ok (.ireturn, 1) := by decide +kernel
theorem dX7_paint_0 : decode cX7_paint 0 = .ok (.aload_n 0, 1) := by decide +kernel
theorem dX7_paint_1 : decode cX7_paint 1 = .ok (.iload_n 1, 1) := by decide +kernel
theorem dX7_paint_2 : decode cX7_paint 2 = .ok (.invokevirtual 56, 3) := by decide +kernel
theorem dX7_paint_5 : decode cX7_paint 5 = .ok (.astore 5, 2) := by decide +kernel
theorem dX7_paint_7 : decode cX7_paint 7 = .ok (.aload 5, 2) := by decide +kernel
theorem dX7_paint_9 : decode cX7_paint 9 = .ok (.getfield 60, 3) := by decide +kernel
theorem dX7_paint_12 : decode cX7_paint 12 = .ok (.iload_n 2, 1) := by decide +kernel
theorem dX7_paint_13 : decode cX7_paint 13 = .ok (.iload_n 3, 1) := by decide +kernel
theorem dX7_paint_14 : decode cX7_paint 14 = .ok (.invokevirtual 64, 3) := by decide +kernel
theorem dX7_paint_17 : decode cX7_paint 17 = .ok (.ifCond .ne 13, 3) := by decide +kernel
theorem dX7_paint_20 : decode cX7_paint 20 = .ok (.new 70, 3) := by decide +kernel
theorem dX7_paint_23 : decode cX7_paint 23 = .ok (.dup, 1) := by decide +kernel
theorem dX7_paint_24 : decode cX7_paint 24 = .ok (.ldc 72, 2) := by decide +kernel
theorem dX7_paint_26 : decode cX7_paint 26 = .ok (.invokespecial 74, 3) := by decide +kernel
theorem dX7_paint_29 : decode cX7_paint 29 = .ok (.athrow, 1) := by decide +kernel
theorem dX7_paint_30 : decode cX7_paint 30 = .ok (.iload 4, 2) := by decide +kernel
theorem dX7_paint_32 : decode cX7_paint 32 = .ok (.iconst 0, 1) := by decide +kernel
theorem dX7_paint_33 : decode cX7_paint 33 = .ok (.bipush 7, 2) := by decide +kernel
theorem dX7_paint_35 : decode cX7_paint 35 = .ok (.invokestatic 34, 3) := by decide +kernel
theorem dX7_paint_38 : decode cX7_paint 38 = .ok (.aload 5, 2) := by decide +kernel
theorem dX7_paint_40 : decode cX7_paint 40 = .ok (.getfield 60, 3) := by decide +kernel
theorem dX7_paint_43 : decode cX7_paint 43 = .ok (.iload_n 2, 1) := by decide +kernel
theorem dX7_paint_44 : decode cX7_paint 44 = .ok (.iload_n 3, 1) := by decide +kernel
theorem dX7_paint_45 : decode cX7_paint 45 = .ok (.invokevirtual 75, 3) := by decide +kernel
theorem dX7_paint_48 : decode cX7_paint 48 = .ok (.istore 6, 2) := by decide +kernel
theorem dX7_paint_50 : decode cX7_paint 50 = .ok (.aload 5, 2) := by decide +kernel
theorem dX7_paint_52 : decode cX7_paint 52 = .ok (.getfield 60, 3) := by decide +kernel
theorem dX7_paint_55 : decode cX7_paint 55 = .ok (.iload_n 2, 1) := by decide +kernel
theorem dX7_paint_56 : decode cX7_paint 56 = .ok (.iload_n 3, 1) := by decide +kernel
theorem dX7_paint_57 : decode cX7_paint 57 = .ok (.iload 4, 2) := by decide +kernel
theorem dX7_paint_59 : decode cX7_paint 59 = .ok (.invokevirtual 79, 3) := by decide +kernel
theorem dX7_paint_62 : decode cX7_paint 62 = .ok (.iload 6, 2) := by decide +kernel
theorem dX7_paint_64 : decode cX7_paint 64 = .ok (.ireturn, 1) := by decide +kernel
theorem dX7_colour_0 : decode cX7_colour 0 = .ok (.aload_n 0, 1) := by decide +kernel
theorem dX7_colour_1 : decode cX7_colour 1 = .ok (.iload_n 1, 1) := by decide +kernel
theorem dX7_colour_2 : decode cX7_colour 2 = .ok (.invokevirtual 56, 3) := by decide +kernel
theorem dX7_colour_5 : decode cX7_colour 5 = .ok (.iload_n 2, 1) := by decide +kernel
theorem dX7_colour_6 : decode cX7_colour 6 = .ok (.iload_n 3, 1) := by decide +kernel
theorem dX7_colour_7 : decode cX7_colour 7 = .ok (.invokevirtual 82, 3) := by decide +kernel
theorem dX7_colour_10 : decode cX7_colour 10 = .ok (.ireturn, 1) := by decide +kernel
theorem dX7_repeat_0 : decode cX7_repeat 0 = .ok (.aload_n 0, 1) := by decide +kernel
theorem dX7_repeat_1 : decode cX7_repeat 1 = .ok (.iload_n 1, 1) := by decide +kernel
theorem dX7_repeat_2 : decode cX7_repeat 2 = .ok (.invokevirtual 56, 3) := by decide +kernel
theorem dX7_repeat_5 : decode cX7_repeat 5 = .ok (.astore_n 3, 1) := by decide +kernel
theorem dX7_repeat_6 : decode cX7_repeat 6 = .ok (.iload_n 2, 1) := by decide +kernel
theorem dX7_repeat_7 : decode cX7_repeat 7 = .ok (.ifCond .eq 10, 3) := by decide +kernel
theorem dX7_repeat_10 : decode cX7_repeat 10 = .ok (.aload_n 3, 1) := by decide +kernel
theorem dX7_repeat_11 : decode cX7_repeat 11 = .ok (.getfield 83, 3) := by decide +kernel
theorem dX7_repeat_14 : decode cX7_repeat 14 = .ok (.goto 7, 3) := by decide +kernel
theorem dX7_repeat_17 : decode cX7_repeat 17 = .ok (.aload_n 3, 1) := by decide +kernel
theorem dX7_repeat_18 : decode cX7_repeat 18 = .ok (.getfield 86, 3) := by decide +kernel
theorem dX7_repeat_21 : decode cX7_repeat 21 = .ok (.ireturn, 1) := by decide +kernel
theorem dX7_repeatAnew_0 : decode cX7_repeatAnew 0 = .ok (.aload_n 0, 1) := by decide +kernel
theorem dX7_repeatAnew_1 : decode cX7_repeatAnew 1 = .ok (.iload_n 1, 1) := by decide +kernel
theorem dX7_repeatAnew_2 : decode cX7_repeatAnew 2 = .ok (.invokevirtual 56, 3) := by decide +kernel
theorem dX7_repeatAnew_5 : decode cX7_repeatAnew 5 = .ok (.iload_n 2, 1) := by decide +kernel
theorem dX7_repeatAnew_6 : decode cX7_repeatAnew 6 = .ok (.invokevirtual 89, 3) := by decide +kernel
theorem dX7_repeatAnew_9 : decode cX7_repeatAnew 9 = .ok (.ireturn, 1) := by decide +kernel
theorem dX7_roller_0 : decode cX7_roller 0 = .ok (.aload_n 0, 1) := by decide +kernel
theorem dX7_roller_1 : decode cX7_roller 1 = .ok (.iload_n 1, 1) := by decide +kernel
theorem dX7_roller_2 : decode cX7_roller 2 = .ok (.invokevirtual 56, 3) := by decide +kernel
theorem dX7_roller_5 : decode cX7_roller 5 = .ok (.astore_n 3, 1) := by decide +kernel
theorem dX7_roller_6 : decode cX7_roller 6 = .ok (.iload_n 2, 1) := by decide +kernel
theorem dX7_roller_7 : decode cX7_roller 7 = .ok (.iconst 1, 1) := by decide +kernel
theorem dX7_roller_8 : decode cX7_roller 8 = .ok (.bipush 60, 2) := by decide +kernel
theorem dX7_roller_10 : decode cX7_roller 10 = .ok (.invokestatic 34, 3) := by decide +kernel
theorem dX7_roller_13 : decode cX7_roller 13 = .ok (.iload_n 2, 1) := by decide +kernel
theorem dX7_roller_14 : decode cX7_roller 14 = .ok (.aload_n 3, 1) := by decide +kernel
theorem dX7_roller_15 : decode cX7_roller 15 = .ok (.getfield 83, 3) := by decide +kernel
theorem dX7_roller_18 : decode cX7_roller 18 = .ok (.invokestatic 93, 3) := by decide +kernel
theorem dX7_roller_21 : decode cX7_roller 21 = .ok (.ifCond .eq 13, 3) := by decide +kernel
theorem dX7_roller_24 : decode cX7_roller 24 = .ok (.new 49, 3) := by decide +kernel
theorem dX7_roller_27 : decode cX7_roller 27 = .ok (.dup, 1) := by decide +kernel
theorem dX7_roller_28 : decode cX7_roller 28 = .ok (.ldc 96, 2) := by decide +kernel
theorem dX7_roller_30 : decode cX7_roller 30 = .ok (.invokespecial 53, 3) := by decide +kernel
theorem dX7_roller_33 : decode cX7_roller 33 = .ok (.athrow, 1) := by decide +kernel
theorem dX7_roller_34 : decode cX7_roller 34 = .ok (.aload_n 0, 1) := by decide +kernel
theorem dX7_roller_35 : decode cX7_roller 35 = .ok (.getfield 98, 3) := by decide +kernel
theorem dX7_roller_38 : decode cX7_roller 38 = .ok (.istore 4, 2) := by decide +kernel
theorem dX7_roller_40 : decode cX7_roller 40 = .ok (.iload 4, 2) := by decide +kernel
theorem dX7_roller_42 : decode cX7_roller 42 = .ok (.ifCond .lt 13, 3) := by decide +kernel
theorem dX7_roller_45 : decode cX7_roller 45 = .ok (.iload 4, 2) := by decide +kernel
theorem dX7_roller_47 : decode cX7_roller 47 = .ok (.aload_n 0, 1) := by decide +kernel
theorem dX7_roller_48 : decode cX7_roller 48 = .ok (.getfield 17, 3) := by decide +kernel
theorem dX7_roller_51 : decode cX7_roller 51 = .ok (.arraylength, 1) := by decide +kernel
theorem dX7_roller_52 : decode cX7_roller 52 = .ok (.if_icmp .lt 13, 3) := by decide +kernel
theorem dX7_roller_55 : decode cX7_roller 55 = .ok (.new 49, 3) := by decide +kernel
theorem dX7_roller_58 : decode cX7_roller 58 = .ok (.dup, 1) := by decide +kernel
theorem dX7_roller_59 : decode cX7_roller 59 = .ok (.ldc 101, 2) := by decide +kernel
theorem dX7_roller_61 : decode cX7_roller 61 = .ok (.invokespecial 53, 3) := by decide +kernel
theorem dX7_roller_64 : decode cX7_roller 64 = .ok (.athrow, 1) := by decide +kernel
theorem dX7_roller_65 : decode cX7_roller 65 = .ok (.aload_n 0, 1) := by decide +kernel
theorem dX7_roller_66 : decode cX7_roller 66 = .ok (.getfield 17, 3) := by decide +kernel
theorem dX7_roller_69 : decode cX7_roller 69 = .ok (.iload 4, 2) := by decide +kernel
theorem dX7_roller_71 : decode cX7_roller 71 = .ok (.new 15, 3) := by decide +kernel
theorem dX7_roller_74 : decode cX7_roller 74 = .ok (.dup, 1) := by decide +kernel
theorem dX7_roller_75 : decode cX7_roller 75 = .ok (.iload_n 2, 1) := by decide +kernel
theorem dX7_roller_76 : decode cX7_roller 76 = .ok (.aload_n 3, 1) := by decide +kernel
theorem dX7_roller_77 : decode cX7_roller 77 = .ok (.invokevirtual 103, 3) := by decide +kernel
theorem dX7_roller_80 : decode cX7_roller 80 = .ok (.invokespecial 107, 3) := by decide +kernel
theorem dX7_roller_83 : decode cX7_roller 83 = .ok (.aastore, 1) := by decide +kernel
theorem dX7_roller_84 : decode cX7_roller 84 = .ok (.aload_n 0, 1) := by decide +kernel
theorem dX7_roller_85 : decode cX7_roller 85 = .ok (.iload 4, 2) := by decide +kernel
theorem dX7_roller_87 : decode cX7_roller 87 = .ok (.iconst 1, 1) := by decide +kernel
theorem dX7_roller_88 : decode cX7_roller 88 = .ok (.iadd, 1) := by decide +kernel
theorem dX7_roller_89 : decode cX7_roller 89 = .ok (.putfield 98, 3) := by decide +kernel
theorem dX7_roller_92 : decode cX7_roller 92 = .ok (.iload 4, 2) := by decide +kernel
theorem dX7_roller_94 : decode cX7_roller 94 = .ok (.ireturn, 1) := by decide +kernel
theorem dX7_lot_0 : decode cX7_lot 0 = .ok (.aload_n 0, 1) := by decide +kernel
theorem dX7_lot_1 : decode cX7_lot 1 = .ok (.iload_n 1, 1) := by decide +kernel
theorem dX7_lot_2 : decode cX7_lot 2 = .ok (.invokevirtual 110, 3) := by decide +kernel
theorem dX7_lot_5 : decode cX7_lot 5 = .ok (.astore 5, 2) := by decide +kernel
theorem dX7_lot_7 : decode cX7_lot 7 = .ok (.iload_n 2, 1) := by decide +kernel
theorem dX7_lot_8 : decode cX7_lot 8 = .ok (.iconst 0, 1) := by decide +kernel
theorem dX7_lot_9 : decode cX7_lot 9 = .ok (.bipush 9, 2) := by decide +kernel
theorem dX7_lot_11 : decode cX7_lot 11 = .ok (.invokestatic 34, 3) := by decide +kernel
theorem dX7_lot_14 : decode cX7_lot 14 = .ok (.iload_n 3, 1) := by decide +kernel
theorem dX7_lot_15 : decode cX7_lot 15 = .ok (.iconst 1, 1) := by decide +kernel
theorem dX7_lot_16 : decode cX7_lot 16 = .ok (.bipush 20, 2) := by decide +kernel
theorem dX7_lot_18 : decode cX7_lot 18 = .ok (.invokestatic 34, 3) := by decide +kernel
theorem dX7_lot_21 : decode cX7_lot 21 = .ok (.iload 4, 2) := by decide +kernel
theorem dX7_lot_23 : decode cX7_lot 23 = .ok (.iconst 1, 1) := by decide +kernel
theorem dX7_lot_24 : decode cX7_lot 24 = .ok (.sipush 200, 3) := by decide +kernel
theorem dX7_lot_27 : decode cX7_lot 27 = .ok (.invokestatic 34, 3) := by decide +kernel
theorem dX7_lot_30 : decode cX7_lot 30 = .ok (.aload_n 0, 1) := by decide +kernel
theorem dX7_lot_31 : decode cX7_lot 31 = .ok (.getfield 114, 3) := by decide +kernel
theorem dX7_lot_34 : decode cX7_lot 34 = .ok (.istore 6, 2) := by decide +kernel
theorem dX7_lot_36 : decode cX7_lot 36 = .ok (.iload 6, 2) := by decide +kernel
theorem dX7_lot_38 : decode cX7_lot 38 = .ok (.ifCond .lt 13, 3) := by decide +kernel
theorem dX7_lot_41 : decode cX7_lot 41 = .ok (.iload 6, 2) := by decide +kernel
theorem dX7_lot_43 : decode cX7_lot 43 = .ok (.aload_n 0, 1) := by decide +kernel
theorem dX7_lot_44 : decode cX7_lot 44 = .ok (.getfield 23, 3) := by decide +kernel
theorem dX7_lot_47 : decode cX7_lot 47 = .ok (.arraylength, 1) := by decide +kernel
theorem dX7_lot_48 : decode cX7_lot 48 = .ok (.if_icmp .lt 13, 3) := by decide +kernel
theorem dX7_lot_51 : decode cX7_lot 51 = .ok (.new 49, 3) := by decide +kernel
theorem dX7_lot_54 : decode cX7_lot 54 = .ok (.dup, 1) := by decide +kernel
theorem dX7_lot_55 : decode cX7_lot 55 = .ok (.ldc 117, 2) := by decide +kernel
theorem dX7_lot_57 : decode cX7_lot 57 = .ok (.invokespecial 53, 3) := by decide +kernel
theorem dX7_lot_60 : decode cX7_lot 60 = .ok (.athrow, 1) := by decide +kernel
theorem dX7_lot_61 : decode cX7_lot 61 = .ok (.aload_n 0, 1) := by decide +kernel
theorem dX7_lot_62 : decode cX7_lot 62 = .ok (.getfield 23, 3) := by decide +kernel
theorem dX7_lot_65 : decode cX7_lot 65 = .ok (.iload 6, 2) := by decide +kernel
theorem dX7_lot_67 : decode cX7_lot 67 = .ok (.new 21, 3) := by decide +kernel
theorem dX7_lot_70 : decode cX7_lot 70 = .ok (.dup, 1) := by decide +kernel
theorem dX7_lot_71 : decode cX7_lot 71 = .ok (.aload 5, 2) := by decide +kernel
theorem dX7_lot_73 : decode cX7_lot 73 = .ok (.iload_n 1, 1) := by decide +kernel
theorem dX7_lot_74 : decode cX7_lot 74 = .ok (.iload_n 2, 1) := by decide +kernel
theorem dX7_lot_75 : decode cX7_lot 75 = .ok (.iload_n 3, 1) := by decide +kernel
theorem dX7_lot_76 : decode cX7_lot 76 = .ok (.iload 4, 2) := by decide +kernel
theorem dX7_lot_78 : decode cX7_lot 78 = .ok (.invokespecial 119, 3) := by decide +kernel
theorem dX7_lot_81 : decode cX7_lot 81 = .ok (.aastore, 1) := by decide +kernel
theorem dX7_lot_82 : decode cX7_lot 82 = .ok (.aload_n 0, 1) := by decide +kernel
theorem dX7_lot_83 : decode cX7_lot 83 = .ok (.iload 6, 2) := by decide +kernel
theorem dX7_lot_85 : decode cX7_lot 85 = .ok (.iconst 1, 1) := by decide +kernel
theorem dX7_lot_86 : decode cX7_lot 86 = .ok (.iadd, 1) := by decide +kernel
theorem dX7_lot_87 : decode cX7_lot 87 = .ok (.putfield 114, 3) := by decide +kernel
theorem dX7_lot_90 : decode cX7_lot 90 = .ok (.iload 6, 2) := by decide +kernel
theorem dX7_lot_92 : decode cX7_lot 92 = .ok (.ireturn, 1) := by decide +kernel
theorem dX7_lotOf_0 : decode cX7_lotOf 0 = .ok (.aload_n 0, 1) := by decide +kernel
theorem dX7_lotOf_1 : decode cX7_lotOf 1 = .ok (.iload_n 1, 1) := by decide +kernel
theorem dX7_lotOf_2 : decode cX7_lotOf 2 = .ok (.invokevirtual 122, 3) := by decide +kernel
theorem dX7_lotOf_5 : decode cX7_lotOf 5 = .ok (.astore_n 3, 1) := by decide +kernel
theorem dX7_lotOf_6 : decode cX7_lotOf 6 = .ok (.iload_n 2, 1) := by decide +kernel
theorem dX7_lotOf_7 : decode cX7_lotOf 7 = .ok (.tableswitch 58 0 4 #[33, 38, 43, 48, 53], 33) := by decide +kernel
theorem dX7_lotOf_40 : decode cX7_lotOf 40 = .ok (.aload_n 3, 1) := by decide +kernel
theorem dX7_lotOf_41 : decode cX7_lotOf 41 = .ok (.getfield 126, 3) := by decide +kernel
theorem dX7_lotOf_44 : decode cX7_lotOf 44 = .ok (.ireturn, 1) := by decide +kernel
theorem dX7_lotOf_45 : decode cX7_lotOf 45 = .ok (.aload_n 3, 1) := by decide +kernel
theorem dX7_lotOf_46 : decode cX7_lotOf 46 = .ok (.getfield 129, 3) := by decide +kernel
theorem dX7_lotOf_49 : decode cX7_lotOf 49 = .ok (.ireturn, 1) := by decide +kernel
theorem dX7_lotOf_50 : decode cX7_lotOf 50 = .ok (.aload_n 3, 1) := by decide +kernel
theorem dX7_lotOf_51 : decode cX7_lotOf 51 = .ok (.getfield 132, 3) := by decide +kernel
theorem dX7_lotOf_54 : decode cX7_lotOf 54 = .ok (.ireturn, 1) := by decide +kernel
theorem dX7_lotOf_55 : decode cX7_lotOf 55 = .ok (.aload_n 3, 1) := by decide +kernel
theorem dX7_lotOf_56 : decode cX7_lotOf 56 = .ok (.getfield 135, 3) := by decide +kernel
theorem dX7_lotOf_59 : decode cX7_lotOf 59 = .ok (.ireturn, 1) := by decide +kernel
theorem dX7_lotOf_60 : decode cX7_lotOf 60 = .ok (.aload_n 3, 1) := by decide +kernel
theorem dX7_lotOf_61 : decode cX7_lotOf 61 = .ok (.invokevirtual 138, 3) := by decide +kernel
theorem dX7_lotOf_64 : decode cX7_lotOf 64 = .ok (.ireturn, 1) := by decide +kernel
theorem dX7_lotOf_65 : decode cX7_lotOf 65 = .ok (.new 38, 3) := by decide +kernel
theorem dX7_lotOf_68 : decode cX7_lotOf 68 = .ok (.dup, 1) := by decide +kernel
theorem dX7_lotOf_69 : decode cX7_lotOf 69 = .ok (.ldc 142, 2) := by decide +kernel
theorem dX7_lotOf_71 : decode cX7_lotOf 71 = .ok (.invokespecial 42, 3) := by decide +kernel
theorem dX7_lotOf_74 : decode cX7_lotOf 74 = .ok (.athrow, 1) := by decide +kernel
theorem dX7_wall_0 : decode cX7_wall 0 = .ok (.aload_n 0, 1) := by decide +kernel
theorem dX7_wall_1 : decode cX7_wall 1 = .ok (.iload_n 1, 1) := by decide +kernel
theorem dX7_wall_2 : decode cX7_wall 2 = .ok (.invokevirtual 144, 3) := by decide +kernel
theorem dX7_wall_5 : decode cX7_wall 5 = .ok (.astore 4, 2) := by decide +kernel
theorem dX7_wall_7 : decode cX7_wall 7 = .ok (.iload_n 2, 1) := by decide +kernel
theorem dX7_wall_8 : decode cX7_wall 8 = .ok (.iconst 1, 1) := by decide +kernel
theorem dX7_wall_9 : decode cX7_wall 9 = .ok (.bipush 12, 2) := by decide +kernel
theorem dX7_wall_11 : decode cX7_wall 11 = .ok (.invokestatic 34, 3) := by decide +kernel
theorem dX7_wall_14 : decode cX7_wall 14 = .ok (.iload_n 3, 1) := by decide +kernel
theorem dX7_wall_15 : decode cX7_wall 15 = .ok (.iconst 1, 1) := by decide +kernel
theorem dX7_wall_16 : decode cX7_wall 16 = .ok (.bipush 60, 2) := by decide +kernel
theorem dX7_wall_18 : decode cX7_wall 18 = .ok (.invokestatic 34, 3) := by decide +kernel
theorem dX7_wall_21 : decode cX7_wall 21 = .ok (.aload 4, 2) := by decide +kernel
theorem dX7_wall_23 : decode cX7_wall 23 = .ok (.invokevirtual 148, 3) := by decide +kernel
theorem dX7_wall_26 : decode cX7_wall 26 = .ok (.ifCond .eq 13, 3) := by decide +kernel
theorem dX7_wall_29 : decode cX7_wall 29 = .ok (.new 49, 3) := by decide +kernel
theorem dX7_wall_32 : decode cX7_wall 32 = .ok (.dup, 1) := by decide +kernel
theorem dX7_wall_33 : decode cX7_wall 33 = .ok (.ldc 152, 2) := by decide +kernel
theorem dX7_wall_35 : decode cX7_wall 35 = .ok (.invokespecial 53, 3) := by decide +kernel
theorem dX7_wall_38 : decode cX7_wall 38 = .ok (.athrow, 1) := by decide +kernel
theorem dX7_wall_39 : decode cX7_wall 39 = .ok (.aload 4, 2) := by decide +kernel
theorem dX7_wall_41 : decode cX7_wall 41 = .ok (.iload_n 2, 1) := by decide +kernel
theorem dX7_wall_42 : decode cX7_wall 42 = .ok (.iload_n 3, 1) := by decide +kernel
theorem dX7_wall_43 : decode cX7_wall 43 = .ok (.invokevirtual 154, 3) := by decide +kernel
theorem dX7_wall_46 : decode cX7_wall 46 = .ok (.istore 5, 2) := by decide +kernel
theorem dX7_wall_48 : decode cX7_wall 48 = .ok (.iload 5, 2) := by decide +kernel
theorem dX7_wall_50 : decode cX7_wall 50 = .ok (.iconst (-1), 1) := by decide +kernel
theorem dX7_wall_51 : decode cX7_wall 51 = .ok (.if_icmp .ne 13, 3) := by decide +kernel
theorem dX7_wall_54 : decode cX7_wall 54 = .ok (.new 49, 3) := by decide +kernel
theorem dX7_wall_57 : decode cX7_wall 57 = .ok (.dup, 1) := by decide +kernel
theorem dX7_wall_58 : decode cX7_wall 58 = .ok (.ldc 157, 2) := by decide +kernel
theorem dX7_wall_60 : decode cX7_wall 60 = .ok (.invokespecial 53, 3) := by decide +kernel
theorem dX7_wall_63 : decode cX7_wall 63 = .ok (.athrow, 1) := by decide +kernel
theorem dX7_wall_64 : decode cX7_wall 64 = .ok (.iload 5, 2) := by decide +kernel
theorem dX7_wall_66 : decode cX7_wall 66 = .ok (.ireturn, 1) := by decide +kernel
theorem dX7_hang_0 : decode cX7_hang 0 = .ok (.aload_n 0, 1) := by decide +kernel
theorem dX7_hang_1 : decode cX7_hang 1 = .ok (.iload_n 1, 1) := by decide +kernel
theorem dX7_hang_2 : decode cX7_hang 2 = .ok (.invokevirtual 144, 3) := by decide +kernel
theorem dX7_hang_5 : decode cX7_hang 5 = .ok (.astore_n 3, 1) := by decide +kernel
theorem dX7_hang_6 : decode cX7_hang 6 = .ok (.aload_n 0, 1) := by decide +kernel
theorem dX7_hang_7 : decode cX7_hang 7 = .ok (.iload_n 2, 1) := by decide +kernel
theorem dX7_hang_8 : decode cX7_hang 8 = .ok (.invokevirtual 122, 3) := by decide +kernel
theorem dX7_hang_11 : decode cX7_hang 11 = .ok (.astore 4, 2) := by decide +kernel
theorem dX7_hang_13 : decode cX7_hang 13 = .ok (.aload_n 3, 1) := by decide +kernel
theorem dX7_hang_14 : decode cX7_hang 14 = .ok (.invokevirtual 148, 3) := by decide +kernel
theorem dX7_hang_17 : decode cX7_hang 17 = .ok (.ifCond .eq 13, 3) := by decide +kernel
theorem dX7_hang_20 : decode cX7_hang 20 = .ok (.new 49, 3) := by decide +kernel
theorem dX7_hang_23 : decode cX7_hang 23 = .ok (.dup, 1) := by decide +kernel
theorem dX7_hang_24 : decode cX7_hang 24 = .ok (.ldc 152, 2) := by decide +kernel
theorem dX7_hang_26 : decode cX7_hang 26 = .ok (.invokespecial 53, 3) := by decide +kernel
theorem dX7_hang_29 : decode cX7_hang 29 = .ok (.athrow, 1) := by decide +kernel
theorem dX7_hang_30 : decode cX7_hang 30 = .ok (.aload_n 3, 1) := by decide +kernel
theorem dX7_hang_31 : decode cX7_hang 31 = .ok (.getfield 159, 3) := by decide +kernel
theorem dX7_hang_34 : decode cX7_hang 34 = .ok (.ifCond .ne 13, 3) := by decide +kernel
theorem dX7_hang_37 : decode cX7_hang 37 = .ok (.new 49, 3) := by decide +kernel
theorem dX7_hang_40 : decode cX7_hang 40 = .ok (.dup, 1) := by decide +kernel
theorem dX7_hang_41 : decode cX7_hang 41 = .ok (.ldc 162, 2) := by decide +kernel
theorem dX7_hang_43 : decode cX7_hang 43 = .ok (.invokespecial 53, 3) := by decide +kernel
theorem dX7_hang_46 : decode cX7_hang 46 = .ok (.athrow, 1) := by decide +kernel
theorem dX7_hang_47 : decode cX7_hang 47 = .ok (.aload_n 3, 1) := by decide +kernel
theorem dX7_hang_48 : decode cX7_hang 48 = .ok (.aload 4, 2) := by decide +kernel
theorem dX7_hang_50 : decode cX7_hang 50 = .ok (.invokevirtual 164, 3) := by decide +kernel
theorem dX7_hang_53 : decode cX7_hang 53 = .ok (.istore 5, 2) := by decide +kernel
theorem dX7_hang_55 : decode cX7_hang 55 = .ok (.iload 5, 2) := by decide +kernel
theorem dX7_hang_57 : decode cX7_hang 57 = .ok (.iconst (-1), 1) := by decide +kernel
theorem dX7_hang_58 : decode cX7_hang 58 = .ok (.if_icmp .ne 13, 3) := by decide +kernel
theorem dX7_hang_61 : decode cX7_hang 61 = .ok (.new 49, 3) := by decide +kernel
theorem dX7_hang_64 : decode cX7_hang 64 = .ok (.dup, 1) := by decide +kernel
theorem dX7_hang_65 : decode cX7_hang 65 = .ok (.ldc 168, 2) := by decide +kernel
theorem dX7_hang_67 : decode cX7_hang 67 = .ok (.invokespecial 53, 3) := by decide +kernel
theorem dX7_hang_70 : decode cX7_hang 70 = .ok (.athrow, 1) := by decide +kernel
theorem dX7_hang_71 : decode cX7_hang 71 = .ok (.aload_n 3, 1) := by decide +kernel
theorem dX7_hang_72 : decode cX7_hang 72 = .ok (.aload 4, 2) := by decide +kernel
theorem dX7_hang_74 : decode cX7_hang 74 = .ok (.iload_n 2, 1) := by decide +kernel
theorem dX7_hang_75 : decode cX7_hang 75 = .ok (.iload 5, 2) := by decide +kernel
theorem dX7_hang_77 : decode cX7_hang 77 = .ok (.invokevirtual 170, 3) := by decide +kernel
theorem dX7_hang_80 : decode cX7_hang 80 = .ok (.ireturn, 1) := by decide +kernel
theorem dX7_lengthen_0 : decode cX7_lengthen 0 = .ok (.aload_n 0, 1) := by decide +kernel
theorem dX7_lengthen_1 : decode cX7_lengthen 1 = .ok (.iload_n 1, 1) := by decide +kernel
theorem dX7_lengthen_2 : decode cX7_lengthen 2 = .ok (.invokevirtual 144, 3) := by decide +kernel
theorem dX7_lengthen_5 : decode cX7_lengthen 5 = .ok (.astore 4, 2) := by decide +kernel
theorem dX7_lengthen_7 : decode cX7_lengthen 7 = .ok (.aload 4, 2) := by decide +kernel
theorem dX7_lengthen_9 : decode cX7_lengthen 9 = .ok (.iload_n 2, 1) := by decide +kernel
theorem dX7_lengthen_10 : decode cX7_lengthen 10 = .ok (.invokestatic 174, 3) := by decide +kernel
theorem dX7_lengthen_13 : decode cX7_lengthen 13 = .ok (.astore 5, 2) := by decide +kernel
theorem dX7_lengthen_15 : decode cX7_lengthen 15 = .ok (.iload_n 3, 1) := by decide +kernel
theorem dX7_lengthen_16 : decode cX7_lengthen 16 = .ok (.iconst 1, 1) := by decide +kernel
theorem dX7_lengthen_17 : decode cX7_lengthen 17 = .ok (.bipush 12, 2) := by decide +kernel
theorem dX7_lengthen_19 : decode cX7_lengthen 19 = .ok (.invokestatic 34, 3) := by decide +kernel
theorem dX7_lengthen_22 : decode cX7_lengthen 22 = .ok (.aload 4, 2) := by decide +kernel
theorem dX7_lengthen_24 : decode cX7_lengthen 24 = .ok (.getfield 178, 3) := by decide +kernel
theorem dX7_lengthen_27 : decode cX7_lengthen 27 = .ok (.astore 6, 2) := by decide +kernel
theorem dX7_lengthen_29 : decode cX7_lengthen 29 = .ok (.aload 6, 2) := by decide +kernel
theorem dX7_lengthen_31 : decode cX7_lengthen 31 = .ok (.ifnonnull 13, 3) := by decide +kernel
theorem dX7_lengthen_34 : decode cX7_lengthen 34 = .ok (.new 49, 3) := by decide +kernel
theorem dX7_lengthen_37 : decode cX7_lengthen 37 = .ok (.dup, 1) := by decide +kernel
theorem dX7_lengthen_38 : decode cX7_lengthen 38 = .ok (.ldc 182, 2) := by decide +kernel
theorem dX7_lengthen_40 : decode cX7_lengthen 40 = .ok (.invokespecial 53, 3) := by decide +kernel
theorem dX7_lengthen_43 : decode cX7_lengthen 43 = .ok (.athrow, 1) := by decide +kernel
theorem dX7_lengthen_44 : decode cX7_lengthen 44 = .ok (.aload 5, 2) := by decide +kernel
theorem dX7_lengthen_46 : decode cX7_lengthen 46 = .ok (.getfield 184, 3) := by decide +kernel
theorem dX7_lengthen_49 : decode cX7_lengthen 49 = .ok (.iload_n 3, 1) := by decide +kernel
theorem dX7_lengthen_50 : decode cX7_lengthen 50 = .ok (.iadd, 1) := by decide +kernel
theorem dX7_lengthen_51 : decode cX7_lengthen 51 = .ok (.bipush 24, 2) := by decide +kernel
theorem dX7_lengthen_53 : decode cX7_lengthen 53 = .ok (.if_icmp .le 13, 3) := by decide +kernel
theorem dX7_lengthen_56 : decode cX7_lengthen 56 = .ok (.new 49, 3) := by decide +kernel
theorem dX7_lengthen_59 : decode cX7_lengthen 59 = .ok (.dup, 1) := by decide +kernel
theorem dX7_lengthen_60 : decode cX7_lengthen 60 = .ok (.ldc 189, 2) := by decide +kernel
theorem dX7_lengthen_62 : decode cX7_lengthen 62 = .ok (.invokespecial 53, 3) := by decide +kernel
theorem dX7_lengthen_65 : decode cX7_lengthen 65 = .ok (.athrow, 1) := by decide +kernel
theorem dX7_lengthen_66 : decode cX7_lengthen 66 = .ok (.aload 4, 2) := by decide +kernel
theorem dX7_lengthen_68 : decode cX7_lengthen 68 = .ok (.getfield 191, 3) := by decide +kernel
theorem dX7_lengthen_71 : decode cX7_lengthen 71 = .ok (.getfield 195, 3) := by decide +kernel
theorem dX7_lengthen_74 : decode cX7_lengthen 74 = .ok (.istore 7, 2) := by decide +kernel
theorem dX7_lengthen_76 : decode cX7_lengthen 76 = .ok (.aload 4, 2) := by decide +kernel
theorem dX7_lengthen_78 : decode cX7_lengthen 78 = .ok (.aload 6, 2) := by decide +kernel
theorem dX7_lengthen_80 : decode cX7_lengthen 80 = .ok (.aload 5, 2) := by decide +kernel
theorem dX7_lengthen_82 : decode cX7_lengthen 82 = .ok (.iload_n 3, 1) := by decide +kernel
theorem dX7_lengthen_83 : decode cX7_lengthen 83 = .ok (.invokevirtual 200, 3) := by decide +kernel
theorem dX7_lengthen_86 : decode cX7_lengthen 86 = .ok (.ifCond .eq 15, 3) := by decide +kernel
theorem dX7_lengthen_89 : decode cX7_lengthen 89 = .ok (.aload 4, 2) := by decide +kernel
theorem dX7_lengthen_91 : decode cX7_lengthen 91 = .ok (.getfield 191, 3) := by decide +kernel
theorem dX7_lengthen_94 : decode cX7_lengthen 94 = .ok (.getfield 195, 3) := by decide +kernel
theorem dX7_lengthen_97 : decode cX7_lengthen 97 = .ok (.iload 7, 2) := by decide +kernel
theorem dX7_lengthen_99 : decode cX7_lengthen 99 = .ok (.isub, 1) := by decide +kernel
theorem dX7_lengthen_100 : decode cX7_lengthen 100 = .ok (.ireturn, 1) := by decide +kernel
theorem dX7_lengthen_101 : decode cX7_lengthen 101 = .ok (.aload_n 0, 1) := by decide +kernel
theorem dX7_lengthen_102 : decode cX7_lengthen 102 = .ok (.aload 6, 2) := by decide +kernel
theorem dX7_lengthen_104 : decode cX7_lengthen 104 = .ok (.iload 7, 2) := by decide +kernel
theorem dX7_lengthen_106 : decode cX7_lengthen 106 = .ok (.invokevirtual 204, 3) := by decide +kernel
theorem dX7_lengthen_109 : decode cX7_lengthen 109 = .ok (.aload 4, 2) := by decide +kernel
theorem dX7_lengthen_111 : decode cX7_lengthen 111 = .ok (.invokevirtual 208, 3) := by decide +kernel
theorem dX7_lengthen_114 : decode cX7_lengthen 114 = .ok (.iconst (-1), 1) := by decide +kernel
theorem dX7_lengthen_115 : decode cX7_lengthen 115 = .ok (.ireturn, 1) := by decide +kernel
theorem dX7_strip_0 : decode cX7_strip 0 = .ok (.aload_n 0, 1) := by decide +kernel
theorem dX7_strip_1 : decode cX7_strip 1 = .ok (.iload_n 1, 1) := by decide +kernel
theorem dX7_strip_2 : decode cX7_strip 2 = .ok (.invokevirtual 144, 3) := by decide +kernel
theorem dX7_strip_5 : decode cX7_strip 5 = .ok (.astore_n 2, 1) := by decide +kernel
theorem dX7_strip_6 : decode cX7_strip 6 = .ok (.aload_n 2, 1) := by decide +kernel
theorem dX7_strip_7 : decode cX7_strip 7 = .ok (.getfield 178, 3) := by decide +kernel
theorem dX7_strip_10 : decode cX7_strip 10 = .ok (.astore_n 3, 1) := by decide +kernel
theorem dX7_strip_11 : decode cX7_strip 11 = .ok (.aload_n 3, 1) := by decide +kernel
theorem dX7_strip_12 : decode cX7_strip 12 = .ok (.ifnonnull 13, 3) := by decide +kernel
theorem dX7_strip_15 : decode cX7_strip 15 = .ok (.new 49, 3) := by decide +kernel
theorem dX7_strip_18 : decode cX7_strip 18 = .ok (.dup, 1) := by decide +kernel
theorem dX7_strip_19 : decode cX7_strip 19 = .ok (.ldc 182, 2) := by decide +kernel
theorem dX7_strip_21 : decode cX7_strip 21 = .ok (.invokespecial 53, 3) := by decide +kernel
theorem dX7_strip_24 : decode cX7_strip 24 = .ok (.athrow, 1) := by decide +kernel
theorem dX7_strip_25 : decode cX7_strip 25 = .ok (.aload_n 2, 1) := by decide +kernel
theorem dX7_strip_26 : decode cX7_strip 26 = .ok (.getfield 191, 3) := by decide +kernel
theorem dX7_strip_29 : decode cX7_strip 29 = .ok (.getfield 195, 3) := by decide +kernel
theorem dX7_strip_32 : decode cX7_strip 32 = .ok (.istore 4, 2) := by decide +kernel
theorem dX7_strip_34 : decode cX7_strip 34 = .ok (.aload_n 0, 1) := by decide +kernel
theorem dX7_strip_35 : decode cX7_strip 35 = .ok (.aload_n 3, 1) := by decide +kernel
theorem dX7_strip_36 : decode cX7_strip 36 = .ok (.iload 4, 2) := by decide +kernel
theorem dX7_strip_38 : decode cX7_strip 38 = .ok (.invokevirtual 204, 3) := by decide +kernel
theorem dX7_strip_41 : decode cX7_strip 41 = .ok (.aload_n 2, 1) := by decide +kernel
theorem dX7_strip_42 : decode cX7_strip 42 = .ok (.invokevirtual 208, 3) := by decide +kernel
theorem dX7_strip_45 : decode cX7_strip 45 = .ok (.iload 4, 2) := by decide +kernel
theorem dX7_strip_47 : decode cX7_strip 47 = .ok (.ireturn, 1) := by decide +kernel
theorem dX7_room_0 : decode cX7_room 0 = .ok (.aload_n 0, 1) := by decide +kernel
theorem dX7_room_1 : decode cX7_room 1 = .ok (.iload_n 1, 1) := by decide +kernel
theorem dX7_room_2 : decode cX7_room 2 = .ok (.invokevirtual 144, 3) := by decide +kernel
theorem dX7_room_5 : decode cX7_room 5 = .ok (.astore_n 3, 1) := by decide +kernel
theorem dX7_room_6 : decode cX7_room 6 = .ok (.iload_n 2, 1) := by decide +kernel
theorem dX7_room_7 : decode cX7_room 7 = .ok (.tableswitch 106 0 5 #[37, 42, 47, 63, 82, 101], 37) := by decide +kernel
theorem dX7_room_44 : decode cX7_room 44 = .ok (.aload_n 3, 1) := by decide +kernel
theorem dX7_room_45 : decode cX7_room 45 = .ok (.getfield 159, 3) := by decide +kernel
theorem dX7_room_48 : decode cX7_room 48 = .ok (.ireturn, 1) := by decide +kernel
theorem dX7_room_49 : decode cX7_room 49 = .ok (.aload_n 3, 1) := by decide +kernel
theorem dX7_room_50 : decode cX7_room 50 = .ok (.invokevirtual 211, 3) := by decide +kernel
theorem dX7_room_53 : decode cX7_room 53 = .ok (.ireturn, 1) := by decide +kernel
theorem dX7_room_54 : decode cX7_room 54 = .ok (.aload_n 3, 1) := by decide +kernel
theorem dX7_room_55 : decode cX7_room 55 = .ok (.invokevirtual 148, 3) := by decide +kernel
theorem dX7_room_58 : decode cX7_room 58 = .ok (.ifCond .eq 10, 3) := by decide +kernel
theorem dX7_room_61 : decode cX7_room 61 = .ok (.aload_n 3, 1) := by decide +kernel
theorem dX7_room_62 : decode cX7_room 62 = .ok (.getfield 214, 3) := by decide +kernel
theorem dX7_room_65 : decode cX7_room 65 = .ok (.goto 4, 3) := by decide +kernel
theorem dX7_room_68 : decode cX7_room 68 = .ok (.iconst (-1), 1) := by decide +kernel
theorem dX7_room_69 : decode cX7_room 69 = .ok (.ireturn, 1) := by decide +kernel
theorem dX7_room_70 : decode cX7_room 70 = .ok (.aload_n 3, 1) := by decide +kernel
theorem dX7_room_71 : decode cX7_room 71 = .ok (.invokevirtual 148, 3) := by decide +kernel
theorem dX7_room_74 : decode cX7_room 74 = .ok (.ifCond .eq 13, 3) := by decide +kernel
theorem dX7_room_77 : decode cX7_room 77 = .ok (.aload_n 3, 1) := by decide +kernel
theorem dX7_room_78 : decode cX7_room 78 = .ok (.getfield 191, 3) := by decide +kernel
theorem dX7_room_81 : decode cX7_room 81 = .ok (.getfield 217, 3) := by decide +kernel
theorem dX7_room_84 : decode cX7_room 84 = .ok (.goto 4, 3) := by decide +kernel
theorem dX7_room_87 : decode cX7_room 87 = .ok (.iconst (-1), 1) := by decide +kernel
theorem dX7_room_88 : decode cX7_room 88 = .ok (.ireturn, 1) := by decide +kernel
theorem dX7_room_89 : decode cX7_room 89 = .ok (.aload_n 3, 1) := by decide +kernel
theorem dX7_room_90 : decode cX7_room 90 = .ok (.invokevirtual 148, 3) := by decide +kernel
theorem dX7_room_93 : decode cX7_room 93 = .ok (.ifCond .eq 13, 3) := by decide +kernel
theorem dX7_room_96 : decode cX7_room 96 = .ok (.aload_n 3, 1) := by decide +kernel
theorem dX7_room_97 : decode cX7_room 97 = .ok (.getfield 191, 3) := by decide +kernel
theorem dX7_room_100 : decode cX7_room 100 = .ok (.getfield 195, 3) := by decide +kernel
theorem dX7_room_103 : decode cX7_room 103 = .ok (.goto 4, 3) := by decide +kernel
theorem dX7_room_106 : decode cX7_room 106 = .ok (.iconst (-1), 1) := by decide +kernel
theorem dX7_room_107 : decode cX7_room 107 = .ok (.ireturn, 1) := by decide +kernel
theorem dX7_room_108 : decode cX7_room 108 = .ok (.aload_n 3, 1) := by decide +kernel
theorem dX7_room_109 : decode cX7_room 109 = .ok (.invokevirtual 220, 3) := by decide +kernel
theorem dX7_room_112 : decode cX7_room 112 = .ok (.ireturn, 1) := by decide +kernel
theorem dX7_room_113 : decode cX7_room 113 = .ok (.new 38, 3) := by decide +kernel
theorem dX7_room_116 : decode cX7_room 116 = .ok (.dup, 1) := by decide +kernel
theorem dX7_room_117 : decode cX7_room 117 = .ok (.ldc 223, 2) := by decide +kernel
theorem dX7_room_119 : decode cX7_room 119 = .ok (.invokespecial 42, 3) := by decide +kernel
theorem dX7_room_122 : decode cX7_room 122 = .ok (.athrow, 1) := by decide +kernel
theorem dX7_cut_0 : decode cX7_cut 0 = .ok (.aload_n 0, 1) := by decide +kernel
theorem dX7_cut_1 : decode cX7_cut 1 = .ok (.iload_n 1, 1) := by decide +kernel
theorem dX7_cut_2 : decode cX7_cut 2 = .ok (.invokevirtual 144, 3) := by decide +kernel
theorem dX7_cut_5 : decode cX7_cut 5 = .ok (.astore 4, 2) := by decide +kernel
theorem dX7_cut_7 : decode cX7_cut 7 = .ok (.aload 4, 2) := by decide +kernel
theorem dX7_cut_9 : decode cX7_cut 9 = .ok (.iload_n 2, 1) := by decide +kernel
theorem dX7_cut_10 : decode cX7_cut 10 = .ok (.invokestatic 174, 3) := by decide +kernel
theorem dX7_cut_13 : decode cX7_cut 13 = .ok (.astore 5, 2) := by decide +kernel
theorem dX7_cut_15 : decode cX7_cut 15 = .ok (.iload_n 3, 1) := by decide +kernel
theorem dX7_cut_16 : decode cX7_cut 16 = .ok (.ifCond .lt 22, 3) := by decide +kernel
theorem dX7_cut_19 : decode cX7_cut 19 = .ok (.iload_n 3, 1) := by decide +kernel
theorem dX7_cut_20 : decode cX7_cut 20 = .ok (.aload 5, 2) := by decide +kernel
theorem dX7_cut_22 : decode cX7_cut 22 = .ok (.getfield 184, 3) := by decide +kernel
theorem dX7_cut_25 : decode cX7_cut 25 = .ok (.if_icmp .ge 13, 3) := by decide +kernel
theorem dX7_cut_28 : decode cX7_cut 28 = .ok (.iload_n 3, 1) := by decide +kernel
theorem dX7_cut_29 : decode cX7_cut 29 = .ok (.aload 5, 2) := by decide +kernel
theorem dX7_cut_31 : decode cX7_cut 31 = .ok (.getfield 225, 3) := by decide +kernel
theorem dX7_cut_34 : decode cX7_cut 34 = .ok (.arraylength, 1) := by decide +kernel
theorem dX7_cut_35 : decode cX7_cut 35 = .ok (.if_icmp .lt 13, 3) := by decide +kernel
theorem dX7_cut_38 : decode cX7_cut 38 = .ok (.new 70, 3) := by decide +kernel
theorem dX7_cut_41 : decode cX7_cut 41 = .ok (.dup, 1) := by decide +kernel
theorem dX7_cut_42 : decode cX7_cut 42 = .ok (.ldc 229, 2) := by decide +kernel
theorem dX7_cut_44 : decode cX7_cut 44 = .ok (.invokespecial 74, 3) := by decide +kernel
theorem dX7_cut_47 : decode cX7_cut 47 = .ok (.athrow, 1) := by decide +kernel
theorem dX7_cut_48 : decode cX7_cut 48 = .ok (.aload 4, 2) := by decide +kernel
theorem dX7_cut_50 : decode cX7_cut 50 = .ok (.invokevirtual 148, 3) := by decide +kernel
theorem dX7_cut_53 : decode cX7_cut 53 = .ok (.ifCond .eq 13, 3) := by decide +kernel
theorem dX7_cut_56 : decode cX7_cut 56 = .ok (.aload 5, 2) := by decide +kernel
theorem dX7_cut_58 : decode cX7_cut 58 = .ok (.getfield 225, 3) := by decide +kernel
theorem dX7_cut_61 : decode cX7_cut 61 = .ok (.iload_n 3, 1) := by decide +kernel
theorem dX7_cut_62 : decode cX7_cut 62 = .ok (.iaload, 1) := by decide +kernel
theorem dX7_cut_63 : decode cX7_cut 63 = .ok (.goto 4, 3) := by decide +kernel
theorem dX7_cut_66 : decode cX7_cut 66 = .ok (.iconst (-1), 1) := by decide +kernel
theorem dX7_cut_67 : decode cX7_cut 67 = .ok (.ireturn, 1) := by decide +kernel
theorem dX7_seen_0 : decode cX7_seen 0 = .ok (.aload_n 0, 1) := by decide +kernel
theorem dX7_seen_1 : decode cX7_seen 1 = .ok (.iload_n 1, 1) := by decide +kernel
theorem dX7_seen_2 : decode cX7_seen 2 = .ok (.invokevirtual 144, 3) := by decide +kernel
theorem dX7_seen_5 : decode cX7_seen 5 = .ok (.astore 5, 2) := by decide +kernel
theorem dX7_seen_7 : decode cX7_seen 7 = .ok (.aload 5, 2) := by decide +kernel
theorem dX7_seen_9 : decode cX7_seen 9 = .ok (.iload_n 2, 1) := by decide +kernel
theorem dX7_seen_10 : decode cX7_seen 10 = .ok (.invokestatic 174, 3) := by decide +kernel
theorem dX7_seen_13 : decode cX7_seen 13 = .ok (.astore 6, 2) := by decide +kernel
theorem dX7_seen_15 : decode cX7_seen 15 = .ok (.aload 5, 2) := by decide +kernel
theorem dX7_seen_17 : decode cX7_seen 17 = .ok (.getfield 178, 3) := by decide +kernel
theorem dX7_seen_20 : decode cX7_seen 20 = .ok (.astore 7, 2) := by decide +kernel
theorem dX7_seen_22 : decode cX7_seen 22 = .ok (.aload 7, 2) := by decide +kernel
theorem dX7_seen_24 : decode cX7_seen 24 = .ok (.ifnonnull 5, 3) := by decide +kernel
theorem dX7_seen_27 : decode cX7_seen 27 = .ok (.iconst (-1), 1) := by decide +kernel
theorem dX7_seen_28 : decode cX7_seen 28 = .ok (.ireturn, 1) := by decide +kernel
theorem dX7_seen_29 : decode cX7_seen 29 = .ok (.aload 7, 2) := by decide +kernel
theorem dX7_seen_31 : decode cX7_seen 31 = .ok (.getfield 231, 3) := by decide +kernel
theorem dX7_seen_34 : decode cX7_seen 34 = .ok (.getfield 235, 3) := by decide +kernel
theorem dX7_seen_37 : decode cX7_seen 37 = .ok (.astore 8, 2) := by decide +kernel
theorem dX7_seen_39 : decode cX7_seen 39 = .ok (.iload_n 3, 1) := by decide +kernel
theorem dX7_seen_40 : decode cX7_seen 40 = .ok (.ifCond .lt 33, 3) := by decide +kernel
theorem dX7_seen_43 : decode cX7_seen 43 = .ok (.iload_n 3, 1) := by decide +kernel
theorem dX7_seen_44 : decode cX7_seen 44 = .ok (.aload 6, 2) := by decide +kernel
theorem dX7_seen_46 : decode cX7_seen 46 = .ok (.getfield 184, 3) := by decide +kernel
theorem dX7_seen_49 : decode cX7_seen 49 = .ok (.aload 8, 2) := by decide +kernel
theorem dX7_seen_51 : decode cX7_seen 51 = .ok (.getfield 238, 3) := by decide +kernel
theorem dX7_seen_54 : decode cX7_seen 54 = .ok (.imul, 1) := by decide +kernel
theorem dX7_seen_55 : decode cX7_seen 55 = .ok (.if_icmp .ge 18, 3) := by decide +kernel
theorem dX7_seen_58 : decode cX7_seen 58 = .ok (.iload 4, 2) := by decide +kernel
theorem dX7_seen_60 : decode cX7_seen 60 = .ok (.ifCond .lt 13, 3) := by decide +kernel
theorem dX7_seen_63 : decode cX7_seen 63 = .ok (.iload 4, 2) := by decide +kernel
theorem dX7_seen_65 : decode cX7_seen 65 = .ok (.aload 6, 2) := by decide +kernel
theorem dX7_seen_67 : decode cX7_seen 67 = .ok (.getfield 241, 3) := by decide +kernel
theorem dX7_seen_70 : decode cX7_seen 70 = .ok (.if_icmp .lt 13, 3) := by decide +kernel
theorem dX7_seen_73 : decode cX7_seen 73 = .ok (.new 70, 3) := by decide +kernel
theorem dX7_seen_76 : decode cX7_seen 76 = .ok (.dup, 1) := by decide +kernel
theorem dX7_seen_77 : decode cX7_seen 77 = .ok (.ldc 244, 2) := by decide +kernel
theorem dX7_seen_79 : decode cX7_seen 79 = .ok (.invokespecial 74, 3) := by decide +kernel
theorem dX7_seen_82 : decode cX7_seen 82 = .ok (.athrow, 1) := by decide +kernel
theorem dX7_seen_83 : decode cX7_seen 83 = .ok (.aload 8, 2) := by decide +kernel
theorem dX7_seen_85 : decode cX7_seen 85 = .ok (.iload_n 3, 1) := by decide +kernel
theorem dX7_seen_86 : decode cX7_seen 86 = .ok (.aload 5, 2) := by decide +kernel
theorem dX7_seen_88 : decode cX7_seen 88 = .ok (.getfield 191, 3) := by decide +kernel
theorem dX7_seen_91 : decode cX7_seen 91 = .ok (.getfield 217, 3) := by decide +kernel
theorem dX7_seen_94 : decode cX7_seen 94 = .ok (.iload 4, 2) := by decide +kernel
theorem dX7_seen_96 : decode cX7_seen 96 = .ok (.iadd, 1) := by decide +kernel
theorem dX7_seen_97 : decode cX7_seen 97 = .ok (.invokevirtual 75, 3) := by decide +kernel
theorem dX7_seen_100 : decode cX7_seen 100 = .ok (.ireturn, 1) := by decide +kernel
theorem dX7_lost_0 : decode cX7_lost 0 = .ok (.aload_n 0, 1) := by decide +kernel
theorem dX7_lost_1 : decode cX7_lost 1 = .ok (.getfield 246, 3) := by decide +kernel
theorem dX7_lost_4 : decode cX7_lost 4 = .ok (.ireturn, 1) := by decide +kernel
theorem dX7_patternAt_0 : decode cX7_patternAt 0 = .ok (.iload_n 1, 1) := by decide +kernel
theorem dX7_patternAt_1 : decode cX7_patternAt 1 = .ok (.ifCond .lt 12, 3) := by decide +kernel
theorem dX7_patternAt_4 : decode cX7_patternAt 4 = .ok (.iload_n 1, 1) := by decide +kernel
theorem dX7_patternAt_5 : decode cX7_patternAt 5 = .ok (.aload_n 0, 1) := by decide +kernel
theorem dX7_patternAt_6 : decode cX7_patternAt 6 = .ok (.getfield 11, 3) := by decide +kernel
theorem dX7_patternAt_9 : decode cX7_patternAt 9 = .ok (.arraylength, 1) := by decide +kernel
theorem dX7_patternAt_10 : decode cX7_patternAt 10 = .ok (.if_icmp .lt 7, 3) := by decide +kernel
theorem dX7_patternAt_13 : decode cX7_patternAt 13 = .ok (.aconst_null, 1) := by decide +kernel
theorem dX7_patternAt_14 : decode cX7_patternAt 14 = .ok (.goto 9, 3) := by decide +kernel
theorem dX7_patternAt_17 : decode cX7_patternAt 17 = .ok (.aload_n 0, 1) := by decide +kernel
theorem dX7_patternAt_18 : decode cX7_patternAt 18 = .ok (.getfield 11, 3) := by decide +kernel
theorem dX7_patternAt_21 : decode cX7_patternAt 21 = .ok (.iload_n 1, 1) := by decide +kernel
theorem dX7_patternAt_22 : decode cX7_patternAt 22 = .ok (.aaload, 1) := by decide +kernel
theorem dX7_patternAt_23 : decode cX7_patternAt 23 = .ok (.astore_n 2, 1) := by decide +kernel
theorem dX7_patternAt_24 : decode cX7_patternAt 24 = .ok (.aload_n 2, 1) := by decide +kernel
theorem dX7_patternAt_25 : decode cX7_patternAt 25 = .ok (.ifnonnull 13, 3) := by decide +kernel
theorem dX7_patternAt_28 : decode cX7_patternAt 28 = .ok (.new 70, 3) := by decide +kernel
theorem dX7_patternAt_31 : decode cX7_patternAt 31 = .ok (.dup, 1) := by decide +kernel
theorem dX7_patternAt_32 : decode cX7_patternAt 32 = .ok (.ldc 249, 2) := by decide +kernel
theorem dX7_patternAt_34 : decode cX7_patternAt 34 = .ok (.invokespecial 74, 3) := by decide +kernel
theorem dX7_patternAt_37 : decode cX7_patternAt 37 = .ok (.athrow, 1) := by decide +kernel
theorem dX7_patternAt_38 : decode cX7_patternAt 38 = .ok (.aload_n 2, 1) := by decide +kernel
theorem dX7_patternAt_39 : decode cX7_patternAt 39 = .ok (.areturn, 1) := by decide +kernel
theorem dX7_rollerAt_0 : decode cX7_rollerAt 0 = .ok (.iload_n 1, 1) := by decide +kernel
theorem dX7_rollerAt_1 : decode cX7_rollerAt 1 = .ok (.ifCond .lt 12, 3) := by decide +kernel
theorem dX7_rollerAt_4 : decode cX7_rollerAt 4 = .ok (.iload_n 1, 1) := by decide +kernel
theorem dX7_rollerAt_5 : decode cX7_rollerAt 5 = .ok (.aload_n 0, 1) := by decide +kernel
theorem dX7_rollerAt_6 : decode cX7_rollerAt 6 = .ok (.getfield 17, 3) := by decide +kernel
theorem dX7_rollerAt_9 : decode cX7_rollerAt 9 = .ok (.arraylength, 1) := by decide +kernel
theorem dX7_rollerAt_10 : decode cX7_rollerAt 10 = .ok (.if_icmp .lt 7, 3) := by decide +kernel
theorem dX7_rollerAt_13 : decode cX7_rollerAt 13 = .ok (.aconst_null, 1) := by decide +kernel
theorem dX7_rollerAt_14 : decode cX7_rollerAt 14 = .ok (.goto 9, 3) := by decide +kernel
theorem dX7_rollerAt_17 : decode cX7_rollerAt 17 = .ok (.aload_n 0, 1) := by decide +kernel
theorem dX7_rollerAt_18 : decode cX7_rollerAt 18 = .ok (.getfield 17, 3) := by decide +kernel
theorem dX7_rollerAt_21 : decode cX7_rollerAt 21 = .ok (.iload_n 1, 1) := by decide +kernel
theorem dX7_rollerAt_22 : decode cX7_rollerAt 22 = .ok (.aaload, 1) := by decide +kernel
theorem dX7_rollerAt_23 : decode cX7_rollerAt 23 = .ok (.astore_n 2, 1) := by decide +kernel
theorem dX7_rollerAt_24 : decode cX7_rollerAt 24 = .ok (.aload_n 2, 1) := by decide +kernel
theorem dX7_rollerAt_25 : decode cX7_rollerAt 25 = .ok (.ifnonnull 13, 3) := by decide +kernel
theorem dX7_rollerAt_28 : decode cX7_rollerAt 28 = .ok (.new 70, 3) := by decide +kernel
theorem dX7_rollerAt_31 : decode cX7_rollerAt 31 = .ok (.dup, 1) := by decide +kernel
theorem dX7_rollerAt_32 : decode cX7_rollerAt 32 = .ok (.ldc 251, 2) := by decide +kernel
theorem dX7_rollerAt_34 : decode cX7_rollerAt 34 = .ok (.invokespecial 74, 3) := by decide +kernel
theorem dX7_rollerAt_37 : decode cX7_rollerAt 37 = .ok (.athrow, 1) := by decide +kernel
theorem dX7_rollerAt_38 : decode cX7_rollerAt 38 = .ok (.aload_n 2, 1) := by decide +kernel
theorem dX7_rollerAt_39 : decode cX7_rollerAt 39 = .ok (.areturn, 1) := by decide +kernel
theorem dX7_lotAt_0 : decode cX7_lotAt 0 = .ok (.iload_n 1, 1) := by decide +kernel
theorem dX7_lotAt_1 : decode cX7_lotAt 1 = .ok (.ifCond .lt 12, 3) := by decide +kernel
theorem dX7_lotAt_4 : decode cX7_lotAt 4 = .ok (.iload_n 1, 1) := by decide +kernel
theorem dX7_lotAt_5 : decode cX7_lotAt 5 = .ok (.aload_n 0, 1) := by decide +kernel
theorem dX7_lotAt_6 : decode cX7_lotAt 6 = .ok (.getfield 23, 3) := by decide +kernel
theorem dX7_lotAt_9 : decode cX7_lotAt 9 = .ok (.arraylength, 1) := by decide +kernel
theorem dX7_lotAt_10 : decode cX7_lotAt 10 = .ok (.if_icmp .lt 7, 3) := by decide +kernel
theorem dX7_lotAt_13 : decode cX7_lotAt 13 = .ok (.aconst_null, 1) := by decide +kernel
theorem dX7_lotAt_14 : decode cX7_lotAt 14 = .ok (.goto 9, 3) := by decide +kernel
theorem dX7_lotAt_17 : decode cX7_lotAt 17 = .ok (.aload_n 0, 1) := by decide +kernel
theorem dX7_lotAt_18 : decode cX7_lotAt 18 = .ok (.getfield 23, 3) := by decide +kernel
theorem dX7_lotAt_21 : decode cX7_lotAt 21 = .ok (.iload_n 1, 1) := by decide +kernel
theorem dX7_lotAt_22 : decode cX7_lotAt 22 = .ok (.aaload, 1) := by decide +kernel
theorem dX7_lotAt_23 : decode cX7_lotAt 23 = .ok (.astore_n 2, 1) := by decide +kernel
theorem dX7_lotAt_24 : decode cX7_lotAt 24 = .ok (.aload_n 2, 1) := by decide +kernel
theorem dX7_lotAt_25 : decode cX7_lotAt 25 = .ok (.ifnonnull 13, 3) := by decide +kernel
theorem dX7_lotAt_28 : decode cX7_lotAt 28 = .ok (.new 70, 3) := by decide +kernel
theorem dX7_lotAt_31 : decode cX7_lotAt 31 = .ok (.dup, 1) := by decide +kernel
theorem dX7_lotAt_32 : decode cX7_lotAt 32 = .ok (.ldc 253, 2) := by decide +kernel
theorem dX7_lotAt_34 : decode cX7_lotAt 34 = .ok (.invokespecial 74, 3) := by decide +kernel
theorem dX7_lotAt_37 : decode cX7_lotAt 37 = .ok (.athrow, 1) := by decide +kernel
theorem dX7_lotAt_38 : decode cX7_lotAt 38 = .ok (.aload_n 2, 1) := by decide +kernel
theorem dX7_lotAt_39 : decode cX7_lotAt 39 = .ok (.areturn, 1) := by decide +kernel
theorem dX7_roomAt_0 : decode cX7_roomAt 0 = .ok (.iload_n 1, 1) := by decide +kernel
theorem dX7_roomAt_1 : decode cX7_roomAt 1 = .ok (.ifCond .lt 12, 3) := by decide +kernel
theorem dX7_roomAt_4 : decode cX7_roomAt 4 = .ok (.iload_n 1, 1) := by decide +kernel
theorem dX7_roomAt_5 : decode cX7_roomAt 5 = .ok (.aload_n 0, 1) := by decide +kernel
theorem dX7_roomAt_6 : decode cX7_roomAt 6 = .ok (.getfield 29, 3) := by decide +kernel
theorem dX7_roomAt_9 : decode cX7_roomAt 9 = .ok (.arraylength, 1) := by decide +kernel
theorem dX7_roomAt_10 : decode cX7_roomAt 10 = .ok (.if_icmp .lt 7, 3) := by decide +kernel
theorem dX7_roomAt_13 : decode cX7_roomAt 13 = .ok (.aconst_null, 1) := by decide +kernel
theorem dX7_roomAt_14 : decode cX7_roomAt 14 = .ok (.goto 9, 3) := by decide +kernel
theorem dX7_roomAt_17 : decode cX7_roomAt 17 = .ok (.aload_n 0, 1) := by decide +kernel
theorem dX7_roomAt_18 : decode cX7_roomAt 18 = .ok (.getfield 29, 3) := by decide +kernel
theorem dX7_roomAt_21 : decode cX7_roomAt 21 = .ok (.iload_n 1, 1) := by decide +kernel
theorem dX7_roomAt_22 : decode cX7_roomAt 22 = .ok (.aaload, 1) := by decide +kernel
theorem dX7_roomAt_23 : decode cX7_roomAt 23 = .ok (.astore_n 2, 1) := by decide +kernel
theorem dX7_roomAt_24 : decode cX7_roomAt 24 = .ok (.aload_n 2, 1) := by decide +kernel
theorem dX7_roomAt_25 : decode cX7_roomAt 25 = .ok (.ifnonnull 13, 3) := by decide +kernel
theorem dX7_roomAt_28 : decode cX7_roomAt 28 = .ok (.new 70, 3) := by decide +kernel
theorem dX7_roomAt_31 : decode cX7_roomAt 31 = .ok (.dup, 1) := by decide +kernel
theorem dX7_roomAt_32 : decode cX7_roomAt 32 = .ok (.ldc 255, 2) := by decide +kernel
theorem dX7_roomAt_34 : decode cX7_roomAt 34 = .ok (.invokespecial 74, 3) := by decide +kernel
theorem dX7_roomAt_37 : decode cX7_roomAt 37 = .ok (.athrow, 1) := by decide +kernel
theorem dX7_roomAt_38 : decode cX7_roomAt 38 = .ok (.aload_n 2, 1) := by decide +kernel
theorem dX7_roomAt_39 : decode cX7_roomAt 39 = .ok (.areturn, 1) := by decide +kernel
theorem dX7_wallAt_0 : decode cX7_wallAt 0 = .ok (.iload_n 1, 1) := by decide +kernel
theorem dX7_wallAt_1 : decode cX7_wallAt 1 = .ok (.ifCond .lt 12, 3) := by decide +kernel
theorem dX7_wallAt_4 : decode cX7_wallAt 4 = .ok (.iload_n 1, 1) := by decide +kernel
theorem dX7_wallAt_5 : decode cX7_wallAt 5 = .ok (.aload_n 0, 1) := by decide +kernel
theorem dX7_wallAt_6 : decode cX7_wallAt 6 = .ok (.getfield 257, 3) := by decide +kernel
theorem dX7_wallAt_9 : decode cX7_wallAt 9 = .ok (.arraylength, 1) := by decide +kernel
theorem dX7_wallAt_10 : decode cX7_wallAt 10 = .ok (.if_icmp .lt 7, 3) := by decide +kernel
theorem dX7_wallAt_13 : decode cX7_wallAt 13 = .ok (.aconst_null, 1) := by decide +kernel
theorem dX7_wallAt_14 : decode cX7_wallAt 14 = .ok (.goto 9, 3) := by decide +kernel
theorem dX7_wallAt_17 : decode cX7_wallAt 17 = .ok (.aload_n 0, 1) := by decide +kernel
theorem dX7_wallAt_18 : decode cX7_wallAt 18 = .ok (.getfield 257, 3) := by decide +kernel
theorem dX7_wallAt_21 : decode cX7_wallAt 21 = .ok (.iload_n 1, 1) := by decide +kernel
theorem dX7_wallAt_22 : decode cX7_wallAt 22 = .ok (.aaload, 1) := by decide +kernel
theorem dX7_wallAt_23 : decode cX7_wallAt 23 = .ok (.astore_n 2, 1) := by decide +kernel
theorem dX7_wallAt_24 : decode cX7_wallAt 24 = .ok (.aload_n 2, 1) := by decide +kernel
theorem dX7_wallAt_25 : decode cX7_wallAt 25 = .ok (.ifnonnull 14, 3) := by decide +kernel
theorem dX7_wallAt_28 : decode cX7_wallAt 28 = .ok (.new 70, 3) := by decide +kernel
theorem dX7_wallAt_31 : decode cX7_wallAt 31 = .ok (.dup, 1) := by decide +kernel
theorem dX7_wallAt_32 : decode cX7_wallAt 32 = .ok (.ldc_w 261, 3) := by decide +kernel
theorem dX7_wallAt_35 : decode cX7_wallAt 35 = .ok (.invokespecial 74, 3) := by decide +kernel
theorem dX7_wallAt_38 : decode cX7_wallAt 38 = .ok (.athrow, 1) := by decide +kernel
theorem dX7_wallAt_39 : decode cX7_wallAt 39 = .ok (.aload_n 2, 1) := by decide +kernel
theorem dX7_wallAt_40 : decode cX7_wallAt 40 = .ok (.areturn, 1) := by decide +kernel
theorem dX7_requireWithin_0 : decode cX7_requireWithin 0 = .ok (.iload_n 0, 1) := by decide +kernel
theorem dX7_requireWithin_1 : decode cX7_requireWithin 1 = .ok (.iload_n 1, 1) := by decide +kernel
theorem dX7_requireWithin_2 : decode cX7_requireWithin 2 = .ok (.if_icmp .lt 8, 3) := by decide +kernel
theorem dX7_requireWithin_5 : decode cX7_requireWithin 5 = .ok (.iload_n 0, 1) := by decide +kernel
theorem dX7_requireWithin_6 : decode cX7_requireWithin 6 = .ok (.iload_n 2, 1) := by decide +kernel
theorem dX7_requireWithin_7 : decode cX7_requireWithin 7 = .ok (.if_icmp .le 14, 3) := by decide +kernel
theorem dX7_requireWithin_10 : decode cX7_requireWithin 10 = .ok (.new 38, 3) := by decide +kernel
theorem dX7_requireWithin_13 : decode cX7_requireWithin 13 = .ok (.dup, 1) := by decide +kernel
theorem dX7_requireWithin_14 : decode cX7_requireWithin 14 = .ok (.ldc_w 263, 3) := by decide +kernel
theorem dX7_requireWithin_17 : decode cX7_requireWithin 17 = .ok (.invokespecial 42, 3) := by decide +kernel
theorem dX7_requireWithin_20 : decode cX7_requireWithin 20 = .ok (.athrow, 1) := by decide +kernel
theorem dX7_requireWithin_21 : decode cX7_requireWithin 21 = .ok (.return_, 1) := by decide +kernel
theorem dX7_lose_0 : decode cX7_lose 0 = .ok (.aload_n 0, 1) := by decide +kernel
theorem dX7_lose_1 : decode cX7_lose 1 = .ok (.dup, 1) := by decide +kernel
theorem dX7_lose_2 : decode cX7_lose 2 = .ok (.getfield 246, 3) := by decide +kernel
theorem dX7_lose_5 : decode cX7_lose 5 = .ok (.iload_n 2, 1) := by decide +kernel
theorem dX7_lose_6 : decode cX7_lose 6 = .ok (.aload_n 1, 1) := by decide +kernel
theorem dX7_lose_7 : decode cX7_lose 7 = .ok (.getfield 135, 3) := by decide +kernel
theorem dX7_lose_10 : decode cX7_lose 10 = .ok (.imul, 1) := by decide +kernel
theorem dX7_lose_11 : decode cX7_lose 11 = .ok (.iadd, 1) := by decide +kernel
theorem dX7_lose_12 : decode cX7_lose 12 = .ok (.putfield 246, 3) := by decide +kernel
theorem dX7_lose_15 : decode cX7_lose 15 = .ok (.return_, 1) := by decide +kernel
theorem dX7_wrapped_0 : decode cX7_wrapped 0 = .ok (.iload_n 1, 1) := by decide +kernel
theorem dX7_wrapped_1 : decode cX7_wrapped 1 = .ok (.iconst 1, 1) := by decide +kernel
theorem dX7_wrapped_2 : decode cX7_wrapped 2 = .ok (.if_icmp .ge 5, 3) := by decide +kernel
theorem dX7_wrapped_5 : decode cX7_wrapped 5 = .ok (.iconst 0, 1) := by decide +kernel
theorem dX7_wrapped_6 : decode cX7_wrapped 6 = .ok (.ireturn, 1) := by decide +kernel
theorem dX7_wrapped_7 : decode cX7_wrapped 7 = .ok (.iload_n 0, 1) := by decide +kernel
theorem dX7_wrapped_8 : decode cX7_wrapped 8 = .ok (.iload_n 1, 1) := by decide +kernel
theorem dX7_wrapped_9 : decode cX7_wrapped 9 = .ok (.irem, 1) := by decide +kernel
theorem dX7_wrapped_10 : decode cX7_wrapped 10 = .ok (.istore_n 2, 1) := by decide +kernel
theorem dX7_wrapped_11 : decode cX7_wrapped 11 = .ok (.iload_n 2, 1) := by decide +kernel
theorem dX7_wrapped_12 : decode cX7_wrapped 12 = .ok (.ifCond .ge 9, 3) := by decide +kernel
theorem dX7_wrapped_15 : decode cX7_wrapped 15 = .ok (.iload_n 2, 1) := by decide +kernel
theorem dX7_wrapped_16 : decode cX7_wrapped 16 = .ok (.iload_n 1, 1) := by decide +kernel
theorem dX7_wrapped_17 : decode cX7_wrapped 17 = .ok (.iadd, 1) := by decide +kernel
theorem dX7_wrapped_18 : decode cX7_wrapped 18 = .ok (.goto 4, 3) := by decide +kernel
theorem dX7_wrapped_21 : decode cX7_wrapped 21 = .ok (.iload_n 2, 1) := by decide +kernel
theorem dX7_wrapped_22 : decode cX7_wrapped 22 = .ok (.ireturn, 1) := by decide +kernel
theorem dX8_init_0 : decode cX8_init 0 = .ok (.aload_n 0, 1) := by decide +kernel
theorem dX8_init_1 : decode cX8_init 1 = .ok (.invokespecial 1, 3) := by decide +kernel
theorem dX8_init_4 : decode cX8_init 4 = .ok (.aload_n 0, 1) := by decide +kernel
theorem dX8_init_5 : decode cX8_init 5 = .ok (.bipush 6, 2) := by decide +kernel
theorem dX8_init_7 : decode cX8_init 7 = .ok (.newarray .int, 2) := by decide +kernel
theorem dX8_init_9 : decode cX8_init 9 = .ok (.putfield 7, 3) := by decide +kernel
theorem dX8_init_12 : decode cX8_init 12 = .ok (.aload_n 0, 1) := by decide +kernel
theorem dX8_init_13 : decode cX8_init 13 = .ok (.bipush 6, 2) := by decide +kernel
theorem dX8_init_15 : decode cX8_init 15 = .ok (.newarray .int, 2) := by decide +kernel
theorem dX8_init_17 : decode cX8_init 17 = .ok (.putfield 13, 3) := by decide +kernel
theorem dX8_init_20 : decode cX8_init 20 = .ok (.aload_n 0, 1) := by decide +kernel
theorem dX8_init_21 : decode cX8_init 21 = .ok (.bipush 6, 2) := by decide +kernel
theorem dX8_init_23 : decode cX8_init 23 = .ok (.newarray .int, 2) := by decide +kernel
theorem dX8_init_25 : decode cX8_init 25 = .ok (.putfield 16, 3) := by decide +kernel
theorem dX8_init_28 : decode cX8_init 28 = .ok (.aload_n 0, 1) := by decide +kernel
theorem dX8_init_29 : decode cX8_init 29 = .ok (.sipush 150, 3) := by decide +kernel
theorem dX8_init_32 : decode cX8_init 32 = .ok (.newarray .int, 2) := by decide +kernel
theorem dX8_init_34 : decode cX8_init 34 = .ok (.putfield 19, 3) := by decide +kernel
theorem dX8_init_37 : decode cX8_init 37 = .ok (.aload_n 0, 1) := by decide +kernel
theorem dX8_init_38 : decode cX8_init 38 = .ok (.bipush 8, 2) := by decide +kernel
theorem dX8_init_40 : decode cX8_init 40 = .ok (.newarray .int, 2) := by decide +kernel
theorem dX8_init_42 : decode cX8_init 42 = .ok (.putfield 22, 3) := by decide +kernel
theorem dX8_init_45 : decode cX8_init 45 = .ok (.aload_n 0, 1) := by decide +kernel
theorem dX8_init_46 : decode cX8_init 46 = .ok (.bipush 8, 2) := by decide +kernel
theorem dX8_init_48 : decode cX8_init 48 = .ok (.newarray .int, 2) := by decide +kernel
theorem dX8_init_50 : decode cX8_init 50 = .ok (.putfield 25, 3) := by decide +kernel
theorem dX8_init_53 : decode cX8_init 53 = .ok (.aload_n 0, 1) := by decide +kernel
theorem dX8_init_54 : decode cX8_init 54 = .ok (.sipush 800, 3) := by decide +kernel
theorem dX8_init_57 : decode cX8_init 57 = .ok (.newarray .int, 2) := by decide +kernel
theorem dX8_init_59 : decode cX8_init 59 = .ok (.putfield 28, 3) := by decide +kernel
theorem dX8_init_62 : decode cX8_init 62 = .ok (.aload_n 0, 1) := by decide +kernel
theorem dX8_init_63 : decode cX8_init 63 = .ok (.bipush 10, 2) := by decide +kernel
theorem dX8_init_65 : decode cX8_init 65 = .ok (.newarray .int, 2) := by decide +kernel
theorem dX8_init_67 : decode cX8_init 67 = .ok (.putfield 31, 3) := by decide +kernel
theorem dX8_init_70 : decode cX8_init 70 = .ok (.aload_n 0, 1) := by decide +kernel
theorem dX8_init_71 : decode cX8_init 71 = .ok (.bipush 10, 2) := by decide +kernel
theorem dX8_init_73 : decode cX8_init 73 = .ok (.newarray .int, 2) := by decide +kernel
theorem dX8_init_75 : decode cX8_init 75 = .ok (.putfield 34, 3) := by decide +kernel
theorem dX8_init_78 : decode cX8_init 78 = .ok (.aload_n 0, 1) := by decide +kernel
theorem dX8_init_79 : decode cX8_init 79 = .ok (.bipush 10, 2) := by decide +kernel
theorem dX8_init_81 : decode cX8_init 81 = .ok (.newarray .int, 2) := by decide +kernel
theorem dX8_init_83 : decode cX8_init 83 = .ok (.putfield 37, 3) := by decide +kernel
theorem dX8_init_86 : decode cX8_init 86 = .ok (.aload_n 0, 1) := by decide +kernel
theorem dX8_init_87 : decode cX8_init 87 = .ok (.bipush 10, 2) := by decide +kernel
theorem dX8_init_89 : decode cX8_init 89 = .ok (.newarray .int, 2) := by decide +kernel
theorem dX8_init_91 : decode cX8_init 91 = .ok (.putfield 40, 3) := by decide +kernel
theorem dX8_init_94 : decode cX8_init 94 = .ok (.aload_n 0, 1) := by decide +kernel
theorem dX8_init_95 : decode cX8_init 95 = .ok (.iconst 4, 1) := by decide +kernel
theorem dX8_init_96 : decode cX8_init 96 = .ok (.newarray .int, 2) := by decide +kernel
theorem dX8_init_98 : decode cX8_init 98 = .ok (.putfield 43, 3) := by decide +kernel
theorem dX8_init_101 : decode cX8_init 101 = .ok (.aload_n 0, 1) := by decide +kernel
theorem dX8_init_102 : decode cX8_init 102 = .ok (.bipush 16, 2) := by decide +kernel
theorem dX8_init_104 : decode cX8_init 104 = .ok (.newarray .int, 2) := by decide +kernel
theorem dX8_init_106 : decode cX8_init 106 = .ok (.putfield 46, 3) := by decide +kernel
theorem dX8_init_109 : decode cX8_init 109 = .ok (.aload_n 0, 1) := by decide +kernel
theorem dX8_init_110 : decode cX8_init 110 = .ok (.bipush 16, 2) := by decide +kernel
theorem dX8_init_112 : decode cX8_init 112 = .ok (.newarray .int, 2) := by decide +kernel
theorem dX8_init_114 : decode cX8_init 114 = .ok (.putfield 49, 3) := by decide +kernel
theorem dX8_init_117 : decode cX8_init 117 = .ok (.aload_n 0, 1) := by decide +kernel
theorem dX8_init_118 : decode cX8_init 118 = .ok (.iconst 4, 1) := by decide +kernel
theorem dX8_init_119 : decode cX8_init 119 = .ok (.newarray .int, 2) := by decide +kernel
theorem dX8_init_121 : decode cX8_init 121 = .ok (.putfield 52, 3) := by decide +kernel
theorem dX8_init_124 : decode cX8_init 124 = .ok (.aload_n 0, 1) := by decide +kernel
theorem dX8_init_125 : decode cX8_init 125 = .ok (.iconst 4, 1) := by decide +kernel
theorem dX8_init_126 : decode cX8_init 126 = .ok (.newarray .int, 2) := by decide +kernel
theorem dX8_init_128 : decode cX8_init 128 = .ok (.putfield 55, 3) := by decide +kernel
theorem dX8_init_131 : decode cX8_init 131 = .ok (.aload_n 0, 1) := by decide +kernel
theorem dX8_init_132 : decode cX8_init 132 = .ok (.iconst 4, 1) := by decide +kernel
theorem dX8_init_133 : decode cX8_init 133 = .ok (.newarray .int, 2) := by decide +kernel
theorem dX8_init_135 : decode cX8_init 135 = .ok (.putfield 58, 3) := by decide +kernel
theorem dX8_init_138 : decode cX8_init 138 = .ok (.aload_n 0, 1) := by decide +kernel
theorem dX8_init_139 : decode cX8_init 139 = .ok (.bipush 80, 2) := by decide +kernel
theorem dX8_init_141 : decode cX8_init 141 = .ok (.newarray .int, 2) := by decide +kernel
theorem dX8_init_143 : decode cX8_init 143 = .ok (.putfield 61, 3) := by decide +kernel
theorem dX8_init_146 : decode cX8_init 146 = .ok (.aload_n 0, 1) := by decide +kernel
theorem dX8_init_147 : decode cX8_init 147 = .ok (.bipush 20, 2) := by decide +kernel
theorem dX8_init_149 : decode cX8_init 149 = .ok (.newarray .int, 2) := by decide +kernel
theorem dX8_init_151 : decode cX8_init 151 = .ok (.putfield 64, 3) := by decide +kernel
theorem dX8_init_154 : decode cX8_init 154 = .ok (.aload_n 0, 1) := by decide +kernel
theorem dX8_init_155 : decode cX8_init 155 = .ok (.sipush 384, 3) := by decide +kernel
theorem dX8_init_158 : decode cX8_init 158 = .ok (.newarray .int, 2) := by decide +kernel
theorem dX8_init_160 : decode cX8_init 160 = .ok (.putfield 67, 3) := by decide +kernel
theorem dX8_init_163 : decode cX8_init 163 = .ok (.aload_n 0, 1) := by decide +kernel
theorem dX8_init_164 : decode cX8_init 164 = .ok (.sipush 384, 3) := by decide +kernel
theorem dX8_init_167 : decode cX8_init 167 = .ok (.newarray .int, 2) := by decide +kernel
theorem dX8_init_169 : decode cX8_init 169 = .ok (.putfield 70, 3) := by decide +kernel
theorem dX8_init_172 : decode cX8_init 172 = .ok (.iconst 0, 1) := by decide +kernel
theorem dX8_init_173 : decode cX8_init 173 = .ok (.istore_n 1, 1) := by decide +kernel
theorem dX8_init_174 : decode cX8_init 174 = .ok (.iload_n 1, 1) := by decide +kernel
theorem dX8_init_175 : decode cX8_init 175 = .ok (.iconst 4, 1) := by decide +kernel
theorem dX8_init_176 : decode cX8_init 176 = .ok (.if_icmp .ge 16, 3) := by decide +kernel
theorem dX8_init_179 : decode cX8_init 179 = .ok (.aload_n 0, 1) := by decide +kernel
theorem dX8_init_180 : decode cX8_init 180 = .ok (.getfield 52, 3) := by decide +kernel
theorem dX8_init_183 : decode cX8_init 183 = .ok (.iload_n 1, 1) := by decide +kernel
theorem dX8_init_184 : decode cX8_init 184 = .ok (.iconst (-1), 1) := by decide +kernel
theorem dX8_init_185 : decode cX8_init 185 = .ok (.iastore, 1) := by decide +kernel
theorem dX8_init_186 : decode cX8_init 186 = .ok (.iinc 1 1, 3) := by decide +kernel
theorem dX8_init_189 : decode cX8_init 189 = .ok (.goto (-15), 3) := by decide +kernel
theorem dX8_init_192 : decode cX8_init 192 = .ok (.return_, 1) := by decide +kernel
theorem dX8_thrown_0 : decode cX8_thrown 0 = .ok (.aload_n 0, 1) := by decide +kernel
theorem dX8_thrown_1 : decode cX8_thrown 1 = .ok (.getfield 73, 3) := by decide +kernel
theorem dX8_thrown_4 : decode cX8_thrown 4 = .ok (.ireturn, 1) := by decide +kernel
theorem dX8_refused_0 : decode cX8_refused 0 = .ok (.aload_n 0, 1) := by decide +kernel
theorem dX8_refused_1 : decode cX8_refused 1 = .ok (.iload_n 1, 1) := by decide +kernel
theorem dX8_refused_2 : decode cX8_refused 2 = .ok (.putfield 73, 3) := by decide +kernel
theorem dX8_refused_5 : decode cX8_refused 5 = .ok (.iload_n 1, 1) := by decide +kernel
theorem dX8_refused_6 : decode cX8_refused 6 = .ok (.ifCond .eq 7, 3) := by decide +kernel
theorem dX8_refused_9 : decode cX8_refused 9 = .ok (.iconst 1, 1) := by decide +kernel
theorem dX8_refused_10 : decode cX8_refused 10 = .ok (.goto 4, 3) := by decide +kernel
theorem dX8_refused_13 : decode cX8_refused 13 = .ok (.iconst 0, 1) := by decide +kernel
theorem dX8_refused_14 : decode cX8_refused 14 = .ok (.ireturn, 1) := by decide +kernel
theorem dX8_is_0 : decode cX8_is 0 = .ok (.iload_n 0, 1) := by decide +kernel
theorem dX8_is_1 : decode cX8_is 1 = .ok (.iload_n 1, 1) := by decide +kernel
theorem dX8_is_2 : decode cX8_is 2 = .ok (.if_icmp .lt 12, 3) := by decide +kernel
theorem dX8_is_5 : decode cX8_is 5 = .ok (.iload_n 0, 1) := by decide +kernel
theorem dX8_is_6 : decode cX8_is 6 = .ok (.iload_n 2, 1) := by decide +kernel
theorem dX8_is_7 : decode cX8_is 7 = .ok (.if_icmp .gt 7, 3) := by decide +kernel
theorem dX8_is_10 : decode cX8_is 10 = .ok (.iconst 1, 1) := by decide +kernel
theorem dX8_is_11 : decode cX8_is 11 = .ok (.goto 4, 3) := by decide +kernel
theorem dX8_is_14 : decode cX8_is 14 = .ok (.iconst 0, 1) := by decide +kernel
theorem dX8_is_15 : decode cX8_is 15 = .ok (.ireturn, 1) := by decide +kernel
theorem dX8_isPattern_0 : decode cX8_isPattern 0 = .ok (.iload_n 1, 1) := by decide +kernel
theorem dX8_isPattern_1 : decode cX8_isPattern 1 = .ok (.iconst 0, 1) := by decide +kernel
theorem dX8_isPattern_2 : decode cX8_isPattern 2 = .ok (.aload_n 0, 1) := by decide +kernel
theorem dX8_isPattern_3 : decode cX8_isPattern 3 = .ok (.getfield 77, 3) := by decide +kernel
theorem dX8_isPattern_6 : decode cX8_isPattern 6 = .ok (.iconst 1, 1) := by decide +kernel
theorem dX8_isPattern_7 : decode cX8_isPattern 7 = .ok (.isub, 1) := by decide +kernel
theorem dX8_isPattern_8 : decode cX8_isPattern 8 = .ok (.invokestatic 80, 3) := by decide +kernel
theorem dX8_isPattern_11 : decode cX8_isPattern 11 = .ok (.ireturn, 1) := by decide +kernel
theorem dX8_pattern_0 : decode cX8_pattern 0 = .ok (.iload_n 1, 1) := by decide +kernel
theorem dX8_pattern_1 : decode cX8_pattern 1 = .ok (.iconst 1, 1) := by decide +kernel
theorem dX8_pattern_2 : decode cX8_pattern 2 = .ok (.iconst 5, 1) := by decide +kernel
theorem dX8_pattern_3 : decode cX8_pattern 3 = .ok (.invokestatic 80, 3) := by decide +kernel
theorem dX8_pattern_6 : decode cX8_pattern 6 = .ok (.ifCond .eq 35, 3) := by decide +kernel
theorem dX8_pattern_9 : decode cX8_pattern 9 = .ok (.iload_n 2, 1) := by decide +kernel
theorem dX8_pattern_10 : decode cX8_pattern 10 = .ok (.iconst 1, 1) := by decide +kernel
theorem dX8_pattern_11 : decode cX8_pattern 11 = .ok (.iconst 5, 1) := by decide +kernel
theorem dX8_pattern_12 : decode cX8_pattern 12 = .ok (.invokestatic 80, 3) := by decide +kernel
theorem dX8_pattern_15 : decode cX8_pattern 15 = .ok (.ifCond .eq 26, 3) := by decide +kernel
theorem dX8_pattern_18 : decode cX8_pattern 18 = .ok (.iload_n 3, 1) := by decide +kernel
theorem dX8_pattern_19 : decode cX8_pattern 19 = .ok (.iconst 0, 1) := by decide +kernel
theorem dX8_pattern_20 : decode cX8_pattern 20 = .ok (.iconst 5, 1) := by decide +kernel
theorem dX8_pattern_21 : decode cX8_pattern 21 = .ok (.invokestatic 80, 3) := by decide +kernel
theorem dX8_pattern_24 : decode cX8_pattern 24 = .ok (.ifCond .eq 17, 3) := by decide +kernel
theorem dX8_pattern_27 : decode cX8_pattern 27 = .ok (.iload_n 3, 1) := by decide +kernel
theorem dX8_pattern_28 : decode cX8_pattern 28 = .ok (.iconst 5, 1) := by decide +kernel
theorem dX8_pattern_29 : decode cX8_pattern 29 = .ok (.if_icmp .ne 8, 3) := by decide +kernel
theorem dX8_pattern_32 : decode cX8_pattern 32 = .ok (.iload_n 1, 1) := by decide +kernel
theorem dX8_pattern_33 : decode cX8_pattern 33 = .ok (.iload_n 2, 1) := by decide +kernel
theorem dX8_pattern_34 : decode cX8_pattern 34 = .ok (.if_icmp .ne 7, 3) := by decide +kernel
theorem dX8_pattern_37 : decode cX8_pattern 37 = .ok (.iconst 1, 1) := by decide +kernel
theorem dX8_pattern_38 : decode cX8_pattern 38 = .ok (.goto 4, 3) := by decide +kernel
theorem dX8_pattern_41 : decode cX8_pattern 41 = .ok (.iconst 0, 1) := by decide +kernel
theorem dX8_pattern_42 : decode cX8_pattern 42 = .ok (.istore 4, 2) := by decide +kernel
theorem dX8_pattern_44 : decode cX8_pattern 44 = .ok (.aload_n 0, 1) := by decide +kernel
theorem dX8_pattern_45 : decode cX8_pattern 45 = .ok (.iload 4, 2) := by decide +kernel
theorem dX8_pattern_47 : decode cX8_pattern 47 = .ok (.ifCond .ne 7, 3) := by decide +kernel
theorem dX8_pattern_50 : decode cX8_pattern 50 = .ok (.iconst 1, 1) := by decide +kernel
theorem dX8_pattern_51 : decode cX8_pattern 51 = .ok (.goto 17, 3) := by decide +kernel
theorem dX8_pattern_54 : decode cX8_pattern 54 = .ok (.aload_n 0, 1) := by decide +kernel
theorem dX8_pattern_55 : decode cX8_pattern 55 = .ok (.getfield 77, 3) := by decide +kernel
theorem dX8_pattern_58 : decode cX8_pattern 58 = .ok (.bipush 6, 2) := by decide +kernel
theorem dX8_pattern_60 : decode cX8_pattern 60 = .ok (.if_icmp .ne 7, 3) := by decide +kernel
theorem dX8_pattern_63 : decode cX8_pattern 63 = .ok (.iconst 2, 1) := by decide +kernel
theorem dX8_pattern_64 : decode cX8_pattern 64 = .ok (.goto 4, 3) := by decide +kernel
theorem dX8_pattern_67 : decode cX8_pattern 67 = .ok (.iconst 0, 1) := by decide +kernel
theorem dX8_pattern_68 : decode cX8_pattern 68 = .ok (.invokevirtual 84, 3) := by decide +kernel
theorem dX8_pattern_71 : decode cX8_pattern 71 = .ok (.ifCond .eq 5, 3) := by decide +kernel
theorem dX8_pattern_74 : decode cX8_pattern 74 = .ok (.iconst 0, 1) := by decide +kernel
theorem dX8_pattern_75 : decode cX8_pattern 75 = .ok (.ireturn, 1) := by decide +kernel
theorem dX8_pattern_76 : decode cX8_pattern 76 = .ok (.aload_n 0, 1) := by decide +kernel
theorem dX8_pattern_77 : decode cX8_pattern 77 = .ok (.getfield 7, 3) := by decide +kernel
theorem dX8_pattern_80 : decode cX8_pattern 80 = .ok (.aload_n 0, 1) := by decide +kernel
theorem dX8_pattern_81 : decode cX8_pattern 81 = .ok (.getfield 77, 3) := by decide +kernel
theorem dX8_pattern_84 : decode cX8_pattern 84 = .ok (.iload_n 1, 1) := by decide +kernel
theorem dX8_pattern_85 : decode cX8_pattern 85 = .ok (.iastore, 1) := by decide +kernel
theorem dX8_pattern_86 : decode cX8_pattern 86 = .ok (.aload_n 0, 1) := by decide +kernel
theorem dX8_pattern_87 : decode cX8_pattern 87 = .ok (.getfield 13, 3) := by decide +kernel
theorem dX8_pattern_90 : decode cX8_pattern 90 = .ok (.aload_n 0, 1) := by decide +kernel
theorem dX8_pattern_91 : decode cX8_pattern 91 = .ok (.getfield 77, 3) := by decide +kernel
theorem dX8_pattern_94 : decode cX8_pattern 94 = .ok (.iload_n 2, 1) := by decide +kernel
theorem dX8_pattern_95 : decode cX8_pattern 95 = .ok (.iastore, 1) := by decide +kernel
theorem dX8_pattern_96 : decode cX8_pattern 96 = .ok (.aload_n 0, 1) := by decide +kernel
theorem dX8_pattern_97 : decode cX8_pattern 97 = .ok (.getfield 16, 3) := by decide +kernel
theorem dX8_pattern_100 : decode cX8_pattern 100 = .ok (.aload_n 0, 1) := by decide +kernel
theorem dX8_pattern_101 : decode cX8_pattern 101 = .ok (.getfield 77, 3) := by decide +kernel
theorem dX8_pattern_104 : decode cX8_pattern 104 = .ok (.iload_n 3, 1) := by decide +kernel
theorem dX8_pattern_105 : decode cX8_pattern 105 = .ok (.iastore, 1) := by decide +kernel
theorem dX8_pattern_106 : decode cX8_pattern 106 = .ok (.aload_n 0, 1) := by decide +kernel
theorem dX8_pattern_107 : decode cX8_pattern 107 = .ok (.dup, 1) := by decide +kernel
theorem dX8_pattern_108 : decode cX8_pattern 108 = .ok (.getfield 77, 3) := by decide +kernel
theorem dX8_pattern_111 : decode cX8_pattern 111 = .ok (.iconst 1, 1) := by decide +kernel
theorem dX8_pattern_112 : decode cX8_pattern 112 = .ok (.iadd, 1) := by decide +kernel
theorem dX8_pattern_113 : decode cX8_pattern 113 = .ok (.putfield 77, 3) := by decide +kernel
theorem dX8_pattern_116 : decode cX8_pattern 116 = .ok (.aload_n 0, 1) := by decide +kernel
theorem dX8_pattern_117 : decode cX8_pattern 117 = .ok (.getfield 77, 3) := by decide +kernel
theorem dX8_pattern_120 : decode cX8_pattern 120 = .ok (.iconst 1, 1) := by decide +kernel
theorem dX8_pattern_121 : decode cX8_pattern 121 = .ok (.isub, 1) := by decide +kernel
theorem dX8_pattern_122 : decode cX8_pattern 122 = .ok (.ireturn, 1) := by decide +kernel
theorem dX8_paint_0 : decode cX8_paint 0 = .ok (.aload_n 0, 1) := by decide +kernel
theorem dX8_paint_1 : decode cX8_paint 1 = .ok (.iload_n 1, 1) := by decide +kernel
theorem dX8_paint_2 : decode cX8_paint 2 = .ok (.invokevirtual 88, 3) := by decide +kernel
theorem dX8_paint_5 : decode cX8_paint 5 = .ok (.ifCond .eq 39, 3) := by decide +kernel
theorem dX8_paint_8 : decode cX8_paint 8 = .ok (.iload_n 2, 1) := by decide +kernel
theorem dX8_paint_9 : decode cX8_paint 9 = .ok (.iconst 0, 1) := by decide +kernel
theorem dX8_paint_10 : decode cX8_paint 10 = .ok (.aload_n 0, 1) := by decide +kernel
theorem dX8_paint_11 : decode cX8_paint 11 = .ok (.getfield 7, 3) := by decide +kernel
theorem dX8_paint_14 : decode cX8_paint 14 = .ok (.iload_n 1, 1) := by decide +kernel
theorem dX8_paint_15 : decode cX8_paint 15 = .ok (.iaload, 1) := by decide +kernel
theorem dX8_paint_16 : decode cX8_paint 16 = .ok (.iconst 1, 1) := by decide +kernel
theorem dX8_paint_17 : decode cX8_paint 17 = .ok (.isub, 1) := by decide +kernel
theorem dX8_paint_18 : decode cX8_paint 18 = .ok (.invokestatic 80, 3) := by decide +kernel
theorem dX8_paint_21 : decode cX8_paint 21 = .ok (.ifCond .eq 23, 3) := by decide +kernel
theorem dX8_paint_24 : decode cX8_paint 24 = .ok (.iload_n 3, 1) := by decide +kernel
theorem dX8_paint_25 : decode cX8_paint 25 = .ok (.iconst 0, 1) := by decide +kernel
theorem dX8_paint_26 : decode cX8_paint 26 = .ok (.aload_n 0, 1) := by decide +kernel
theorem dX8_paint_27 : decode cX8_paint 27 = .ok (.getfield 13, 3) := by decide +kernel
theorem dX8_paint_30 : decode cX8_paint 30 = .ok (.iload_n 1, 1) := by decide +kernel
theorem dX8_paint_31 : decode cX8_paint 31 = .ok (.iaload, 1) := by decide +kernel
theorem dX8_paint_32 : decode cX8_paint 32 = .ok (.iconst 1, 1) := by decide +kernel
theorem dX8_paint_33 : decode cX8_paint 33 = .ok (.isub, 1) := by decide +kernel
theorem dX8_paint_34 : decode cX8_paint 34 = .ok (.invokestatic 80, 3) := by decide +kernel
theorem dX8_paint_37 : decode cX8_paint 37 = .ok (.ifCond .eq 7, 3) := by decide +kernel
theorem dX8_paint_40 : decode cX8_paint 40 = .ok (.iconst 1, 1) := by decide +kernel
theorem dX8_paint_41 : decode cX8_paint 41 = .ok (.goto 4, 3) := by decide +kernel
theorem dX8_paint_44 : decode cX8_paint 44 = .ok (.iconst 0, 1) := by decide +kernel
theorem dX8_paint_45 : decode cX8_paint 45 = .ok (.istore 5, 2) := by decide +kernel
theorem dX8_paint_47 : decode cX8_paint 47 = .ok (.aload_n 0, 1) := by decide +kernel
theorem dX8_paint_48 : decode cX8_paint 48 = .ok (.iload 5, 2) := by decide +kernel
theorem dX8_paint_50 : decode cX8_paint 50 = .ok (.ifCond .ne 7, 3) := by decide +kernel
theorem dX8_paint_53 : decode cX8_paint 53 = .ok (.iconst 1, 1) := by decide +kernel
theorem dX8_paint_54 : decode cX8_paint 54 = .ok (.goto 19, 3) := by decide +kernel
theorem dX8_paint_57 : decode cX8_paint 57 = .ok (.iload 4, 2) := by decide +kernel
theorem dX8_paint_59 : decode cX8_paint 59 = .ok (.iconst 0, 1) := by decide +kernel
theorem dX8_paint_60 : decode cX8_paint 60 = .ok (.bipush 7, 2) := by decide +kernel
theorem dX8_paint_62 : decode cX8_paint 62 = .ok (.invokestatic 80, 3) := by decide +kernel
theorem dX8_paint_65 : decode cX8_paint 65 = .ok (.ifCond .ne 7, 3) := by decide +kernel
theorem dX8_paint_68 : decode cX8_paint 68 = .ok (.iconst 2, 1) := by decide +kernel
theorem dX8_paint_69 : decode cX8_paint 69 = .ok (.goto 4, 3) := by decide +kernel
theorem dX8_paint_72 : decode cX8_paint 72 = .ok (.iconst 0, 1) := by decide +kernel
theorem dX8_paint_73 : decode cX8_paint 73 = .ok (.invokevirtual 84, 3) := by decide +kernel
theorem dX8_paint_76 : decode cX8_paint 76 = .ok (.ifCond .eq 5, 3) := by decide +kernel
theorem dX8_paint_79 : decode cX8_paint 79 = .ok (.iconst 0, 1) := by decide +kernel
theorem dX8_paint_80 : decode cX8_paint 80 = .ok (.ireturn, 1) := by decide +kernel
theorem dX8_paint_81 : decode cX8_paint 81 = .ok (.bipush 25, 2) := by decide +kernel
theorem dX8_paint_83 : decode cX8_paint 83 = .ok (.iload_n 1, 1) := by decide +kernel
theorem dX8_paint_84 : decode cX8_paint 84 = .ok (.imul, 1) := by decide +kernel
theorem dX8_paint_85 : decode cX8_paint 85 = .ok (.iconst 5, 1) := by decide +kernel
theorem dX8_paint_86 : decode cX8_paint 86 = .ok (.iload_n 3, 1) := by decide +kernel
theorem dX8_paint_87 : decode cX8_paint 87 = .ok (.imul, 1) := by decide +kernel
theorem dX8_paint_88 : decode cX8_paint 88 = .ok (.iadd, 1) := by decide +kernel
theorem dX8_paint_89 : decode cX8_paint 89 = .ok (.iload_n 2, 1) := by decide +kernel
theorem dX8_paint_90 : decode cX8_paint 90 = .ok (.iadd, 1) := by decide +kernel
theorem dX8_paint_91 : decode cX8_paint 91 = .ok (.istore 6, 2) := by decide +kernel
theorem dX8_paint_93 : decode cX8_paint 93 = .ok (.aload_n 0, 1) := by decide +kernel
theorem dX8_paint_94 : decode cX8_paint 94 = .ok (.getfield 19, 3) := by decide +kernel
theorem dX8_paint_97 : decode cX8_paint 97 = .ok (.iload 6, 2) := by decide +kernel
theorem dX8_paint_99 : decode cX8_paint 99 = .ok (.iaload, 1) := by decide +kernel
theorem dX8_paint_100 : decode cX8_paint 100 = .ok (.istore 7, 2) := by decide +kernel
theorem dX8_paint_102 : decode cX8_paint 102 = .ok (.aload_n 0, 1) := by decide +kernel
theorem dX8_paint_103 : decode cX8_paint 103 = .ok (.getfield 19, 3) := by decide +kernel
theorem dX8_paint_106 : decode cX8_paint 106 = .ok (.iload 6, 2) := by decide +kernel
theorem dX8_paint_108 : decode cX8_paint 108 = .ok (.iload 4, 2) := by decide +kernel
theorem dX8_paint_110 : decode cX8_paint 110 = .ok (.iastore, 1) := by decide +kernel
theorem dX8_paint_111 : decode cX8_paint 111 = .ok (.iload 7, 2) := by decide +kernel
theorem dX8_paint_113 : decode cX8_paint 113 = .ok (.ireturn, 1) := by decide +kernel
theorem dX8_columns_0 : decode cX8_columns 0 = .ok (.aload_n 0, 1) := by decide +kernel
theorem dX8_columns_1 : decode cX8_columns 1 = .ok (.getfield 16, 3) := by decide +kernel
theorem dX8_columns_4 : decode cX8_columns 4 = .ok (.iload_n 1, 1) := by decide +kernel
theorem dX8_columns_5 : decode cX8_columns 5 = .ok (.iaload, 1) := by decide +kernel
theorem dX8_columns_6 : decode cX8_columns 6 = .ok (.iconst 2, 1) := by decide +kernel
theorem dX8_columns_7 : decode cX8_columns 7 = .ok (.if_icmp .ge 12, 3) := by decide +kernel
theorem dX8_columns_10 : decode cX8_columns 10 = .ok (.aload_n 0, 1) := by decide +kernel
theorem dX8_columns_11 : decode cX8_columns 11 = .ok (.getfield 7, 3) := by decide +kernel
theorem dX8_columns_14 : decode cX8_columns 14 = .ok (.iload_n 1, 1) := by decide +kernel
theorem dX8_columns_15 : decode cX8_columns 15 = .ok (.iaload, 1) := by decide +kernel
theorem dX8_columns_16 : decode cX8_columns 16 = .ok (.goto 11, 3) := by decide +kernel
theorem dX8_columns_19 : decode cX8_columns 19 = .ok (.iconst 2, 1) := by decide +kernel
theorem dX8_columns_20 : decode cX8_columns 20 = .ok (.aload_n 0, 1) := by decide +kernel
theorem dX8_columns_21 : decode cX8_columns 21 = .ok (.getfield 7, 3) := by decide +kernel
theorem dX8_columns_24 : decode cX8_columns 24 = .ok (.iload_n 1, 1) := by decide +kernel
theorem dX8_columns_25 : decode cX8_columns 25 = .ok (.iaload, 1) := by decide +kernel
theorem dX8_columns_26 : decode cX8_columns 26 = .ok (.imul, 1) := by decide +kernel
theorem dX8_columns_27 : decode cX8_columns 27 = .ok (.ireturn, 1) := by decide +kernel
theorem dX8_rows_0 : decode cX8_rows 0 = .ok (.aload_n 0, 1) := by decide +kernel
theorem dX8_rows_1 : decode cX8_rows 1 = .ok (.getfield 16, 3) := by decide +kernel
theorem dX8_rows_4 : decode cX8_rows 4 = .ok (.iload_n 1, 1) := by decide +kernel
theorem dX8_rows_5 : decode cX8_rows 5 = .ok (.iaload, 1) := by decide +kernel
theorem dX8_rows_6 : decode cX8_rows 6 = .ok (.iconst 1, 1) := by decide +kernel
theorem dX8_rows_7 : decode cX8_rows 7 = .ok (.if_icmp .eq 13, 3) := by decide +kernel
theorem dX8_rows_10 : decode cX8_rows 10 = .ok (.aload_n 0, 1) := by decide +kernel
theorem dX8_rows_11 : decode cX8_rows 11 = .ok (.getfield 16, 3) := by decide +kernel
theorem dX8_rows_14 : decode cX8_rows 14 = .ok (.iload_n 1, 1) := by decide +kernel
theorem dX8_rows_15 : decode cX8_rows 15 = .ok (.iaload, 1) := by decide +kernel
theorem dX8_rows_16 : decode cX8_rows 16 = .ok (.iconst 3, 1) := by decide +kernel
theorem dX8_rows_17 : decode cX8_rows 17 = .ok (.if_icmp .le 14, 3) := by decide +kernel
theorem dX8_rows_20 : decode cX8_rows 20 = .ok (.iconst 2, 1) := by decide +kernel
theorem dX8_rows_21 : decode cX8_rows 21 = .ok (.aload_n 0, 1) := by decide +kernel
theorem dX8_rows_22 : decode cX8_rows 22 = .ok (.getfield 13, 3) := by decide +kernel
theorem dX8_rows_25 : decode cX8_rows 25 = .ok (.iload_n 1, 1) := by decide +kernel
theorem dX8_rows_26 : decode cX8_rows 26 = .ok (.iaload, 1) := by decide +kernel
theorem dX8_rows_27 : decode cX8_rows 27 = .ok (.imul, 1) := by decide +kernel
theorem dX8_rows_28 : decode cX8_rows 28 = .ok (.goto 9, 3) := by decide +kernel
theorem dX8_rows_31 : decode cX8_rows 31 = .ok (.aload_n 0, 1) := by decide +kernel
theorem dX8_rows_32 : decode cX8_rows 32 = .ok (.getfield 13, 3) := by decide +kernel
theorem dX8_rows_35 : decode cX8_rows 35 = .ok (.iload_n 1, 1) := by decide +kernel
theorem dX8_rows_36 : decode cX8_rows 36 = .ok (.iaload, 1) := by decide +kernel
theorem dX8_rows_37 : decode cX8_rows 37 = .ok (.ireturn, 1) := by decide +kernel
theorem dX8_cell_0 : decode cX8_cell 0 = .ok (.aload_n 0, 1) := by decide +kernel
theorem dX8_cell_1 : decode cX8_cell 1 = .ok (.getfield 7, 3) := by decide +kernel
theorem dX8_cell_4 : decode cX8_cell 4 = .ok (.iload_n 1, 1) := by decide +kernel
theorem dX8_cell_5 : decode cX8_cell 5 = .ok (.iaload, 1) := by decide +kernel
theorem dX8_cell_6 : decode cX8_cell 6 = .ok (.istore 4, 2) := by decide +kernel
theorem dX8_cell_8 : decode cX8_cell 8 = .ok (.aload_n 0, 1) := by decide +kernel
theorem dX8_cell_9 : decode cX8_cell 9 = .ok (.getfield 13, 3) := by decide +kernel
theorem dX8_cell_12 : decode cX8_cell 12 = .ok (.iload_n 1, 1) := by decide +kernel
theorem dX8_cell_13 : decode cX8_cell 13 = .ok (.iaload, 1) := by decide +kernel
theorem dX8_cell_14 : decode cX8_cell 14 = .ok (.istore 5, 2) := by decide +kernel
theorem dX8_cell_16 : decode cX8_cell 16 = .ok (.iload_n 2, 1) := by decide +kernel
theorem dX8_cell_17 : decode cX8_cell 17 = .ok (.iload 4, 2) := by decide +kernel
theorem dX8_cell_19 : decode cX8_cell 19 = .ok (.if_icmp .lt 7, 3) := by decide +kernel
theorem dX8_cell_22 : decode cX8_cell 22 = .ok (.iconst 1, 1) := by decide +kernel
theorem dX8_cell_23 : decode cX8_cell 23 = .ok (.goto 4, 3) := by decide +kernel
theorem dX8_cell_26 : decode cX8_cell 26 = .ok (.iconst 0, 1) := by decide +kernel
theorem dX8_cell_27 : decode cX8_cell 27 = .ok (.istore 6, 2) := by decide +kernel
theorem dX8_cell_29 : decode cX8_cell 29 = .ok (.iload_n 3, 1) := by decide +kernel
theorem dX8_cell_30 : decode cX8_cell 30 = .ok (.iload 5, 2) := by decide +kernel
theorem dX8_cell_32 : decode cX8_cell 32 = .ok (.if_icmp .lt 7, 3) := by decide +kernel
theorem dX8_cell_35 : decode cX8_cell 35 = .ok (.iconst 1, 1) := by decide +kernel
theorem dX8_cell_36 : decode cX8_cell 36 = .ok (.goto 4, 3) := by decide +kernel
theorem dX8_cell_39 : decode cX8_cell 39 = .ok (.iconst 0, 1) := by decide +kernel
theorem dX8_cell_40 : decode cX8_cell 40 = .ok (.istore 7, 2) := by decide +kernel
theorem dX8_cell_42 : decode cX8_cell 42 = .ok (.iload 6, 2) := by decide +kernel
theorem dX8_cell_44 : decode cX8_cell 44 = .ok (.ifCond .eq 10, 3) := by decide +kernel
theorem dX8_cell_47 : decode cX8_cell 47 = .ok (.iload_n 2, 1) := by decide +kernel
theorem dX8_cell_48 : decode cX8_cell 48 = .ok (.iload 4, 2) := by decide +kernel
theorem dX8_cell_50 : decode cX8_cell 50 = .ok (.isub, 1) := by decide +kernel
theorem dX8_cell_51 : decode cX8_cell 51 = .ok (.goto 4, 3) := by decide +kernel
theorem dX8_cell_54 : decode cX8_cell 54 = .ok (.iload_n 2, 1) := by decide +kernel
theorem dX8_cell_55 : decode cX8_cell 55 = .ok (.istore 8, 2) := by decide +kernel
theorem dX8_cell_57 : decode cX8_cell 57 = .ok (.iload 7, 2) := by decide +kernel
theorem dX8_cell_59 : decode cX8_cell 59 = .ok (.ifCond .eq 10, 3) := by decide +kernel
theorem dX8_cell_62 : decode cX8_cell 62 = .ok (.iload_n 3, 1) := by decide +kernel
theorem dX8_cell_63 : decode cX8_cell 63 = .ok (.iload 5, 2) := by decide +kernel
theorem dX8_cell_65 : decode cX8_cell 65 = .ok (.isub, 1) := by decide +kernel
theorem dX8_cell_66 : decode cX8_cell 66 = .ok (.goto 4, 3) := by decide +kernel
theorem dX8_cell_69 : decode cX8_cell 69 = .ok (.iload_n 3, 1) := by decide +kernel
theorem dX8_cell_70 : decode cX8_cell 70 = .ok (.istore 9, 2) := by decide +kernel
theorem dX8_cell_72 : decode cX8_cell 72 = .ok (.iload 8, 2) := by decide +kernel
theorem dX8_cell_74 : decode cX8_cell 74 = .ok (.istore 10, 2) := by decide +kernel
theorem dX8_cell_76 : decode cX8_cell 76 = .ok (.iload 9, 2) := by decide +kernel
theorem dX8_cell_78 : decode cX8_cell 78 = .ok (.istore 11, 2) := by decide +kernel
theorem dX8_cell_80 : decode cX8_cell 80 = .ok (.aload_n 0, 1) := by decide +kernel
theorem dX8_cell_81 : decode cX8_cell 81 = .ok (.getfield 16, 3) := by decide +kernel
theorem dX8_cell_84 : decode cX8_cell 84 = .ok (.iload_n 1, 1) := by decide +kernel
theorem dX8_cell_85 : decode cX8_cell 85 = .ok (.iaload, 1) := by decide +kernel
theorem dX8_cell_86 : decode cX8_cell 86 = .ok (.iconst 1, 1) := by decide +kernel
theorem dX8_cell_87 : decode cX8_cell 87 = .ok (.if_icmp .ne 26, 3) := by decide +kernel
theorem dX8_cell_90 : decode cX8_cell 90 = .ok (.iload 7, 2) := by decide +kernel
theorem dX8_cell_92 : decode cX8_cell 92 = .ok (.ifCond .eq 21, 3) := by decide +kernel
theorem dX8_cell_95 : decode cX8_cell 95 = .ok (.iload 4, 2) := by decide +kernel
theorem dX8_cell_97 : decode cX8_cell 97 = .ok (.iconst 1, 1) := by decide +kernel
theorem dX8_cell_98 : decode cX8_cell 98 = .ok (.isub, 1) := by decide +kernel
theorem dX8_cell_99 : decode cX8_cell 99 = .ok (.iload 8, 2) := by decide +kernel
theorem dX8_cell_101 : decode cX8_cell 101 = .ok (.isub, 1) := by decide +kernel
theorem dX8_cell_102 : decode cX8_cell 102 = .ok (.istore 10, 2) := by decide +kernel
theorem dX8_cell_104 : decode cX8_cell 104 = .ok (.iload 5, 2) := by decide +kernel
theorem dX8_cell_106 : decode cX8_cell 106 = .ok (.iconst 1, 1) := by decide +kernel
theorem dX8_cell_107 : decode cX8_cell 107 = .ok (.isub, 1) := by decide +kernel
theorem dX8_cell_108 : decode cX8_cell 108 = .ok (.iload 9, 2) := by decide +kernel
theorem dX8_cell_110 : decode cX8_cell 110 = .ok (.isub, 1) := by decide +kernel
theorem dX8_cell_111 : decode cX8_cell 111 = .ok (.istore 11, 2) := by decide +kernel
theorem dX8_cell_113 : decode cX8_cell 113 = .ok (.aload_n 0, 1) := by decide +kernel
theorem dX8_cell_114 : decode cX8_cell 114 = .ok (.getfield 16, 3) := by decide +kernel
theorem dX8_cell_117 : decode cX8_cell 117 = .ok (.iload_n 1, 1) := by decide +kernel
theorem dX8_cell_118 : decode cX8_cell 118 = .ok (.iaload, 1) := by decide +kernel
theorem dX8_cell_119 : decode cX8_cell 119 = .ok (.iconst 2, 1) := by decide +kernel
theorem dX8_cell_120 : decode cX8_cell 120 = .ok (.if_icmp .eq 13, 3) := by decide +kernel
theorem dX8_cell_123 : decode cX8_cell 123 = .ok (.aload_n 0, 1) := by decide +kernel
theorem dX8_cell_124 : decode cX8_cell 124 = .ok (.getfield 16, 3) := by decide +kernel
theorem dX8_cell_127 : decode cX8_cell 127 = .ok (.iload_n 1, 1) := by decide +kernel
theorem dX8_cell_128 : decode cX8_cell 128 = .ok (.iaload, 1) := by decide +kernel
theorem dX8_cell_129 : decode cX8_cell 129 = .ok (.iconst 4, 1) := by decide +kernel
theorem dX8_cell_130 : decode cX8_cell 130 = .ok (.if_icmp .ne 17, 3) := by decide +kernel
theorem dX8_cell_133 : decode cX8_cell 133 = .ok (.iload 6, 2) := by decide +kernel
theorem dX8_cell_135 : decode cX8_cell 135 = .ok (.ifCond .eq 12, 3) := by decide +kernel
theorem dX8_cell_138 : decode cX8_cell 138 = .ok (.iload 4, 2) := by decide +kernel
theorem dX8_cell_140 : decode cX8_cell 140 = .ok (.iconst 1, 1) := by decide +kernel
theorem dX8_cell_141 : decode cX8_cell 141 = .ok (.isub, 1) := by decide +kernel
theorem dX8_cell_142 : decode cX8_cell 142 = .ok (.iload 8, 2) := by decide +kernel
theorem dX8_cell_144 : decode cX8_cell 144 = .ok (.isub, 1) := by decide +kernel
theorem dX8_cell_145 : decode cX8_cell 145 = .ok (.istore 10, 2) := by decide +kernel
theorem dX8_cell_147 : decode cX8_cell 147 = .ok (.aload_n 0, 1) := by decide +kernel
theorem dX8_cell_148 : decode cX8_cell 148 = .ok (.getfield 16, 3) := by decide +kernel
theorem dX8_cell_151 : decode cX8_cell 151 = .ok (.iload_n 1, 1) := by decide +kernel
theorem dX8_cell_152 : decode cX8_cell 152 = .ok (.iaload, 1) := by decide +kernel
theorem dX8_cell_153 : decode cX8_cell 153 = .ok (.iconst 3, 1) := by decide +kernel
theorem dX8_cell_154 : decode cX8_cell 154 = .ok (.if_icmp .ne 8, 3) := by decide +kernel
theorem dX8_cell_157 : decode cX8_cell 157 = .ok (.iload 6, 2) := by decide +kernel
theorem dX8_cell_159 : decode cX8_cell 159 = .ok (.ifCond .ne 18, 3) := by decide +kernel
theorem dX8_cell_162 : decode cX8_cell 162 = .ok (.aload_n 0, 1) := by decide +kernel
theorem dX8_cell_163 : decode cX8_cell 163 = .ok (.getfield 16, 3) := by decide +kernel
theorem dX8_cell_166 : decode cX8_cell 166 = .ok (.iload_n 1, 1) := by decide +kernel
theorem dX8_cell_167 : decode cX8_cell 167 = .ok (.iaload, 1) := by decide +kernel
theorem dX8_cell_168 : decode cX8_cell 168 = .ok (.iconst 4, 1) := by decide +kernel
theorem dX8_cell_169 : decode cX8_cell 169 = .ok (.if_icmp .ne 17, 3) := by decide +kernel
theorem dX8_cell_172 : decode cX8_cell 172 = .ok (.iload 7, 2) := by decide +kernel
theorem dX8_cell_174 : decode cX8_cell 174 = .ok (.ifCond .eq 12, 3) := by decide +kernel
theorem dX8_cell_177 : decode cX8_cell 177 = .ok (.iload 5, 2) := by decide +kernel
theorem dX8_cell_179 : decode cX8_cell 179 = .ok (.iconst 1, 1) := by decide +kernel
theorem dX8_cell_180 : decode cX8_cell 180 = .ok (.isub, 1) := by decide +kernel
theorem dX8_cell_181 : decode cX8_cell 181 = .ok (.iload 9, 2) := by decide +kernel
theorem dX8_cell_183 : decode cX8_cell 183 = .ok (.isub, 1) := by decide +kernel
theorem dX8_cell_184 : decode cX8_cell 184 = .ok (.istore 11, 2) := by decide +kernel
theorem dX8_cell_186 : decode cX8_cell 186 = .ok (.aload_n 0, 1) := by decide +kernel
theorem dX8_cell_187 : decode cX8_cell 187 = .ok (.getfield 16, 3) := by decide +kernel
theorem dX8_cell_190 : decode cX8_cell 190 = .ok (.iload_n 1, 1) := by decide +kernel
theorem dX8_cell_191 : decode cX8_cell 191 = .ok (.iaload, 1) := by decide +kernel
theorem dX8_cell_192 : decode cX8_cell 192 = .ok (.iconst 5, 1) := by decide +kernel
theorem dX8_cell_193 : decode cX8_cell 193 = .ok (.if_icmp .ne 91, 3) := by decide +kernel
theorem dX8_cell_196 : decode cX8_cell 196 = .ok (.iload 6, 2) := by decide +kernel
theorem dX8_cell_198 : decode cX8_cell 198 = .ok (.ifCond .ne 8, 3) := by decide +kernel
theorem dX8_cell_201 : decode cX8_cell 201 = .ok (.iload 7, 2) := by decide +kernel
theorem dX8_cell_203 : decode cX8_cell 203 = .ok (.ifCond .eq 81, 3) := by decide +kernel
theorem dX8_cell_206 : decode cX8_cell 206 = .ok (.iload 6, 2) := by decide +kernel
theorem dX8_cell_208 : decode cX8_cell 208 = .ok (.ifCond .eq 18, 3) := by decide +kernel
theorem dX8_cell_211 : decode cX8_cell 211 = .ok (.iload 7, 2) := by decide +kernel
theorem dX8_cell_213 : decode cX8_cell 213 = .ok (.ifCond .eq 13, 3) := by decide +kernel
theorem dX8_cell_216 : decode cX8_cell 216 = .ok (.iload 4, 2) := by decide +kernel
theorem dX8_cell_218 : decode cX8_cell 218 = .ok (.iconst 1, 1) := by decide +kernel
theorem dX8_cell_219 : decode cX8_cell 219 = .ok (.isub, 1) := by decide +kernel
theorem dX8_cell_220 : decode cX8_cell 220 = .ok (.iload 8, 2) := by decide +kernel
theorem dX8_cell_222 : decode cX8_cell 222 = .ok (.isub, 1) := by decide +kernel
theorem dX8_cell_223 : decode cX8_cell 223 = .ok (.goto 20, 3) := by decide +kernel
theorem dX8_cell_226 : decode cX8_cell 226 = .ok (.iload 6, 2) := by decide +kernel
theorem dX8_cell_228 : decode cX8_cell 228 = .ok (.ifCond .eq 8, 3) := by decide +kernel
theorem dX8_cell_231 : decode cX8_cell 231 = .ok (.iload 9, 2) := by decide +kernel
theorem dX8_cell_233 : decode cX8_cell 233 = .ok (.goto 10, 3) := by decide +kernel
theorem dX8_cell_236 : decode cX8_cell 236 = .ok (.iload 4, 2) := by decide +kernel
theorem dX8_cell_238 : decode cX8_cell 238 = .ok (.iconst 1, 1) := by decide +kernel
theorem dX8_cell_239 : decode cX8_cell 239 = .ok (.isub, 1) := by decide +kernel
theorem dX8_cell_240 : decode cX8_cell 240 = .ok (.iload 9, 2) := by decide +kernel
theorem dX8_cell_242 : decode cX8_cell 242 = .ok (.isub, 1) := by decide +kernel
theorem dX8_cell_243 : decode cX8_cell 243 = .ok (.istore 10, 2) := by decide +kernel
theorem dX8_cell_245 : decode cX8_cell 245 = .ok (.iload 6, 2) := by decide +kernel
theorem dX8_cell_247 : decode cX8_cell 247 = .ok (.ifCond .eq 18, 3) := by decide +kernel
theorem dX8_cell_250 : decode cX8_cell 250 = .ok (.iload 7, 2) := by decide +kernel
theorem dX8_cell_252 : decode cX8_cell 252 = .ok (.ifCond .eq 13, 3) := by decide +kernel
theorem dX8_cell_255 : decode cX8_cell 255 = .ok (.iload 4, 2) := by decide +kernel
theorem dX8_cell_257 : decode cX8_cell 257 = .ok (.iconst 1, 1) := by decide +kernel
theorem dX8_cell_258 : decode cX8_cell 258 = .ok (.isub, 1) := by decide +kernel
theorem dX8_cell_259 : decode cX8_cell 259 = .ok (.iload 9, 2) := by decide +kernel
theorem dX8_cell_261 : decode cX8_cell 261 = .ok (.isub, 1) := by decide +kernel
theorem dX8_cell_262 : decode cX8_cell 262 = .ok (.goto 20, 3) := by decide +kernel
theorem dX8_cell_265 : decode cX8_cell 265 = .ok (.iload 6, 2) := by decide +kernel
theorem dX8_cell_267 : decode cX8_cell 267 = .ok (.ifCond .eq 13, 3) := by decide +kernel
theorem dX8_cell_270 : decode cX8_cell 270 = .ok (.iload 4, 2) := by decide +kernel
theorem dX8_cell_272 : decode cX8_cell 272 = .ok (.iconst 1, 1) := by decide +kernel
theorem dX8_cell_273 : decode cX8_cell 273 = .ok (.isub, 1) := by decide +kernel
theorem dX8_cell_274 : decode cX8_cell 274 = .ok (.iload 8, 2) := by decide +kernel
theorem dX8_cell_276 : decode cX8_cell 276 = .ok (.isub, 1) := by decide +kernel
theorem dX8_cell_277 : decode cX8_cell 277 = .ok (.goto 5, 3) := by decide +kernel
theorem dX8_cell_280 : decode cX8_cell 280 = .ok (.iload 8, 2) := by decide +kernel
theorem dX8_cell_282 : decode cX8_cell 282 = .ok (.istore 11, 2) := by decide +kernel
theorem dX8_cell_284 : decode cX8_cell 284 = .ok (.aload_n 0, 1) := by decide +kernel
theorem dX8_cell_285 : decode cX8_cell 285 = .ok (.getfield 19, 3) := by decide +kernel
theorem dX8_cell_288 : decode cX8_cell 288 = .ok (.bipush 25, 2) := by decide +kernel
theorem dX8_cell_290 : decode cX8_cell 290 = .ok (.iload_n 1, 1) := by decide +kernel
theorem dX8_cell_291 : decode cX8_cell 291 = .ok (.imul, 1) := by decide +kernel
theorem dX8_cell_292 : decode cX8_cell 292 = .ok (.iconst 5, 1) := by decide +kernel
theorem dX8_cell_293 : decode cX8_cell 293 = .ok (.iload 11, 2) := by decide +kernel
theorem dX8_cell_295 : decode cX8_cell 295 = .ok (.imul, 1) := by decide +kernel
theorem dX8_cell_296 : decode cX8_cell 296 = .ok (.iadd, 1) := by decide +kernel
theorem dX8_cell_297 : decode cX8_cell 297 = .ok (.iload 10, 2) := by decide +kernel
theorem dX8_cell_299 : decode cX8_cell 299 = .ok (.iadd, 1) := by decide +kernel
theorem dX8_cell_300 : decode cX8_cell 300 = .ok (.iaload, 1) := by decide +kernel
theorem dX8_cell_301 : decode cX8_cell 301 = .ok (.ireturn, 1) := by decide +kernel
theorem dX8_modulo_0 : decode cX8_modulo 0 = .ok (.iload_n 0, 1) := by decide +kernel
theorem dX8_modulo_1 : decode cX8_modulo 1 = .ok (.iload_n 1, 1) := by decide +kernel
theorem dX8_modulo_2 : decode cX8_modulo 2 = .ok (.irem, 1) := by decide +kernel
theorem dX8_modulo_3 : decode cX8_modulo 3 = .ok (.istore_n 2, 1) := by decide +kernel
theorem dX8_modulo_4 : decode cX8_modulo 4 = .ok (.iload_n 2, 1) := by decide +kernel
theorem dX8_modulo_5 : decode cX8_modulo 5 = .ok (.ifCond .ge 9, 3) := by decide +kernel
theorem dX8_modulo_8 : decode cX8_modulo 8 = .ok (.iload_n 2, 1) := by decide +kernel
theorem dX8_modulo_9 : decode cX8_modulo 9 = .ok (.iload_n 1, 1) := by decide +kernel
theorem dX8_modulo_10 : decode cX8_modulo 10 = .ok (.iadd, 1) := by decide +kernel
theorem dX8_modulo_11 : decode cX8_modulo 11 = .ok (.goto 4, 3) := by decide +kernel
theorem dX8_modulo_14 : decode cX8_modulo 14 = .ok (.iload_n 2, 1) := by decide +kernel
theorem dX8_modulo_15 : decode cX8_modulo 15 = .ok (.ireturn, 1) := by decide +kernel
theorem dX8_colourAt_0 : decode cX8_colourAt 0 = .ok (.aload_n 0, 1) := by decide +kernel
theorem dX8_colourAt_1 : decode cX8_colourAt 1 = .ok (.iload_n 1, 1) := by decide +kernel
theorem dX8_colourAt_2 : decode cX8_colourAt 2 = .ok (.iload_n 2, 1) := by decide +kernel
theorem dX8_colourAt_3 : decode cX8_colourAt 3 = .ok (.aload_n 0, 1) := by decide +kernel
theorem dX8_colourAt_4 : decode cX8_colourAt 4 = .ok (.iload_n 1, 1) := by decide +kernel
theorem dX8_colourAt_5 : decode cX8_colourAt 5 = .ok (.invokevirtual 91, 3) := by decide +kernel
theorem dX8_colourAt_8 : decode cX8_colourAt 8 = .ok (.invokestatic 95, 3) := by decide +kernel
theorem dX8_colourAt_11 : decode cX8_colourAt 11 = .ok (.iload_n 3, 1) := by decide +kernel
theorem dX8_colourAt_12 : decode cX8_colourAt 12 = .ok (.aload_n 0, 1) := by decide +kernel
theorem dX8_colourAt_13 : decode cX8_colourAt 13 = .ok (.iload_n 1, 1) := by decide +kernel
theorem dX8_colourAt_14 : decode cX8_colourAt 14 = .ok (.invokevirtual 99, 3) := by decide +kernel
theorem dX8_colourAt_17 : decode cX8_colourAt 17 = .ok (.invokestatic 95, 3) := by decide +kernel
theorem dX8_colourAt_20 : decode cX8_colourAt 20 = .ok (.invokevirtual 102, 3) := by decide +kernel
theorem dX8_colourAt_23 : decode cX8_colourAt 23 = .ok (.ireturn, 1) := by decide +kernel
theorem dX8_colour_0 : decode cX8_colour 0 = .ok (.aload_n 0, 1) := by decide +kernel
theorem dX8_colour_1 : decode cX8_colour 1 = .ok (.aload_n 0, 1) := by decide +kernel
theorem dX8_colour_2 : decode cX8_colour 2 = .ok (.iload_n 1, 1) := by decide +kernel
theorem dX8_colour_3 : decode cX8_colour 3 = .ok (.invokevirtual 88, 3) := by decide +kernel
theorem dX8_colour_6 : decode cX8_colour 6 = .ok (.ifCond .eq 7, 3) := by decide +kernel
theorem dX8_colour_9 : decode cX8_colour 9 = .ok (.iconst 0, 1) := by decide +kernel
theorem dX8_colour_10 : decode cX8_colour 10 = .ok (.goto 4, 3) := by decide +kernel
theorem dX8_colour_13 : decode cX8_colour 13 = .ok (.iconst 1, 1) := by decide +kernel
theorem dX8_colour_14 : decode cX8_colour 14 = .ok (.invokevirtual 84, 3) := by decide +kernel
theorem dX8_colour_17 : decode cX8_colour 17 = .ok (.ifCond .eq 7, 3) := by decide +kernel
theorem dX8_colour_20 : decode cX8_colour 20 = .ok (.iconst 0, 1) := by decide +kernel
theorem dX8_colour_21 : decode cX8_colour 21 = .ok (.goto 10, 3) := by decide +kernel
theorem dX8_colour_24 : decode cX8_colour 24 = .ok (.aload_n 0, 1) := by decide +kernel
theorem dX8_colour_25 : decode cX8_colour 25 = .ok (.iload_n 1, 1) := by decide +kernel
theorem dX8_colour_26 : decode cX8_colour 26 = .ok (.iload_n 2, 1) := by decide +kernel
theorem dX8_colour_27 : decode cX8_colour 27 = .ok (.iload_n 3, 1) := by decide +kernel
theorem dX8_colour_28 : decode cX8_colour 28 = .ok (.invokevirtual 106, 3) := by decide +kernel
theorem dX8_colour_31 : decode cX8_colour 31 = .ok (.ireturn, 1) := by decide +kernel
theorem dX8_repeat_0 : decode cX8_repeat 0 = .ok (.aload_n 0, 1) := by decide +kernel
theorem dX8_repeat_1 : decode cX8_repeat 1 = .ok (.aload_n 0, 1) := by decide +kernel
theorem dX8_repeat_2 : decode cX8_repeat 2 = .ok (.iload_n 1, 1) := by decide +kernel
theorem dX8_repeat_3 : decode cX8_repeat 3 = .ok (.invokevirtual 88, 3) := by decide +kernel
theorem dX8_repeat_6 : decode cX8_repeat 6 = .ok (.ifCond .eq 7, 3) := by decide +kernel
theorem dX8_repeat_9 : decode cX8_repeat 9 = .ok (.iconst 0, 1) := by decide +kernel
theorem dX8_repeat_10 : decode cX8_repeat 10 = .ok (.goto 4, 3) := by decide +kernel
theorem dX8_repeat_13 : decode cX8_repeat 13 = .ok (.iconst 1, 1) := by decide +kernel
theorem dX8_repeat_14 : decode cX8_repeat 14 = .ok (.invokevirtual 84, 3) := by decide +kernel
theorem dX8_repeat_17 : decode cX8_repeat 17 = .ok (.ifCond .eq 7, 3) := by decide +kernel
theorem dX8_repeat_20 : decode cX8_repeat 20 = .ok (.iconst 0, 1) := by decide +kernel
theorem dX8_repeat_21 : decode cX8_repeat 21 = .ok (.goto 20, 3) := by decide +kernel
theorem dX8_repeat_24 : decode cX8_repeat 24 = .ok (.iload_n 2, 1) := by decide +kernel
theorem dX8_repeat_25 : decode cX8_repeat 25 = .ok (.ifCond .eq 11, 3) := by decide +kernel
theorem dX8_repeat_28 : decode cX8_repeat 28 = .ok (.aload_n 0, 1) := by decide +kernel
theorem dX8_repeat_29 : decode cX8_repeat 29 = .ok (.iload_n 1, 1) := by decide +kernel
theorem dX8_repeat_30 : decode cX8_repeat 30 = .ok (.invokevirtual 99, 3) := by decide +kernel
theorem dX8_repeat_33 : decode cX8_repeat 33 = .ok (.goto 8, 3) := by decide +kernel
theorem dX8_repeat_36 : decode cX8_repeat 36 = .ok (.aload_n 0, 1) := by decide +kernel
theorem dX8_repeat_37 : decode cX8_repeat 37 = .ok (.iload_n 1, 1) := by decide +kernel
theorem dX8_repeat_38 : decode cX8_repeat 38 = .ok (.invokevirtual 91, 3) := by decide +kernel
theorem dX8_repeat_41 : decode cX8_repeat 41 = .ok (.ireturn, 1) := by decide +kernel
theorem dX8_repeatAnew_0 : decode cX8_repeatAnew 0 = .ok (.aload_n 0, 1) := by decide +kernel
theorem dX8_repeatAnew_1 : decode cX8_repeatAnew 1 = .ok (.aload_n 0, 1) := by decide +kernel
theorem dX8_repeatAnew_2 : decode cX8_repeatAnew 2 = .ok (.iload_n 1, 1) := by decide +kernel
theorem dX8_repeatAnew_3 : decode cX8_repeatAnew 3 = .ok (.invokevirtual 88, 3) := by decide +kernel
theorem dX8_repeatAnew_6 : decode cX8_repeatAnew 6 = .ok (.ifCond .eq 7, 3) := by decide +kernel
theorem dX8_repeatAnew_9 : decode cX8_repeatAnew 9 = .ok (.iconst 0, 1) := by decide +kernel
theorem dX8_repeatAnew_10 : decode cX8_repeatAnew 10 = .ok (.goto 4, 3) := by decide +kernel
theorem dX8_repeatAnew_13 : decode cX8_repeatAnew 13 = .ok (.iconst 1, 1) := by decide +kernel
theorem dX8_repeatAnew_14 : decode cX8_repeatAnew 14 = .ok (.invokevirtual 84, 3) := by decide +kernel
theorem dX8_repeatAnew_17 : decode cX8_repeatAnew 17 = .ok (.ifCond .eq 5, 3) := by decide +kernel
theorem dX8_repeatAnew_20 : decode cX8_repeatAnew 20 = .ok (.iconst 0, 1) := by decide +kernel
theorem dX8_repeatAnew_21 : decode cX8_repeatAnew 21 = .ok (.ireturn, 1) := by decide +kernel
theorem dX8_repeatAnew_22 : decode cX8_repeatAnew 22 = .ok (.iconst 1, 1) := by decide +kernel
theorem dX8_repeatAnew_23 : decode cX8_repeatAnew 23 = .ok (.istore_n 3, 1) := by decide +kernel
theorem dX8_repeatAnew_24 : decode cX8_repeatAnew 24 = .ok (.aload_n 0, 1) := by decide +kernel
theorem dX8_repeatAnew_25 : decode cX8_repeatAnew 25 = .ok (.iload_n 1, 1) := by decide +kernel
theorem dX8_repeatAnew_26 : decode cX8_repeatAnew 26 = .ok (.iload_n 2, 1) := by decide +kernel
theorem dX8_repeatAnew_27 : decode cX8_repeatAnew 27 = .ok (.ifCond .eq 7, 3) := by decide +kernel
theorem dX8_repeatAnew_30 : decode cX8_repeatAnew 30 = .ok (.iconst 0, 1) := by decide +kernel
theorem dX8_repeatAnew_31 : decode cX8_repeatAnew 31 = .ok (.goto 4, 3) := by decide +kernel
theorem dX8_repeatAnew_34 : decode cX8_repeatAnew 34 = .ok (.iload_n 3, 1) := by decide +kernel
theorem dX8_repeatAnew_35 : decode cX8_repeatAnew 35 = .ok (.iload_n 2, 1) := by decide +kernel
theorem dX8_repeatAnew_36 : decode cX8_repeatAnew 36 = .ok (.ifCond .eq 7, 3) := by decide +kernel
theorem dX8_repeatAnew_39 : decode cX8_repeatAnew 39 = .ok (.iload_n 3, 1) := by decide +kernel
theorem dX8_repeatAnew_40 : decode cX8_repeatAnew 40 = .ok (.goto 4, 3) := by decide +kernel
theorem dX8_repeatAnew_43 : decode cX8_repeatAnew 43 = .ok (.iconst 0, 1) := by decide +kernel
theorem dX8_repeatAnew_44 : decode cX8_repeatAnew 44 = .ok (.invokevirtual 109, 3) := by decide +kernel
theorem dX8_repeatAnew_47 : decode cX8_repeatAnew 47 = .ok (.ifCond .ne 9, 3) := by decide +kernel
theorem dX8_repeatAnew_50 : decode cX8_repeatAnew 50 = .ok (.iinc 3 1, 3) := by decide +kernel
theorem dX8_repeatAnew_53 : decode cX8_repeatAnew 53 = .ok (.goto (-29), 3) := by decide +kernel
theorem dX8_repeatAnew_56 : decode cX8_repeatAnew 56 = .ok (.iload_n 3, 1) := by decide +kernel
theorem dX8_repeatAnew_57 : decode cX8_repeatAnew 57 = .ok (.ireturn, 1) := by decide +kernel
theorem dX8_holds_0 : decode cX8_holds 0 = .ok (.iconst 1, 1) := by decide +kernel
theorem dX8_holds_1 : decode cX8_holds 1 = .ok (.istore 4, 2) := by decide +kernel
theorem dX8_holds_3 : decode cX8_holds 3 = .ok (.iconst 0, 1) := by decide +kernel
theorem dX8_holds_4 : decode cX8_holds 4 = .ok (.istore 5, 2) := by decide +kernel
theorem dX8_holds_6 : decode cX8_holds 6 = .ok (.iload 5, 2) := by decide +kernel
theorem dX8_holds_8 : decode cX8_holds 8 = .ok (.aload_n 0, 1) := by decide +kernel
theorem dX8_holds_9 : decode cX8_holds 9 = .ok (.iload_n 1, 1) := by decide +kernel
theorem dX8_holds_10 : decode cX8_holds 10 = .ok (.invokevirtual 91, 3) := by decide +kernel
theorem dX8_holds_13 : decode cX8_holds 13 = .ok (.if_icmp .ge 65, 3) := by decide +kernel
theorem dX8_holds_16 : decode cX8_holds 16 = .ok (.iconst 0, 1) := by decide +kernel
theorem dX8_holds_17 : decode cX8_holds 17 = .ok (.istore 6, 2) := by decide +kernel
theorem dX8_holds_19 : decode cX8_holds 19 = .ok (.iload 6, 2) := by decide +kernel
theorem dX8_holds_21 : decode cX8_holds 21 = .ok (.aload_n 0, 1) := by decide +kernel
theorem dX8_holds_22 : decode cX8_holds 22 = .ok (.iload_n 1, 1) := by decide +kernel
theorem dX8_holds_23 : decode cX8_holds 23 = .ok (.invokevirtual 99, 3) := by decide +kernel
theorem dX8_holds_26 : decode cX8_holds 26 = .ok (.if_icmp .ge 46, 3) := by decide +kernel
theorem dX8_holds_29 : decode cX8_holds 29 = .ok (.iload 4, 2) := by decide +kernel
theorem dX8_holds_31 : decode cX8_holds 31 = .ok (.ifCond .eq 32, 3) := by decide +kernel
theorem dX8_holds_34 : decode cX8_holds 34 = .ok (.aload_n 0, 1) := by decide +kernel
theorem dX8_holds_35 : decode cX8_holds 35 = .ok (.iload_n 1, 1) := by decide +kernel
theorem dX8_holds_36 : decode cX8_holds 36 = .ok (.iload 5, 2) := by decide +kernel
theorem dX8_holds_38 : decode cX8_holds 38 = .ok (.iload_n 2, 1) := by decide +kernel
theorem dX8_holds_39 : decode cX8_holds 39 = .ok (.iadd, 1) := by decide +kernel
theorem dX8_holds_40 : decode cX8_holds 40 = .ok (.iload 6, 2) := by decide +kernel
theorem dX8_holds_42 : decode cX8_holds 42 = .ok (.iload_n 3, 1) := by decide +kernel
theorem dX8_holds_43 : decode cX8_holds 43 = .ok (.iadd, 1) := by decide +kernel
theorem dX8_holds_44 : decode cX8_holds 44 = .ok (.invokevirtual 106, 3) := by decide +kernel
theorem dX8_holds_47 : decode cX8_holds 47 = .ok (.aload_n 0, 1) := by decide +kernel
theorem dX8_holds_48 : decode cX8_holds 48 = .ok (.iload_n 1, 1) := by decide +kernel
theorem dX8_holds_49 : decode cX8_holds 49 = .ok (.iload 5, 2) := by decide +kernel
theorem dX8_holds_51 : decode cX8_holds 51 = .ok (.iload 6, 2) := by decide +kernel
theorem dX8_holds_53 : decode cX8_holds 53 = .ok (.invokevirtual 102, 3) := by decide +kernel
theorem dX8_holds_56 : decode cX8_holds 56 = .ok (.if_icmp .ne 7, 3) := by decide +kernel
theorem dX8_holds_59 : decode cX8_holds 59 = .ok (.iconst 1, 1) := by decide +kernel
theorem dX8_holds_60 : decode cX8_holds 60 = .ok (.goto 4, 3) := by decide +kernel
theorem dX8_holds_63 : decode cX8_holds 63 = .ok (.iconst 0, 1) := by decide +kernel
theorem dX8_holds_64 : decode cX8_holds 64 = .ok (.istore 4, 2) := by decide +kernel
theorem dX8_holds_66 : decode cX8_holds 66 = .ok (.iinc 6 1, 3) := by decide +kernel
theorem dX8_holds_69 : decode cX8_holds 69 = .ok (.goto (-50), 3) := by decide +kernel
theorem dX8_holds_72 : decode cX8_holds 72 = .ok (.iinc 5 1, 3) := by decide +kernel
theorem dX8_holds_75 : decode cX8_holds 75 = .ok (.goto (-69), 3) := by decide +kernel
theorem dX8_holds_78 : decode cX8_holds 78 = .ok (.iload 4, 2) := by decide +kernel
theorem dX8_holds_80 : decode cX8_holds 80 = .ok (.ireturn, 1) := by decide +kernel
theorem dX8_roller_0 : decode cX8_roller 0 = .ok (.aload_n 0, 1) := by decide +kernel
theorem dX8_roller_1 : decode cX8_roller 1 = .ok (.iload_n 1, 1) := by decide +kernel
theorem dX8_roller_2 : decode cX8_roller 2 = .ok (.invokevirtual 88, 3) := by decide +kernel
theorem dX8_roller_5 : decode cX8_roller 5 = .ok (.istore_n 3, 1) := by decide +kernel
theorem dX8_roller_6 : decode cX8_roller 6 = .ok (.iload_n 2, 1) := by decide +kernel
theorem dX8_roller_7 : decode cX8_roller 7 = .ok (.iconst 1, 1) := by decide +kernel
theorem dX8_roller_8 : decode cX8_roller 8 = .ok (.bipush 60, 2) := by decide +kernel
theorem dX8_roller_10 : decode cX8_roller 10 = .ok (.invokestatic 80, 3) := by decide +kernel
theorem dX8_roller_13 : decode cX8_roller 13 = .ok (.istore 4, 2) := by decide +kernel
theorem dX8_roller_15 : decode cX8_roller 15 = .ok (.aload_n 0, 1) := by decide +kernel
theorem dX8_roller_16 : decode cX8_roller 16 = .ok (.iload_n 3, 1) := by decide +kernel
theorem dX8_roller_17 : decode cX8_roller 17 = .ok (.ifCond .ne 7, 3) := by decide +kernel
theorem dX8_roller_20 : decode cX8_roller 20 = .ok (.iconst 1, 1) := by decide +kernel
theorem dX8_roller_21 : decode cX8_roller 21 = .ok (.goto 36, 3) := by decide +kernel
theorem dX8_roller_24 : decode cX8_roller 24 = .ok (.iload 4, 2) := by decide +kernel
theorem dX8_roller_26 : decode cX8_roller 26 = .ok (.ifCond .ne 7, 3) := by decide +kernel
theorem dX8_roller_29 : decode cX8_roller 29 = .ok (.iconst 2, 1) := by decide +kernel
theorem dX8_roller_30 : decode cX8_roller 30 = .ok (.goto 27, 3) := by decide +kernel
theorem dX8_roller_33 : decode cX8_roller 33 = .ok (.iload_n 2, 1) := by decide +kernel
theorem dX8_roller_34 : decode cX8_roller 34 = .ok (.aload_n 0, 1) := by decide +kernel
theorem dX8_roller_35 : decode cX8_roller 35 = .ok (.iload_n 1, 1) := by decide +kernel
theorem dX8_roller_36 : decode cX8_roller 36 = .ok (.invokevirtual 99, 3) := by decide +kernel
theorem dX8_roller_39 : decode cX8_roller 39 = .ok (.irem, 1) := by decide +kernel
theorem dX8_roller_40 : decode cX8_roller 40 = .ok (.ifCond .ne 12, 3) := by decide +kernel
theorem dX8_roller_43 : decode cX8_roller 43 = .ok (.aload_n 0, 1) := by decide +kernel
theorem dX8_roller_44 : decode cX8_roller 44 = .ok (.getfield 112, 3) := by decide +kernel
theorem dX8_roller_47 : decode cX8_roller 47 = .ok (.bipush 8, 2) := by decide +kernel
theorem dX8_roller_49 : decode cX8_roller 49 = .ok (.if_icmp .ne 7, 3) := by decide +kernel
theorem dX8_roller_52 : decode cX8_roller 52 = .ok (.iconst 3, 1) := by decide +kernel
theorem dX8_roller_53 : decode cX8_roller 53 = .ok (.goto 4, 3) := by decide +kernel
theorem dX8_roller_56 : decode cX8_roller 56 = .ok (.iconst 0, 1) := by decide +kernel
theorem dX8_roller_57 : decode cX8_roller 57 = .ok (.invokevirtual 84, 3) := by decide +kernel
theorem dX8_roller_60 : decode cX8_roller 60 = .ok (.ifCond .eq 5, 3) := by decide +kernel
theorem dX8_roller_63 : decode cX8_roller 63 = .ok (.iconst 0, 1) := by decide +kernel
theorem dX8_roller_64 : decode cX8_roller 64 = .ok (.ireturn, 1) := by decide +kernel
theorem dX8_roller_65 : decode cX8_roller 65 = .ok (.aload_n 0, 1) := by decide +kernel
theorem dX8_roller_66 : decode cX8_roller 66 = .ok (.getfield 112, 3) := by decide +kernel
theorem dX8_roller_69 : decode cX8_roller 69 = .ok (.istore 5, 2) := by decide +kernel
theorem dX8_roller_71 : decode cX8_roller 71 = .ok (.aload_n 0, 1) := by decide +kernel
theorem dX8_roller_72 : decode cX8_roller 72 = .ok (.dup, 1) := by decide +kernel
theorem dX8_roller_73 : decode cX8_roller 73 = .ok (.getfield 112, 3) := by decide +kernel
theorem dX8_roller_76 : decode cX8_roller 76 = .ok (.iconst 1, 1) := by decide +kernel
theorem dX8_roller_77 : decode cX8_roller 77 = .ok (.iadd, 1) := by decide +kernel
theorem dX8_roller_78 : decode cX8_roller 78 = .ok (.putfield 112, 3) := by decide +kernel
theorem dX8_roller_81 : decode cX8_roller 81 = .ok (.aload_n 0, 1) := by decide +kernel
theorem dX8_roller_82 : decode cX8_roller 82 = .ok (.getfield 22, 3) := by decide +kernel
theorem dX8_roller_85 : decode cX8_roller 85 = .ok (.iload 5, 2) := by decide +kernel
theorem dX8_roller_87 : decode cX8_roller 87 = .ok (.iload_n 1, 1) := by decide +kernel
theorem dX8_roller_88 : decode cX8_roller 88 = .ok (.iastore, 1) := by decide +kernel
theorem dX8_roller_89 : decode cX8_roller 89 = .ok (.aload_n 0, 1) := by decide +kernel
theorem dX8_roller_90 : decode cX8_roller 90 = .ok (.getfield 25, 3) := by decide +kernel
theorem dX8_roller_93 : decode cX8_roller 93 = .ok (.iload 5, 2) := by decide +kernel
theorem dX8_roller_95 : decode cX8_roller 95 = .ok (.iload_n 2, 1) := by decide +kernel
theorem dX8_roller_96 : decode cX8_roller 96 = .ok (.iastore, 1) := by decide +kernel
theorem dX8_roller_97 : decode cX8_roller 97 = .ok (.iconst 0, 1) := by decide +kernel
theorem dX8_roller_98 : decode cX8_roller 98 = .ok (.istore 6, 2) := by decide +kernel
theorem dX8_roller_100 : decode cX8_roller 100 = .ok (.iload 6, 2) := by decide +kernel
theorem dX8_roller_102 : decode cX8_roller 102 = .ok (.bipush 100, 2) := by decide +kernel
theorem dX8_roller_104 : decode cX8_roller 104 = .ok (.if_icmp .ge 37, 3) := by decide +kernel
theorem dX8_roller_107 : decode cX8_roller 107 = .ok (.aload_n 0, 1) := by decide +kernel
theorem dX8_roller_108 : decode cX8_roller 108 = .ok (.getfield 28, 3) := by decide +kernel
theorem dX8_roller_111 : decode cX8_roller 111 = .ok (.bipush 100, 2) := by decide +kernel
theorem dX8_roller_113 : decode cX8_roller 113 = .ok (.iload 5, 2) := by decide +kernel
theorem dX8_roller_115 : decode cX8_roller 115 = .ok (.imul, 1) := by decide +kernel
theorem dX8_roller_116 : decode cX8_roller 116 = .ok (.iload 6, 2) := by decide +kernel
theorem dX8_roller_118 : decode cX8_roller 118 = .ok (.iadd, 1) := by decide +kernel
theorem dX8_roller_119 : decode cX8_roller 119 = .ok (.aload_n 0, 1) := by decide +kernel
theorem dX8_roller_120 : decode cX8_roller 120 = .ok (.iload_n 1, 1) := by decide +kernel
theorem dX8_roller_121 : decode cX8_roller 121 = .ok (.iload 6, 2) := by decide +kernel
theorem dX8_roller_123 : decode cX8_roller 123 = .ok (.bipush 10, 2) := by decide +kernel
theorem dX8_roller_125 : decode cX8_roller 125 = .ok (.irem, 1) := by decide +kernel
theorem dX8_roller_126 : decode cX8_roller 126 = .ok (.iload 6, 2) := by decide +kernel
theorem dX8_roller_128 : decode cX8_roller 128 = .ok (.bipush 10, 2) := by decide +kernel
theorem dX8_roller_130 : decode cX8_roller 130 = .ok (.idiv, 1) := by decide +kernel
theorem dX8_roller_131 : decode cX8_roller 131 = .ok (.invokevirtual 106, 3) := by decide +kernel
theorem dX8_roller_134 : decode cX8_roller 134 = .ok (.iastore, 1) := by decide +kernel
theorem dX8_roller_135 : decode cX8_roller 135 = .ok (.iinc 6 1, 3) := by decide +kernel
theorem dX8_roller_138 : decode cX8_roller 138 = .ok (.goto (-38), 3) := by decide +kernel
theorem dX8_roller_141 : decode cX8_roller 141 = .ok (.iload 5, 2) := by decide +kernel
theorem dX8_roller_143 : decode cX8_roller 143 = .ok (.ireturn, 1) := by decide +kernel
theorem dX8_lot_0 : decode cX8_lot 0 = .ok (.iload_n 2, 1) := by decide +kernel
theorem dX8_lot_1 : decode cX8_lot 1 = .ok (.iconst 0, 1) := by decide +kernel
theorem dX8_lot_2 : decode cX8_lot 2 = .ok (.bipush 9, 2) := by decide +kernel
theorem dX8_lot_4 : decode cX8_lot 4 = .ok (.invokestatic 80, 3) := by decide +kernel
theorem dX8_lot_7 : decode cX8_lot 7 = .ok (.ifCond .eq 29, 3) := by decide +kernel
theorem dX8_lot_10 : decode cX8_lot 10 = .ok (.iload_n 3, 1) := by decide +kernel
theorem dX8_lot_11 : decode cX8_lot 11 = .ok (.iconst 1, 1) := by decide +kernel
theorem dX8_lot_12 : decode cX8_lot 12 = .ok (.bipush 20, 2) := by decide +kernel
theorem dX8_lot_14 : decode cX8_lot 14 = .ok (.invokestatic 80, 3) := by decide +kernel
theorem dX8_lot_17 : decode cX8_lot 17 = .ok (.ifCond .eq 19, 3) := by decide +kernel
theorem dX8_lot_20 : decode cX8_lot 20 = .ok (.iload 4, 2) := by decide +kernel
theorem dX8_lot_22 : decode cX8_lot 22 = .ok (.iconst 1, 1) := by decide +kernel
theorem dX8_lot_23 : decode cX8_lot 23 = .ok (.sipush 200, 3) := by decide +kernel
theorem dX8_lot_26 : decode cX8_lot 26 = .ok (.invokestatic 80, 3) := by decide +kernel
theorem dX8_lot_29 : decode cX8_lot 29 = .ok (.ifCond .eq 7, 3) := by decide +kernel
theorem dX8_lot_32 : decode cX8_lot 32 = .ok (.iconst 1, 1) := by decide +kernel
theorem dX8_lot_33 : decode cX8_lot 33 = .ok (.goto 4, 3) := by decide +kernel
theorem dX8_lot_36 : decode cX8_lot 36 = .ok (.iconst 0, 1) := by decide +kernel
theorem dX8_lot_37 : decode cX8_lot 37 = .ok (.istore 5, 2) := by decide +kernel
theorem dX8_lot_39 : decode cX8_lot 39 = .ok (.aload_n 0, 1) := by decide +kernel
theorem dX8_lot_40 : decode cX8_lot 40 = .ok (.iload_n 1, 1) := by decide +kernel
theorem dX8_lot_41 : decode cX8_lot 41 = .ok (.iconst 0, 1) := by decide +kernel
theorem dX8_lot_42 : decode cX8_lot 42 = .ok (.aload_n 0, 1) := by decide +kernel
theorem dX8_lot_43 : decode cX8_lot 43 = .ok (.getfield 112, 3) := by decide +kernel
theorem dX8_lot_46 : decode cX8_lot 46 = .ok (.iconst 1, 1) := by decide +kernel
theorem dX8_lot_47 : decode cX8_lot 47 = .ok (.isub, 1) := by decide +kernel
theorem dX8_lot_48 : decode cX8_lot 48 = .ok (.invokestatic 80, 3) := by decide +kernel
theorem dX8_lot_51 : decode cX8_lot 51 = .ok (.ifCond .ne 7, 3) := by decide +kernel
theorem dX8_lot_54 : decode cX8_lot 54 = .ok (.iconst 1, 1) := by decide +kernel
theorem dX8_lot_55 : decode cX8_lot 55 = .ok (.goto 26, 3) := by decide +kernel
theorem dX8_lot_58 : decode cX8_lot 58 = .ok (.iload 5, 2) := by decide +kernel
theorem dX8_lot_60 : decode cX8_lot 60 = .ok (.ifCond .ne 7, 3) := by decide +kernel
theorem dX8_lot_63 : decode cX8_lot 63 = .ok (.iconst 2, 1) := by decide +kernel
theorem dX8_lot_64 : decode cX8_lot 64 = .ok (.goto 17, 3) := by decide +kernel
theorem dX8_lot_67 : decode cX8_lot 67 = .ok (.aload_n 0, 1) := by decide +kernel
theorem dX8_lot_68 : decode cX8_lot 68 = .ok (.getfield 115, 3) := by decide +kernel
theorem dX8_lot_71 : decode cX8_lot 71 = .ok (.bipush 10, 2) := by decide +kernel
theorem dX8_lot_73 : decode cX8_lot 73 = .ok (.if_icmp .ne 7, 3) := by decide +kernel
theorem dX8_lot_76 : decode cX8_lot 76 = .ok (.iconst 3, 1) := by decide +kernel
theorem dX8_lot_77 : decode cX8_lot 77 = .ok (.goto 4, 3) := by decide +kernel
theorem dX8_lot_80 : decode cX8_lot 80 = .ok (.iconst 0, 1) := by decide +kernel
theorem dX8_lot_81 : decode cX8_lot 81 = .ok (.invokevirtual 84, 3) := by decide +kernel
theorem dX8_lot_84 : decode cX8_lot 84 = .ok (.ifCond .eq 5, 3) := by decide +kernel
theorem dX8_lot_87 : decode cX8_lot 87 = .ok (.iconst 0, 1) := by decide +kernel
theorem dX8_lot_88 : decode cX8_lot 88 = .ok (.ireturn, 1) := by decide +kernel
theorem dX8_lot_89 : decode cX8_lot 89 = .ok (.aload_n 0, 1) := by decide +kernel
theorem dX8_lot_90 : decode cX8_lot 90 = .ok (.getfield 115, 3) := by decide +kernel
theorem dX8_lot_93 : decode cX8_lot 93 = .ok (.istore 6, 2) := by decide +kernel
theorem dX8_lot_95 : decode cX8_lot 95 = .ok (.aload_n 0, 1) := by decide +kernel
theorem dX8_lot_96 : decode cX8_lot 96 = .ok (.dup, 1) := by decide +kernel
theorem dX8_lot_97 : decode cX8_lot 97 = .ok (.getfield 115, 3) := by decide +kernel
theorem dX8_lot_100 : decode cX8_lot 100 = .ok (.iconst 1, 1) := by decide +kernel
theorem dX8_lot_101 : decode cX8_lot 101 = .ok (.iadd, 1) := by decide +kernel
theorem dX8_lot_102 : decode cX8_lot 102 = .ok (.putfield 115, 3) := by decide +kernel
theorem dX8_lot_105 : decode cX8_lot 105 = .ok (.aload_n 0, 1) := by decide +kernel
theorem dX8_lot_106 : decode cX8_lot 106 = .ok (.getfield 31, 3) := by decide +kernel
theorem dX8_lot_109 : decode cX8_lot 109 = .ok (.iload 6, 2) := by decide +kernel
theorem dX8_lot_111 : decode cX8_lot 111 = .ok (.iload_n 1, 1) := by decide +kernel
theorem dX8_lot_112 : decode cX8_lot 112 = .ok (.iastore, 1) := by decide +kernel
theorem dX8_lot_113 : decode cX8_lot 113 = .ok (.aload_n 0, 1) := by decide +kernel
theorem dX8_lot_114 : decode cX8_lot 114 = .ok (.getfield 34, 3) := by decide +kernel
theorem dX8_lot_117 : decode cX8_lot 117 = .ok (.iload 6, 2) := by decide +kernel
theorem dX8_lot_119 : decode cX8_lot 119 = .ok (.iload_n 2, 1) := by decide +kernel
theorem dX8_lot_120 : decode cX8_lot 120 = .ok (.iastore, 1) := by decide +kernel
theorem dX8_lot_121 : decode cX8_lot 121 = .ok (.aload_n 0, 1) := by decide +kernel
theorem dX8_lot_122 : decode cX8_lot 122 = .ok (.getfield 37, 3) := by decide +kernel
theorem dX8_lot_125 : decode cX8_lot 125 = .ok (.iload 6, 2) := by decide +kernel
theorem dX8_lot_127 : decode cX8_lot 127 = .ok (.iload_n 3, 1) := by decide +kernel
theorem dX8_lot_128 : decode cX8_lot 128 = .ok (.iastore, 1) := by decide +kernel
theorem dX8_lot_129 : decode cX8_lot 129 = .ok (.aload_n 0, 1) := by decide +kernel
theorem dX8_lot_130 : decode cX8_lot 130 = .ok (.getfield 40, 3) := by decide +kernel
theorem dX8_lot_133 : decode cX8_lot 133 = .ok (.iload 6, 2) := by decide +kernel
theorem dX8_lot_135 : decode cX8_lot 135 = .ok (.iload 4, 2) := by decide +kernel
theorem dX8_lot_137 : decode cX8_lot 137 = .ok (.iastore, 1) := by decide +kernel
theorem dX8_lot_138 : decode cX8_lot 138 = .ok (.iload 6, 2) := by decide +kernel
theorem dX8_lot_140 : decode cX8_lot 140 = .ok (.ireturn, 1) := by decide +kernel
theorem dX8_lotOf_0 : decode cX8_lotOf 0 = .ok (.aload_n 0, 1) := by decide +kernel
theorem dX8_lotOf_1 : decode cX8_lotOf 1 = .ok (.iload_n 1, 1) := by decide +kernel
theorem dX8_lotOf_2 : decode cX8_lotOf 2 = .ok (.iconst 0, 1) := by decide +kernel
theorem dX8_lotOf_3 : decode cX8_lotOf 3 = .ok (.aload_n 0, 1) := by decide +kernel
theorem dX8_lotOf_4 : decode cX8_lotOf 4 = .ok (.getfield 115, 3) := by decide +kernel
theorem dX8_lotOf_7 : decode cX8_lotOf 7 = .ok (.iconst 1, 1) := by decide +kernel
theorem dX8_lotOf_8 : decode cX8_lotOf 8 = .ok (.isub, 1) := by decide +kernel
theorem dX8_lotOf_9 : decode cX8_lotOf 9 = .ok (.invokestatic 80, 3) := by decide +kernel
theorem dX8_lotOf_12 : decode cX8_lotOf 12 = .ok (.ifCond .ne 7, 3) := by decide +kernel
theorem dX8_lotOf_15 : decode cX8_lotOf 15 = .ok (.iconst 1, 1) := by decide +kernel
theorem dX8_lotOf_16 : decode cX8_lotOf 16 = .ok (.goto 17, 3) := by decide +kernel
theorem dX8_lotOf_19 : decode cX8_lotOf 19 = .ok (.iload_n 2, 1) := by decide +kernel
theorem dX8_lotOf_20 : decode cX8_lotOf 20 = .ok (.iconst 0, 1) := by decide +kernel
theorem dX8_lotOf_21 : decode cX8_lotOf 21 = .ok (.iconst 4, 1) := by decide +kernel
theorem dX8_lotOf_22 : decode cX8_lotOf 22 = .ok (.invokestatic 80, 3) := by decide +kernel
theorem dX8_lotOf_25 : decode cX8_lotOf 25 = .ok (.ifCond .ne 7, 3) := by decide +kernel
theorem dX8_lotOf_28 : decode cX8_lotOf 28 = .ok (.iconst 2, 1) := by decide +kernel
theorem dX8_lotOf_29 : decode cX8_lotOf 29 = .ok (.goto 4, 3) := by decide +kernel
theorem dX8_lotOf_32 : decode cX8_lotOf 32 = .ok (.iconst 0, 1) := by decide +kernel
theorem dX8_lotOf_33 : decode cX8_lotOf 33 = .ok (.invokevirtual 84, 3) := by decide +kernel
theorem dX8_lotOf_36 : decode cX8_lotOf 36 = .ok (.ifCond .eq 5, 3) := by decide +kernel
theorem dX8_lotOf_39 : decode cX8_lotOf 39 = .ok (.iconst 0, 1) := by decide +kernel
theorem dX8_lotOf_40 : decode cX8_lotOf 40 = .ok (.ireturn, 1) := by decide +kernel
theorem dX8_lotOf_41 : decode cX8_lotOf 41 = .ok (.iload_n 2, 1) := by decide +kernel
theorem dX8_lotOf_42 : decode cX8_lotOf 42 = .ok (.iconst 4, 1) := by decide +kernel
theorem dX8_lotOf_43 : decode cX8_lotOf 43 = .ok (.if_icmp .ge 51, 3) := by decide +kernel
theorem dX8_lotOf_46 : decode cX8_lotOf 46 = .ok (.iload_n 2, 1) := by decide +kernel
theorem dX8_lotOf_47 : decode cX8_lotOf 47 = .ok (.ifCond .ne 12, 3) := by decide +kernel
theorem dX8_lotOf_50 : decode cX8_lotOf 50 = .ok (.aload_n 0, 1) := by decide +kernel
theorem dX8_lotOf_51 : decode cX8_lotOf 51 = .ok (.getfield 31, 3) := by decide +kernel
theorem dX8_lotOf_54 : decode cX8_lotOf 54 = .ok (.iload_n 1, 1) := by decide +kernel
theorem dX8_lotOf_55 : decode cX8_lotOf 55 = .ok (.iaload, 1) := by decide +kernel
theorem dX8_lotOf_56 : decode cX8_lotOf 56 = .ok (.goto 37, 3) := by decide +kernel
theorem dX8_lotOf_59 : decode cX8_lotOf 59 = .ok (.iload_n 2, 1) := by decide +kernel
theorem dX8_lotOf_60 : decode cX8_lotOf 60 = .ok (.iconst 1, 1) := by decide +kernel
theorem dX8_lotOf_61 : decode cX8_lotOf 61 = .ok (.if_icmp .ne 12, 3) := by decide +kernel
theorem dX8_lotOf_64 : decode cX8_lotOf 64 = .ok (.aload_n 0, 1) := by decide +kernel
theorem dX8_lotOf_65 : decode cX8_lotOf 65 = .ok (.getfield 34, 3) := by decide +kernel
theorem dX8_lotOf_68 : decode cX8_lotOf 68 = .ok (.iload_n 1, 1) := by decide +kernel
theorem dX8_lotOf_69 : decode cX8_lotOf 69 = .ok (.iaload, 1) := by decide +kernel
theorem dX8_lotOf_70 : decode cX8_lotOf 70 = .ok (.goto 23, 3) := by decide +kernel
theorem dX8_lotOf_73 : decode cX8_lotOf 73 = .ok (.iload_n 2, 1) := by decide +kernel
theorem dX8_lotOf_74 : decode cX8_lotOf 74 = .ok (.iconst 2, 1) := by decide +kernel
theorem dX8_lotOf_75 : decode cX8_lotOf 75 = .ok (.if_icmp .ne 12, 3) := by decide +kernel
theorem dX8_lotOf_78 : decode cX8_lotOf 78 = .ok (.aload_n 0, 1) := by decide +kernel
theorem dX8_lotOf_79 : decode cX8_lotOf 79 = .ok (.getfield 37, 3) := by decide +kernel
theorem dX8_lotOf_82 : decode cX8_lotOf 82 = .ok (.iload_n 1, 1) := by decide +kernel
theorem dX8_lotOf_83 : decode cX8_lotOf 83 = .ok (.iaload, 1) := by decide +kernel
theorem dX8_lotOf_84 : decode cX8_lotOf 84 = .ok (.goto 9, 3) := by decide +kernel
theorem dX8_lotOf_87 : decode cX8_lotOf 87 = .ok (.aload_n 0, 1) := by decide +kernel
theorem dX8_lotOf_88 : decode cX8_lotOf 88 = .ok (.getfield 40, 3) := by decide +kernel
theorem dX8_lotOf_91 : decode cX8_lotOf 91 = .ok (.iload_n 1, 1) := by decide +kernel
theorem dX8_lotOf_92 : decode cX8_lotOf 92 = .ok (.iaload, 1) := by decide +kernel
theorem dX8_lotOf_93 : decode cX8_lotOf 93 = .ok (.ireturn, 1) := by decide +kernel
theorem dX8_lotOf_94 : decode cX8_lotOf 94 = .ok (.aload_n 0, 1) := by decide +kernel
theorem dX8_lotOf_95 : decode cX8_lotOf 95 = .ok (.getfield 25, 3) := by decide +kernel
theorem dX8_lotOf_98 : decode cX8_lotOf 98 = .ok (.aload_n 0, 1) := by decide +kernel
theorem dX8_lotOf_99 : decode cX8_lotOf 99 = .ok (.getfield 31, 3) := by decide +kernel
theorem dX8_lotOf_102 : decode cX8_lotOf 102 = .ok (.iload_n 1, 1) := by decide +kernel
theorem dX8_lotOf_103 : decode cX8_lotOf 103 = .ok (.iaload, 1) := by decide +kernel
theorem dX8_lotOf_104 : decode cX8_lotOf 104 = .ok (.iaload, 1) := by decide +kernel
theorem dX8_lotOf_105 : decode cX8_lotOf 105 = .ok (.istore_n 3, 1) := by decide +kernel
theorem dX8_lotOf_106 : decode cX8_lotOf 106 = .ok (.aload_n 0, 1) := by decide +kernel
theorem dX8_lotOf_107 : decode cX8_lotOf 107 = .ok (.getfield 40, 3) := by decide +kernel
theorem dX8_lotOf_110 : decode cX8_lotOf 110 = .ok (.iload_n 1, 1) := by decide +kernel
theorem dX8_lotOf_111 : decode cX8_lotOf 111 = .ok (.iaload, 1) := by decide +kernel
theorem dX8_lotOf_112 : decode cX8_lotOf 112 = .ok (.iload_n 3, 1) := by decide +kernel
theorem dX8_lotOf_113 : decode cX8_lotOf 113 = .ok (.iadd, 1) := by decide +kernel
theorem dX8_lotOf_114 : decode cX8_lotOf 114 = .ok (.iconst 1, 1) := by decide +kernel
theorem dX8_lotOf_115 : decode cX8_lotOf 115 = .ok (.isub, 1) := by decide +kernel
theorem dX8_lotOf_116 : decode cX8_lotOf 116 = .ok (.iload_n 3, 1) := by decide +kernel
theorem dX8_lotOf_117 : decode cX8_lotOf 117 = .ok (.idiv, 1) := by decide +kernel
theorem dX8_lotOf_118 : decode cX8_lotOf 118 = .ok (.ireturn, 1) := by decide +kernel
theorem dX8_rowsOfLot_0 : decode cX8_rowsOfLot 0 = .ok (.aload_n 0, 1) := by decide +kernel
theorem dX8_rowsOfLot_1 : decode cX8_rowsOfLot 1 = .ok (.aload_n 0, 1) := by decide +kernel
theorem dX8_rowsOfLot_2 : decode cX8_rowsOfLot 2 = .ok (.getfield 22, 3) := by decide +kernel
theorem dX8_rowsOfLot_5 : decode cX8_rowsOfLot 5 = .ok (.aload_n 0, 1) := by decide +kernel
theorem dX8_rowsOfLot_6 : decode cX8_rowsOfLot 6 = .ok (.getfield 31, 3) := by decide +kernel
theorem dX8_rowsOfLot_9 : decode cX8_rowsOfLot 9 = .ok (.iload_n 1, 1) := by decide +kernel
theorem dX8_rowsOfLot_10 : decode cX8_rowsOfLot 10 = .ok (.iaload, 1) := by decide +kernel
theorem dX8_rowsOfLot_11 : decode cX8_rowsOfLot 11 = .ok (.iaload, 1) := by decide +kernel
theorem dX8_rowsOfLot_12 : decode cX8_rowsOfLot 12 = .ok (.invokevirtual 99, 3) := by decide +kernel
theorem dX8_rowsOfLot_15 : decode cX8_rowsOfLot 15 = .ok (.ireturn, 1) := by decide +kernel
theorem dX8_isRoom_0 : decode cX8_isRoom 0 = .ok (.iload_n 0, 1) := by decide +kernel
theorem dX8_isRoom_1 : decode cX8_isRoom 1 = .ok (.iconst 0, 1) := by decide +kernel
theorem dX8_isRoom_2 : decode cX8_isRoom 2 = .ok (.iconst 3, 1) := by decide +kernel
theorem dX8_isRoom_3 : decode cX8_isRoom 3 = .ok (.invokestatic 80, 3) := by decide +kernel
theorem dX8_isRoom_6 : decode cX8_isRoom 6 = .ok (.ireturn, 1) := by decide +kernel
theorem dX8_isHung_0 : decode cX8_isHung 0 = .ok (.aload_n 0, 1) := by decide +kernel
theorem dX8_isHung_1 : decode cX8_isHung 1 = .ok (.getfield 52, 3) := by decide +kernel
theorem dX8_isHung_4 : decode cX8_isHung 4 = .ok (.iload_n 1, 1) := by decide +kernel
theorem dX8_isHung_5 : decode cX8_isHung 5 = .ok (.iaload, 1) := by decide +kernel
theorem dX8_isHung_6 : decode cX8_isHung 6 = .ok (.iconst (-1), 1) := by decide +kernel
theorem dX8_isHung_7 : decode cX8_isHung 7 = .ok (.if_icmp .eq 7, 3) := by decide +kernel
theorem dX8_isHung_10 : decode cX8_isHung 10 = .ok (.iconst 1, 1) := by decide +kernel
theorem dX8_isHung_11 : decode cX8_isHung 11 = .ok (.goto 4, 3) := by decide +kernel
theorem dX8_isHung_14 : decode cX8_isHung 14 = .ok (.iconst 0, 1) := by decide +kernel
theorem dX8_isHung_15 : decode cX8_isHung 15 = .ok (.ireturn, 1) := by decide +kernel
theorem dX8_wall_0 : decode cX8_wall 0 = .ok (.iload_n 2, 1) := by decide +kernel
theorem dX8_wall_1 : decode cX8_wall 1 = .ok (.iconst 1, 1) := by decide +kernel
theorem dX8_wall_2 : decode cX8_wall 2 = .ok (.bipush 12, 2) := by decide +kernel
theorem dX8_wall_4 : decode cX8_wall 4 = .ok (.invokestatic 80, 3) := by decide +kernel
theorem dX8_wall_7 : decode cX8_wall 7 = .ok (.ifCond .eq 17, 3) := by decide +kernel
theorem dX8_wall_10 : decode cX8_wall 10 = .ok (.iload_n 3, 1) := by decide +kernel
theorem dX8_wall_11 : decode cX8_wall 11 = .ok (.iconst 1, 1) := by decide +kernel
theorem dX8_wall_12 : decode cX8_wall 12 = .ok (.bipush 60, 2) := by decide +kernel
theorem dX8_wall_14 : decode cX8_wall 14 = .ok (.invokestatic 80, 3) := by decide +kernel
theorem dX8_wall_17 : decode cX8_wall 17 = .ok (.ifCond .eq 7, 3) := by decide +kernel
theorem dX8_wall_20 : decode cX8_wall 20 = .ok (.iconst 1, 1) := by decide +kernel
theorem dX8_wall_21 : decode cX8_wall 21 = .ok (.goto 4, 3) := by decide +kernel
theorem dX8_wall_24 : decode cX8_wall 24 = .ok (.iconst 0, 1) := by decide +kernel
theorem dX8_wall_25 : decode cX8_wall 25 = .ok (.istore 4, 2) := by decide +kernel
theorem dX8_wall_27 : decode cX8_wall 27 = .ok (.aload_n 0, 1) := by decide +kernel
theorem dX8_wall_28 : decode cX8_wall 28 = .ok (.iload_n 1, 1) := by decide +kernel
theorem dX8_wall_29 : decode cX8_wall 29 = .ok (.invokestatic 118, 3) := by decide +kernel
theorem dX8_wall_32 : decode cX8_wall 32 = .ok (.ifCond .ne 7, 3) := by decide +kernel
theorem dX8_wall_35 : decode cX8_wall 35 = .ok (.iconst 1, 1) := by decide +kernel
theorem dX8_wall_36 : decode cX8_wall 36 = .ok (.goto 35, 3) := by decide +kernel
theorem dX8_wall_39 : decode cX8_wall 39 = .ok (.iload 4, 2) := by decide +kernel
theorem dX8_wall_41 : decode cX8_wall 41 = .ok (.ifCond .ne 7, 3) := by decide +kernel
theorem dX8_wall_44 : decode cX8_wall 44 = .ok (.iconst 2, 1) := by decide +kernel
theorem dX8_wall_45 : decode cX8_wall 45 = .ok (.goto 26, 3) := by decide +kernel
theorem dX8_wall_48 : decode cX8_wall 48 = .ok (.aload_n 0, 1) := by decide +kernel
theorem dX8_wall_49 : decode cX8_wall 49 = .ok (.iload_n 1, 1) := by decide +kernel
theorem dX8_wall_50 : decode cX8_wall 50 = .ok (.invokevirtual 121, 3) := by decide +kernel
theorem dX8_wall_53 : decode cX8_wall 53 = .ok (.ifCond .ne 13, 3) := by decide +kernel
theorem dX8_wall_56 : decode cX8_wall 56 = .ok (.aload_n 0, 1) := by decide +kernel
theorem dX8_wall_57 : decode cX8_wall 57 = .ok (.getfield 43, 3) := by decide +kernel
theorem dX8_wall_60 : decode cX8_wall 60 = .ok (.iload_n 1, 1) := by decide +kernel
theorem dX8_wall_61 : decode cX8_wall 61 = .ok (.iaload, 1) := by decide +kernel
theorem dX8_wall_62 : decode cX8_wall 62 = .ok (.iconst 4, 1) := by decide +kernel
theorem dX8_wall_63 : decode cX8_wall 63 = .ok (.if_icmp .ne 7, 3) := by decide +kernel
theorem dX8_wall_66 : decode cX8_wall 66 = .ok (.iconst 3, 1) := by decide +kernel
theorem dX8_wall_67 : decode cX8_wall 67 = .ok (.goto 4, 3) := by decide +kernel
theorem dX8_wall_70 : decode cX8_wall 70 = .ok (.iconst 0, 1) := by decide +kernel
theorem dX8_wall_71 : decode cX8_wall 71 = .ok (.invokevirtual 84, 3) := by decide +kernel
theorem dX8_wall_74 : decode cX8_wall 74 = .ok (.ifCond .eq 5, 3) := by decide +kernel
theorem dX8_wall_77 : decode cX8_wall 77 = .ok (.iconst 0, 1) := by decide +kernel
theorem dX8_wall_78 : decode cX8_wall 78 = .ok (.ireturn, 1) := by decide +kernel
theorem dX8_wall_79 : decode cX8_wall 79 = .ok (.iconst 4, 1) := by decide +kernel
theorem dX8_wall_80 : decode cX8_wall 80 = .ok (.iload_n 1, 1) := by decide +kernel
theorem dX8_wall_81 : decode cX8_wall 81 = .ok (.imul, 1) := by decide +kernel
theorem dX8_wall_82 : decode cX8_wall 82 = .ok (.aload_n 0, 1) := by decide +kernel
theorem dX8_wall_83 : decode cX8_wall 83 = .ok (.getfield 43, 3) := by decide +kernel
theorem dX8_wall_86 : decode cX8_wall 86 = .ok (.iload_n 1, 1) := by decide +kernel
theorem dX8_wall_87 : decode cX8_wall 87 = .ok (.iaload, 1) := by decide +kernel
theorem dX8_wall_88 : decode cX8_wall 88 = .ok (.iadd, 1) := by decide +kernel
theorem dX8_wall_89 : decode cX8_wall 89 = .ok (.istore 5, 2) := by decide +kernel
theorem dX8_wall_91 : decode cX8_wall 91 = .ok (.aload_n 0, 1) := by decide +kernel
theorem dX8_wall_92 : decode cX8_wall 92 = .ok (.getfield 46, 3) := by decide +kernel
theorem dX8_wall_95 : decode cX8_wall 95 = .ok (.iload 5, 2) := by decide +kernel
theorem dX8_wall_97 : decode cX8_wall 97 = .ok (.iload_n 2, 1) := by decide +kernel
theorem dX8_wall_98 : decode cX8_wall 98 = .ok (.iastore, 1) := by decide +kernel
theorem dX8_wall_99 : decode cX8_wall 99 = .ok (.aload_n 0, 1) := by decide +kernel
theorem dX8_wall_100 : decode cX8_wall 100 = .ok (.getfield 49, 3) := by decide +kernel
theorem dX8_wall_103 : decode cX8_wall 103 = .ok (.iload 5, 2) := by decide +kernel
theorem dX8_wall_105 : decode cX8_wall 105 = .ok (.iload_n 3, 1) := by decide +kernel
theorem dX8_wall_106 : decode cX8_wall 106 = .ok (.iastore, 1) := by decide +kernel
theorem dX8_wall_107 : decode cX8_wall 107 = .ok (.aload_n 0, 1) := by decide +kernel
theorem dX8_wall_108 : decode cX8_wall 108 = .ok (.getfield 43, 3) := by decide +kernel
theorem dX8_wall_111 : decode cX8_wall 111 = .ok (.iload_n 1, 1) := by decide +kernel
theorem dX8_wall_112 : decode cX8_wall 112 = .ok (.dup2, 1) := by decide +kernel
theorem dX8_wall_113 : decode cX8_wall 113 = .ok (.iaload, 1) := by decide +kernel
theorem dX8_wall_114 : decode cX8_wall 114 = .ok (.iconst 1, 1) := by decide +kernel
theorem dX8_wall_115 : decode cX8_wall 115 = .ok (.iadd, 1) := by decide +kernel
theorem dX8_wall_116 : decode cX8_wall 116 = .ok (.iastore, 1) := by decide +kernel
theorem dX8_wall_117 : decode cX8_wall 117 = .ok (.aload_n 0, 1) := by decide +kernel
theorem dX8_wall_118 : decode cX8_wall 118 = .ok (.getfield 43, 3) := by decide +kernel
theorem dX8_wall_121 : decode cX8_wall 121 = .ok (.iload_n 1, 1) := by decide +kernel
theorem dX8_wall_122 : decode cX8_wall 122 = .ok (.iaload, 1) := by decide +kernel
theorem dX8_wall_123 : decode cX8_wall 123 = .ok (.iconst 1, 1) := by decide +kernel
theorem dX8_wall_124 : decode cX8_wall 124 = .ok (.isub, 1) := by decide +kernel
theorem dX8_wall_125 : decode cX8_wall 125 = .ok (.ireturn, 1) := by decide +kernel
theorem dX8_give_0 : decode cX8_give 0 = .ok (.aload_n 0, 1) := by decide +kernel
theorem dX8_give_1 : decode cX8_give 1 = .ok (.iload_n 1, 1) := by decide +kernel
theorem dX8_give_2 : decode cX8_give 2 = .ok (.invokevirtual 124, 3) := by decide +kernel
theorem dX8_give_5 : decode cX8_give 5 = .ok (.istore 5, 2) := by decide +kernel
theorem dX8_give_7 : decode cX8_give 7 = .ok (.iconst 0, 1) := by decide +kernel
theorem dX8_give_8 : decode cX8_give 8 = .ok (.istore 6, 2) := by decide +kernel
theorem dX8_give_10 : decode cX8_give 10 = .ok (.iload 6, 2) := by decide +kernel
theorem dX8_give_12 : decode cX8_give 12 = .ok (.iload_n 3, 1) := by decide +kernel
theorem dX8_give_13 : decode cX8_give 13 = .ok (.if_icmp .ge 120, 3) := by decide +kernel
theorem dX8_give_16 : decode cX8_give 16 = .ok (.iload 6, 2) := by decide +kernel
theorem dX8_give_18 : decode cX8_give 18 = .ok (.aload_n 0, 1) := by decide +kernel
theorem dX8_give_19 : decode cX8_give 19 = .ok (.getfield 127, 3) := by decide +kernel
theorem dX8_give_22 : decode cX8_give 22 = .ok (.if_icmp .ge 13, 3) := by decide +kernel
theorem dX8_give_25 : decode cX8_give 25 = .ok (.aload_n 0, 1) := by decide +kernel
theorem dX8_give_26 : decode cX8_give 26 = .ok (.getfield 64, 3) := by decide +kernel
theorem dX8_give_29 : decode cX8_give 29 = .ok (.iload 6, 2) := by decide +kernel
theorem dX8_give_31 : decode cX8_give 31 = .ok (.iaload, 1) := by decide +kernel
theorem dX8_give_32 : decode cX8_give 32 = .ok (.goto 4, 3) := by decide +kernel
theorem dX8_give_35 : decode cX8_give 35 = .ok (.iconst 0, 1) := by decide +kernel
theorem dX8_give_36 : decode cX8_give 36 = .ok (.istore 7, 2) := by decide +kernel
theorem dX8_give_38 : decode cX8_give 38 = .ok (.iload 7, 2) := by decide +kernel
theorem dX8_give_40 : decode cX8_give 40 = .ok (.iload_n 2, 1) := by decide +kernel
theorem dX8_give_41 : decode cX8_give 41 = .ok (.iload 7, 2) := by decide +kernel
theorem dX8_give_43 : decode cX8_give 43 = .ok (.isub, 1) := by decide +kernel
theorem dX8_give_44 : decode cX8_give 44 = .ok (.iload 5, 2) := by decide +kernel
theorem dX8_give_46 : decode cX8_give 46 = .ok (.invokestatic 95, 3) := by decide +kernel
theorem dX8_give_49 : decode cX8_give 49 = .ok (.iadd, 1) := by decide +kernel
theorem dX8_give_50 : decode cX8_give 50 = .ok (.istore 8, 2) := by decide +kernel
theorem dX8_give_52 : decode cX8_give 52 = .ok (.iload 8, 2) := by decide +kernel
theorem dX8_give_54 : decode cX8_give 54 = .ok (.iload 4, 2) := by decide +kernel
theorem dX8_give_56 : decode cX8_give 56 = .ok (.iadd, 1) := by decide +kernel
theorem dX8_give_57 : decode cX8_give 57 = .ok (.aload_n 0, 1) := by decide +kernel
theorem dX8_give_58 : decode cX8_give 58 = .ok (.getfield 40, 3) := by decide +kernel
theorem dX8_give_61 : decode cX8_give 61 = .ok (.iload_n 1, 1) := by decide +kernel
theorem dX8_give_62 : decode cX8_give 62 = .ok (.iaload, 1) := by decide +kernel
theorem dX8_give_63 : decode cX8_give 63 = .ok (.if_icmp .gt 53, 3) := by decide +kernel
theorem dX8_give_66 : decode cX8_give 66 = .ok (.aload_n 0, 1) := by decide +kernel
theorem dX8_give_67 : decode cX8_give 67 = .ok (.iload 6, 2) := by decide +kernel
theorem dX8_give_69 : decode cX8_give 69 = .ok (.aload_n 0, 1) := by decide +kernel
theorem dX8_give_70 : decode cX8_give 70 = .ok (.getfield 127, 3) := by decide +kernel
theorem dX8_give_73 : decode cX8_give 73 = .ok (.if_icmp .ge 10, 3) := by decide +kernel
theorem dX8_give_76 : decode cX8_give 76 = .ok (.aload_n 0, 1) := by decide +kernel
theorem dX8_give_77 : decode cX8_give 77 = .ok (.getfield 127, 3) := by decide +kernel
theorem dX8_give_80 : decode cX8_give 80 = .ok (.goto 7, 3) := by decide +kernel
theorem dX8_give_83 : decode cX8_give 83 = .ok (.iload 6, 2) := by decide +kernel
theorem dX8_give_85 : decode cX8_give 85 = .ok (.iconst 1, 1) := by decide +kernel
theorem dX8_give_86 : decode cX8_give 86 = .ok (.iadd, 1) := by decide +kernel
theorem dX8_give_87 : decode cX8_give 87 = .ok (.putfield 127, 3) := by decide +kernel
theorem dX8_give_90 : decode cX8_give 90 = .ok (.aload_n 0, 1) := by decide +kernel
theorem dX8_give_91 : decode cX8_give 91 = .ok (.getfield 64, 3) := by decide +kernel
theorem dX8_give_94 : decode cX8_give 94 = .ok (.iload 6, 2) := by decide +kernel
theorem dX8_give_96 : decode cX8_give 96 = .ok (.iload 8, 2) := by decide +kernel
theorem dX8_give_98 : decode cX8_give 98 = .ok (.iload 4, 2) := by decide +kernel
theorem dX8_give_100 : decode cX8_give 100 = .ok (.iadd, 1) := by decide +kernel
theorem dX8_give_101 : decode cX8_give 101 = .ok (.iastore, 1) := by decide +kernel
theorem dX8_give_102 : decode cX8_give 102 = .ok (.aload_n 0, 1) := by decide +kernel
theorem dX8_give_103 : decode cX8_give 103 = .ok (.iload 6, 2) := by decide +kernel
theorem dX8_give_105 : decode cX8_give 105 = .ok (.putfield 130, 3) := by decide +kernel
theorem dX8_give_108 : decode cX8_give 108 = .ok (.aload_n 0, 1) := by decide +kernel
theorem dX8_give_109 : decode cX8_give 109 = .ok (.iload 8, 2) := by decide +kernel
theorem dX8_give_111 : decode cX8_give 111 = .ok (.putfield 133, 3) := by decide +kernel
theorem dX8_give_114 : decode cX8_give 114 = .ok (.iconst 1, 1) := by decide +kernel
theorem dX8_give_115 : decode cX8_give 115 = .ok (.ireturn, 1) := by decide +kernel
theorem dX8_give_116 : decode cX8_give 116 = .ok (.iload 6, 2) := by decide +kernel
theorem dX8_give_118 : decode cX8_give 118 = .ok (.aload_n 0, 1) := by decide +kernel
theorem dX8_give_119 : decode cX8_give 119 = .ok (.getfield 127, 3) := by decide +kernel
theorem dX8_give_122 : decode cX8_give 122 = .ok (.if_icmp .lt 5, 3) := by decide +kernel
theorem dX8_give_125 : decode cX8_give 125 = .ok (.iconst 0, 1) := by decide +kernel
theorem dX8_give_126 : decode cX8_give 126 = .ok (.ireturn, 1) := by decide +kernel
theorem dX8_give_127 : decode cX8_give 127 = .ok (.iinc 6 1, 3) := by decide +kernel
theorem dX8_give_130 : decode cX8_give 130 = .ok (.goto (-120), 3) := by decide +kernel
theorem dX8_give_133 : decode cX8_give 133 = .ok (.iconst 0, 1) := by decide +kernel
theorem dX8_give_134 : decode cX8_give 134 = .ok (.ireturn, 1) := by decide +kernel
theorem dX8_cutAll_0 : decode cX8_cutAll 0 = .ok (.aload_n 0, 1) := by decide +kernel
theorem dX8_cutAll_1 : decode cX8_cutAll 1 = .ok (.iconst 0, 1) := by decide +kernel
theorem dX8_cutAll_2 : decode cX8_cutAll 2 = .ok (.putfield 127, 3) := by decide +kernel
theorem dX8_cutAll_5 : decode cX8_cutAll 5 = .ok (.iconst 0, 1) := by decide +kernel
theorem dX8_cutAll_6 : decode cX8_cutAll 6 = .ok (.istore 5, 2) := by decide +kernel
theorem dX8_cutAll_8 : decode cX8_cutAll 8 = .ok (.iload 5, 2) := by decide +kernel
theorem dX8_cutAll_10 : decode cX8_cutAll 10 = .ok (.aload_n 0, 1) := by decide +kernel
theorem dX8_cutAll_11 : decode cX8_cutAll 11 = .ok (.getfield 43, 3) := by decide +kernel
theorem dX8_cutAll_14 : decode cX8_cutAll 14 = .ok (.iload_n 1, 1) := by decide +kernel
theorem dX8_cutAll_15 : decode cX8_cutAll 15 = .ok (.iaload, 1) := by decide +kernel
theorem dX8_cutAll_16 : decode cX8_cutAll 16 = .ok (.if_icmp .ge 101, 3) := by decide +kernel
theorem dX8_cutAll_19 : decode cX8_cutAll 19 = .ok (.iconst 4, 1) := by decide +kernel
theorem dX8_cutAll_20 : decode cX8_cutAll 20 = .ok (.iload_n 1, 1) := by decide +kernel
theorem dX8_cutAll_21 : decode cX8_cutAll 21 = .ok (.imul, 1) := by decide +kernel
theorem dX8_cutAll_22 : decode cX8_cutAll 22 = .ok (.iload 5, 2) := by decide +kernel
theorem dX8_cutAll_24 : decode cX8_cutAll 24 = .ok (.iadd, 1) := by decide +kernel
theorem dX8_cutAll_25 : decode cX8_cutAll 25 = .ok (.istore 6, 2) := by decide +kernel
theorem dX8_cutAll_27 : decode cX8_cutAll 27 = .ok (.iconst 0, 1) := by decide +kernel
theorem dX8_cutAll_28 : decode cX8_cutAll 28 = .ok (.istore 7, 2) := by decide +kernel
theorem dX8_cutAll_30 : decode cX8_cutAll 30 = .ok (.iload 7, 2) := by decide +kernel
theorem dX8_cutAll_32 : decode cX8_cutAll 32 = .ok (.aload_n 0, 1) := by decide +kernel
theorem dX8_cutAll_33 : decode cX8_cutAll 33 = .ok (.getfield 46, 3) := by decide +kernel
theorem dX8_cutAll_36 : decode cX8_cutAll 36 = .ok (.iload 6, 2) := by decide +kernel
theorem dX8_cutAll_38 : decode cX8_cutAll 38 = .ok (.iaload, 1) := by decide +kernel
theorem dX8_cutAll_39 : decode cX8_cutAll 39 = .ok (.if_icmp .ge 72, 3) := by decide +kernel
theorem dX8_cutAll_42 : decode cX8_cutAll 42 = .ok (.aload_n 0, 1) := by decide +kernel
theorem dX8_cutAll_43 : decode cX8_cutAll 43 = .ok (.iload_n 2, 1) := by decide +kernel
theorem dX8_cutAll_44 : decode cX8_cutAll 44 = .ok (.iload_n 3, 1) := by decide +kernel
theorem dX8_cutAll_45 : decode cX8_cutAll 45 = .ok (.aload_n 0, 1) := by decide +kernel
theorem dX8_cutAll_46 : decode cX8_cutAll 46 = .ok (.getfield 37, 3) := by decide +kernel
theorem dX8_cutAll_49 : decode cX8_cutAll 49 = .ok (.iload_n 2, 1) := by decide +kernel
theorem dX8_cutAll_50 : decode cX8_cutAll 50 = .ok (.iaload, 1) := by decide +kernel
theorem dX8_cutAll_51 : decode cX8_cutAll 51 = .ok (.aload_n 0, 1) := by decide +kernel
theorem dX8_cutAll_52 : decode cX8_cutAll 52 = .ok (.getfield 49, 3) := by decide +kernel
theorem dX8_cutAll_55 : decode cX8_cutAll 55 = .ok (.iload 6, 2) := by decide +kernel
theorem dX8_cutAll_57 : decode cX8_cutAll 57 = .ok (.iaload, 1) := by decide +kernel
theorem dX8_cutAll_58 : decode cX8_cutAll 58 = .ok (.invokevirtual 136, 3) := by decide +kernel
theorem dX8_cutAll_61 : decode cX8_cutAll 61 = .ok (.ifCond .ne 5, 3) := by decide +kernel
theorem dX8_cutAll_64 : decode cX8_cutAll 64 = .ok (.iconst (-1), 1) := by decide +kernel
theorem dX8_cutAll_65 : decode cX8_cutAll 65 = .ok (.ireturn, 1) := by decide +kernel
theorem dX8_cutAll_66 : decode cX8_cutAll 66 = .ok (.iload 4, 2) := by decide +kernel
theorem dX8_cutAll_68 : decode cX8_cutAll 68 = .ok (.ifCond .eq 37, 3) := by decide +kernel
theorem dX8_cutAll_71 : decode cX8_cutAll 71 = .ok (.aload_n 0, 1) := by decide +kernel
theorem dX8_cutAll_72 : decode cX8_cutAll 72 = .ok (.getfield 67, 3) := by decide +kernel
theorem dX8_cutAll_75 : decode cX8_cutAll 75 = .ok (.bipush 24, 2) := by decide +kernel
theorem dX8_cutAll_77 : decode cX8_cutAll 77 = .ok (.iload 6, 2) := by decide +kernel
theorem dX8_cutAll_79 : decode cX8_cutAll 79 = .ok (.imul, 1) := by decide +kernel
theorem dX8_cutAll_80 : decode cX8_cutAll 80 = .ok (.iload 7, 2) := by decide +kernel
theorem dX8_cutAll_82 : decode cX8_cutAll 82 = .ok (.iadd, 1) := by decide +kernel
theorem dX8_cutAll_83 : decode cX8_cutAll 83 = .ok (.aload_n 0, 1) := by decide +kernel
theorem dX8_cutAll_84 : decode cX8_cutAll 84 = .ok (.getfield 130, 3) := by decide +kernel
theorem dX8_cutAll_87 : decode cX8_cutAll 87 = .ok (.iastore, 1) := by decide +kernel
theorem dX8_cutAll_88 : decode cX8_cutAll 88 = .ok (.aload_n 0, 1) := by decide +kernel
theorem dX8_cutAll_89 : decode cX8_cutAll 89 = .ok (.getfield 70, 3) := by decide +kernel
theorem dX8_cutAll_92 : decode cX8_cutAll 92 = .ok (.bipush 24, 2) := by decide +kernel
theorem dX8_cutAll_94 : decode cX8_cutAll 94 = .ok (.iload 6, 2) := by decide +kernel
theorem dX8_cutAll_96 : decode cX8_cutAll 96 = .ok (.imul, 1) := by decide +kernel
theorem dX8_cutAll_97 : decode cX8_cutAll 97 = .ok (.iload 7, 2) := by decide +kernel
theorem dX8_cutAll_99 : decode cX8_cutAll 99 = .ok (.iadd, 1) := by decide +kernel
theorem dX8_cutAll_100 : decode cX8_cutAll 100 = .ok (.aload_n 0, 1) := by decide +kernel
theorem dX8_cutAll_101 : decode cX8_cutAll 101 = .ok (.getfield 133, 3) := by decide +kernel
theorem dX8_cutAll_104 : decode cX8_cutAll 104 = .ok (.iastore, 1) := by decide +kernel
theorem dX8_cutAll_105 : decode cX8_cutAll 105 = .ok (.iinc 7 1, 3) := by decide +kernel
theorem dX8_cutAll_108 : decode cX8_cutAll 108 = .ok (.goto (-78), 3) := by decide +kernel
theorem dX8_cutAll_111 : decode cX8_cutAll 111 = .ok (.iinc 5 1, 3) := by decide +kernel
theorem dX8_cutAll_114 : decode cX8_cutAll 114 = .ok (.goto (-106), 3) := by decide +kernel
theorem dX8_cutAll_117 : decode cX8_cutAll 117 = .ok (.aload_n 0, 1) := by decide +kernel
theorem dX8_cutAll_118 : decode cX8_cutAll 118 = .ok (.getfield 127, 3) := by decide +kernel
theorem dX8_cutAll_121 : decode cX8_cutAll 121 = .ok (.ireturn, 1) := by decide +kernel
theorem dX8_hang_0 : decode cX8_hang 0 = .ok (.iload_n 1, 1) := by decide +kernel
theorem dX8_hang_1 : decode cX8_hang 1 = .ok (.invokestatic 118, 3) := by decide +kernel
theorem dX8_hang_4 : decode cX8_hang 4 = .ok (.ifCond .eq 21, 3) := by decide +kernel
theorem dX8_hang_7 : decode cX8_hang 7 = .ok (.iload_n 2, 1) := by decide +kernel
theorem dX8_hang_8 : decode cX8_hang 8 = .ok (.iconst 0, 1) := by decide +kernel
theorem dX8_hang_9 : decode cX8_hang 9 = .ok (.aload_n 0, 1) := by decide +kernel
theorem dX8_hang_10 : decode cX8_hang 10 = .ok (.getfield 115, 3) := by decide +kernel
theorem dX8_hang_13 : decode cX8_hang 13 = .ok (.iconst 1, 1) := by decide +kernel
theorem dX8_hang_14 : decode cX8_hang 14 = .ok (.isub, 1) := by decide +kernel
theorem dX8_hang_15 : decode cX8_hang 15 = .ok (.invokestatic 80, 3) := by decide +kernel
theorem dX8_hang_18 : decode cX8_hang 18 = .ok (.ifCond .eq 7, 3) := by decide +kernel
theorem dX8_hang_21 : decode cX8_hang 21 = .ok (.iconst 1, 1) := by decide +kernel
theorem dX8_hang_22 : decode cX8_hang 22 = .ok (.goto 4, 3) := by decide +kernel
theorem dX8_hang_25 : decode cX8_hang 25 = .ok (.iconst 0, 1) := by decide +kernel
theorem dX8_hang_26 : decode cX8_hang 26 = .ok (.istore_n 3, 1) := by decide +kernel
theorem dX8_hang_27 : decode cX8_hang 27 = .ok (.iload_n 3, 1) := by decide +kernel
theorem dX8_hang_28 : decode cX8_hang 28 = .ok (.ifCond .eq 20, 3) := by decide +kernel
theorem dX8_hang_31 : decode cX8_hang 31 = .ok (.aload_n 0, 1) := by decide +kernel
theorem dX8_hang_32 : decode cX8_hang 32 = .ok (.iload_n 1, 1) := by decide +kernel
theorem dX8_hang_33 : decode cX8_hang 33 = .ok (.invokevirtual 121, 3) := by decide +kernel
theorem dX8_hang_36 : decode cX8_hang 36 = .ok (.ifCond .ne 12, 3) := by decide +kernel
theorem dX8_hang_39 : decode cX8_hang 39 = .ok (.aload_n 0, 1) := by decide +kernel
theorem dX8_hang_40 : decode cX8_hang 40 = .ok (.getfield 43, 3) := by decide +kernel
theorem dX8_hang_43 : decode cX8_hang 43 = .ok (.iload_n 1, 1) := by decide +kernel
theorem dX8_hang_44 : decode cX8_hang 44 = .ok (.iaload, 1) := by decide +kernel
theorem dX8_hang_45 : decode cX8_hang 45 = .ok (.ifCond .ne 19, 3) := by decide +kernel
theorem dX8_hang_48 : decode cX8_hang 48 = .ok (.aload_n 0, 1) := by decide +kernel
theorem dX8_hang_49 : decode cX8_hang 49 = .ok (.iload_n 3, 1) := by decide +kernel
theorem dX8_hang_50 : decode cX8_hang 50 = .ok (.ifCond .ne 7, 3) := by decide +kernel
theorem dX8_hang_53 : decode cX8_hang 53 = .ok (.iconst 1, 1) := by decide +kernel
theorem dX8_hang_54 : decode cX8_hang 54 = .ok (.goto 4, 3) := by decide +kernel
theorem dX8_hang_57 : decode cX8_hang 57 = .ok (.iconst 2, 1) := by decide +kernel
theorem dX8_hang_58 : decode cX8_hang 58 = .ok (.invokevirtual 84, 3) := by decide +kernel
theorem dX8_hang_61 : decode cX8_hang 61 = .ok (.pop, 1) := by decide +kernel
theorem dX8_hang_62 : decode cX8_hang 62 = .ok (.iconst 0, 1) := by decide +kernel
theorem dX8_hang_63 : decode cX8_hang 63 = .ok (.ireturn, 1) := by decide +kernel
theorem dX8_hang_64 : decode cX8_hang 64 = .ok (.iconst (-1), 1) := by decide +kernel
theorem dX8_hang_65 : decode cX8_hang 65 = .ok (.istore 4, 2) := by decide +kernel
theorem dX8_hang_67 : decode cX8_hang 67 = .ok (.bipush 21, 2) := by decide +kernel
theorem dX8_hang_69 : decode cX8_hang 69 = .ok (.istore 5, 2) := by decide +kernel
theorem dX8_hang_71 : decode cX8_hang 71 = .ok (.iconst 0, 1) := by decide +kernel
theorem dX8_hang_72 : decode cX8_hang 72 = .ok (.istore 6, 2) := by decide +kernel
theorem dX8_hang_74 : decode cX8_hang 74 = .ok (.iload 6, 2) := by decide +kernel
theorem dX8_hang_76 : decode cX8_hang 76 = .ok (.aload_n 0, 1) := by decide +kernel
theorem dX8_hang_77 : decode cX8_hang 77 = .ok (.iload_n 2, 1) := by decide +kernel
theorem dX8_hang_78 : decode cX8_hang 78 = .ok (.invokevirtual 124, 3) := by decide +kernel
theorem dX8_hang_81 : decode cX8_hang 81 = .ok (.if_icmp .ge 41, 3) := by decide +kernel
theorem dX8_hang_84 : decode cX8_hang 84 = .ok (.aload_n 0, 1) := by decide +kernel
theorem dX8_hang_85 : decode cX8_hang 85 = .ok (.iload_n 1, 1) := by decide +kernel
theorem dX8_hang_86 : decode cX8_hang 86 = .ok (.iload_n 2, 1) := by decide +kernel
theorem dX8_hang_87 : decode cX8_hang 87 = .ok (.iload 6, 2) := by decide +kernel
theorem dX8_hang_89 : decode cX8_hang 89 = .ok (.iconst 0, 1) := by decide +kernel
theorem dX8_hang_90 : decode cX8_hang 90 = .ok (.invokevirtual 140, 3) := by decide +kernel
theorem dX8_hang_93 : decode cX8_hang 93 = .ok (.istore 7, 2) := by decide +kernel
theorem dX8_hang_95 : decode cX8_hang 95 = .ok (.iload 7, 2) := by decide +kernel
theorem dX8_hang_97 : decode cX8_hang 97 = .ok (.iconst (-1), 1) := by decide +kernel
theorem dX8_hang_98 : decode cX8_hang 98 = .ok (.if_icmp .eq 18, 3) := by decide +kernel
theorem dX8_hang_101 : decode cX8_hang 101 = .ok (.iload 7, 2) := by decide +kernel
theorem dX8_hang_103 : decode cX8_hang 103 = .ok (.iload 5, 2) := by decide +kernel
theorem dX8_hang_105 : decode cX8_hang 105 = .ok (.if_icmp .ge 11, 3) := by decide +kernel
theorem dX8_hang_108 : decode cX8_hang 108 = .ok (.iload 6, 2) := by decide +kernel
theorem dX8_hang_110 : decode cX8_hang 110 = .ok (.istore 4, 2) := by decide +kernel
theorem dX8_hang_112 : decode cX8_hang 112 = .ok (.iload 7, 2) := by decide +kernel
theorem dX8_hang_114 : decode cX8_hang 114 = .ok (.istore 5, 2) := by decide +kernel
theorem dX8_hang_116 : decode cX8_hang 116 = .ok (.iinc 6 1, 3) := by decide +kernel
theorem dX8_hang_119 : decode cX8_hang 119 = .ok (.goto (-45), 3) := by decide +kernel
theorem dX8_hang_122 : decode cX8_hang 122 = .ok (.aload_n 0, 1) := by decide +kernel
theorem dX8_hang_123 : decode cX8_hang 123 = .ok (.iload 4, 2) := by decide +kernel
theorem dX8_hang_125 : decode cX8_hang 125 = .ok (.iconst (-1), 1) := by decide +kernel
theorem dX8_hang_126 : decode cX8_hang 126 = .ok (.if_icmp .ne 7, 3) := by decide +kernel
theorem dX8_hang_129 : decode cX8_hang 129 = .ok (.iconst 2, 1) := by decide +kernel
theorem dX8_hang_130 : decode cX8_hang 130 = .ok (.goto 4, 3) := by decide +kernel
theorem dX8_hang_133 : decode cX8_hang 133 = .ok (.iconst 0, 1) := by decide +kernel
theorem dX8_hang_134 : decode cX8_hang 134 = .ok (.invokevirtual 84, 3) := by decide +kernel
theorem dX8_hang_137 : decode cX8_hang 137 = .ok (.ifCond .eq 5, 3) := by decide +kernel
theorem dX8_hang_140 : decode cX8_hang 140 = .ok (.iconst 0, 1) := by decide +kernel
theorem dX8_hang_141 : decode cX8_hang 141 = .ok (.ireturn, 1) := by decide +kernel
theorem dX8_hang_142 : decode cX8_hang 142 = .ok (.aload_n 0, 1) := by decide +kernel
theorem dX8_hang_143 : decode cX8_hang 143 = .ok (.iload_n 1, 1) := by decide +kernel
theorem dX8_hang_144 : decode cX8_hang 144 = .ok (.iload_n 2, 1) := by decide +kernel
theorem dX8_hang_145 : decode cX8_hang 145 = .ok (.iload 4, 2) := by decide +kernel
theorem dX8_hang_147 : decode cX8_hang 147 = .ok (.iconst 1, 1) := by decide +kernel
theorem dX8_hang_148 : decode cX8_hang 148 = .ok (.invokevirtual 140, 3) := by decide +kernel
theorem dX8_hang_151 : decode cX8_hang 151 = .ok (.pop, 1) := by decide +kernel
theorem dX8_hang_152 : decode cX8_hang 152 = .ok (.aload_n 0, 1) := by decide +kernel
theorem dX8_hang_153 : decode cX8_hang 153 = .ok (.getfield 52, 3) := by decide +kernel
theorem dX8_hang_156 : decode cX8_hang 156 = .ok (.iload_n 1, 1) := by decide +kernel
theorem dX8_hang_157 : decode cX8_hang 157 = .ok (.iload_n 2, 1) := by decide +kernel
theorem dX8_hang_158 : decode cX8_hang 158 = .ok (.iastore, 1) := by decide +kernel
theorem dX8_hang_159 : decode cX8_hang 159 = .ok (.aload_n 0, 1) := by decide +kernel
theorem dX8_hang_160 : decode cX8_hang 160 = .ok (.getfield 55, 3) := by decide +kernel
theorem dX8_hang_163 : decode cX8_hang 163 = .ok (.iload_n 1, 1) := by decide +kernel
theorem dX8_hang_164 : decode cX8_hang 164 = .ok (.iload 4, 2) := by decide +kernel
theorem dX8_hang_166 : decode cX8_hang 166 = .ok (.iastore, 1) := by decide +kernel
theorem dX8_hang_167 : decode cX8_hang 167 = .ok (.aload_n 0, 1) := by decide +kernel
theorem dX8_hang_168 : decode cX8_hang 168 = .ok (.iload_n 1, 1) := by decide +kernel
theorem dX8_hang_169 : decode cX8_hang 169 = .ok (.invokevirtual 144, 3) := by decide +kernel
theorem dX8_hang_172 : decode cX8_hang 172 = .ok (.aload_n 0, 1) := by decide +kernel
theorem dX8_hang_173 : decode cX8_hang 173 = .ok (.getfield 37, 3) := by decide +kernel
theorem dX8_hang_176 : decode cX8_hang 176 = .ok (.iload_n 2, 1) := by decide +kernel
theorem dX8_hang_177 : decode cX8_hang 177 = .ok (.dup2, 1) := by decide +kernel
theorem dX8_hang_178 : decode cX8_hang 178 = .ok (.iaload, 1) := by decide +kernel
theorem dX8_hang_179 : decode cX8_hang 179 = .ok (.aload_n 0, 1) := by decide +kernel
theorem dX8_hang_180 : decode cX8_hang 180 = .ok (.getfield 58, 3) := by decide +kernel
theorem dX8_hang_183 : decode cX8_hang 183 = .ok (.iload_n 1, 1) := by decide +kernel
theorem dX8_hang_184 : decode cX8_hang 184 = .ok (.iaload, 1) := by decide +kernel
theorem dX8_hang_185 : decode cX8_hang 185 = .ok (.isub, 1) := by decide +kernel
theorem dX8_hang_186 : decode cX8_hang 186 = .ok (.iastore, 1) := by decide +kernel
theorem dX8_hang_187 : decode cX8_hang 187 = .ok (.aload_n 0, 1) := by decide +kernel
theorem dX8_hang_188 : decode cX8_hang 188 = .ok (.getfield 58, 3) := by decide +kernel
theorem dX8_hang_191 : decode cX8_hang 191 = .ok (.iload_n 1, 1) := by decide +kernel
theorem dX8_hang_192 : decode cX8_hang 192 = .ok (.iaload, 1) := by decide +kernel
theorem dX8_hang_193 : decode cX8_hang 193 = .ok (.ireturn, 1) := by decide +kernel
theorem dX8_keep_0 : decode cX8_keep 0 = .ok (.aload_n 0, 1) := by decide +kernel
theorem dX8_keep_1 : decode cX8_keep 1 = .ok (.getfield 58, 3) := by decide +kernel
theorem dX8_keep_4 : decode cX8_keep 4 = .ok (.iload_n 1, 1) := by decide +kernel
theorem dX8_keep_5 : decode cX8_keep 5 = .ok (.aload_n 0, 1) := by decide +kernel
theorem dX8_keep_6 : decode cX8_keep 6 = .ok (.getfield 127, 3) := by decide +kernel
theorem dX8_keep_9 : decode cX8_keep 9 = .ok (.iastore, 1) := by decide +kernel
theorem dX8_keep_10 : decode cX8_keep 10 = .ok (.iconst 0, 1) := by decide +kernel
theorem dX8_keep_11 : decode cX8_keep 11 = .ok (.istore_n 2, 1) := by decide +kernel
theorem dX8_keep_12 : decode cX8_keep 12 = .ok (.iload_n 2, 1) := by decide +kernel
theorem dX8_keep_13 : decode cX8_keep 13 = .ok (.aload_n 0, 1) := by decide +kernel
theorem dX8_keep_14 : decode cX8_keep 14 = .ok (.getfield 127, 3) := by decide +kernel
theorem dX8_keep_17 : decode cX8_keep 17 = .ok (.if_icmp .ge 26, 3) := by decide +kernel
theorem dX8_keep_20 : decode cX8_keep 20 = .ok (.aload_n 0, 1) := by decide +kernel
theorem dX8_keep_21 : decode cX8_keep 21 = .ok (.getfield 61, 3) := by decide +kernel
theorem dX8_keep_24 : decode cX8_keep 24 = .ok (.bipush 20, 2) := by decide +kernel
theorem dX8_keep_26 : decode cX8_keep 26 = .ok (.iload_n 1, 1) := by decide +kernel
theorem dX8_keep_27 : decode cX8_keep 27 = .ok (.imul, 1) := by decide +kernel
theorem dX8_keep_28 : decode cX8_keep 28 = .ok (.iload_n 2, 1) := by decide +kernel
theorem dX8_keep_29 : decode cX8_keep 29 = .ok (.iadd, 1) := by decide +kernel
theorem dX8_keep_30 : decode cX8_keep 30 = .ok (.aload_n 0, 1) := by decide +kernel
theorem dX8_keep_31 : decode cX8_keep 31 = .ok (.getfield 64, 3) := by decide +kernel
theorem dX8_keep_34 : decode cX8_keep 34 = .ok (.iload_n 2, 1) := by decide +kernel
theorem dX8_keep_35 : decode cX8_keep 35 = .ok (.iaload, 1) := by decide +kernel
theorem dX8_keep_36 : decode cX8_keep 36 = .ok (.iastore, 1) := by decide +kernel
theorem dX8_keep_37 : decode cX8_keep 37 = .ok (.iinc 2 1, 3) := by decide +kernel
theorem dX8_keep_40 : decode cX8_keep 40 = .ok (.goto (-28), 3) := by decide +kernel
theorem dX8_keep_43 : decode cX8_keep 43 = .ok (.return_, 1) := by decide +kernel
theorem dX8_lose_0 : decode cX8_lose 0 = .ok (.aload_n 0, 1) := by decide +kernel
theorem dX8_lose_1 : decode cX8_lose 1 = .ok (.dup, 1) := by decide +kernel
theorem dX8_lose_2 : decode cX8_lose 2 = .ok (.getfield 148, 3) := by decide +kernel
theorem dX8_lose_5 : decode cX8_lose 5 = .ok (.aload_n 0, 1) := by decide +kernel
theorem dX8_lose_6 : decode cX8_lose 6 = .ok (.getfield 58, 3) := by decide +kernel
theorem dX8_lose_9 : decode cX8_lose 9 = .ok (.iload_n 1, 1) := by decide +kernel
theorem dX8_lose_10 : decode cX8_lose 10 = .ok (.iaload, 1) := by decide +kernel
theorem dX8_lose_11 : decode cX8_lose 11 = .ok (.aload_n 0, 1) := by decide +kernel
theorem dX8_lose_12 : decode cX8_lose 12 = .ok (.getfield 40, 3) := by decide +kernel
theorem dX8_lose_15 : decode cX8_lose 15 = .ok (.aload_n 0, 1) := by decide +kernel
theorem dX8_lose_16 : decode cX8_lose 16 = .ok (.getfield 52, 3) := by decide +kernel
theorem dX8_lose_19 : decode cX8_lose 19 = .ok (.iload_n 1, 1) := by decide +kernel
theorem dX8_lose_20 : decode cX8_lose 20 = .ok (.iaload, 1) := by decide +kernel
theorem dX8_lose_21 : decode cX8_lose 21 = .ok (.iaload, 1) := by decide +kernel
theorem dX8_lose_22 : decode cX8_lose 22 = .ok (.imul, 1) := by decide +kernel
theorem dX8_lose_23 : decode cX8_lose 23 = .ok (.iadd, 1) := by decide +kernel
theorem dX8_lose_24 : decode cX8_lose 24 = .ok (.putfield 148, 3) := by decide +kernel
theorem dX8_lose_27 : decode cX8_lose 27 = .ok (.aload_n 0, 1) := by decide +kernel
theorem dX8_lose_28 : decode cX8_lose 28 = .ok (.getfield 52, 3) := by decide +kernel
theorem dX8_lose_31 : decode cX8_lose 31 = .ok (.iload_n 1, 1) := by decide +kernel
theorem dX8_lose_32 : decode cX8_lose 32 = .ok (.iconst (-1), 1) := by decide +kernel
theorem dX8_lose_33 : decode cX8_lose 33 = .ok (.iastore, 1) := by decide +kernel
theorem dX8_lose_34 : decode cX8_lose 34 = .ok (.return_, 1) := by decide +kernel
theorem dX8_isWall_0 : decode cX8_isWall 0 = .ok (.iload_n 1, 1) := by decide +kernel
theorem dX8_isWall_1 : decode cX8_isWall 1 = .ok (.invokestatic 118, 3) := by decide +kernel
theorem dX8_isWall_4 : decode cX8_isWall 4 = .ok (.ifCond .eq 23, 3) := by decide +kernel
theorem dX8_isWall_7 : decode cX8_isWall 7 = .ok (.iload_n 2, 1) := by decide +kernel
theorem dX8_isWall_8 : decode cX8_isWall 8 = .ok (.iconst 0, 1) := by decide +kernel
theorem dX8_isWall_9 : decode cX8_isWall 9 = .ok (.aload_n 0, 1) := by decide +kernel
theorem dX8_isWall_10 : decode cX8_isWall 10 = .ok (.getfield 43, 3) := by decide +kernel
theorem dX8_isWall_13 : decode cX8_isWall 13 = .ok (.iload_n 1, 1) := by decide +kernel
theorem dX8_isWall_14 : decode cX8_isWall 14 = .ok (.iaload, 1) := by decide +kernel
theorem dX8_isWall_15 : decode cX8_isWall 15 = .ok (.iconst 1, 1) := by decide +kernel
theorem dX8_isWall_16 : decode cX8_isWall 16 = .ok (.isub, 1) := by decide +kernel
theorem dX8_isWall_17 : decode cX8_isWall 17 = .ok (.invokestatic 80, 3) := by decide +kernel
theorem dX8_isWall_20 : decode cX8_isWall 20 = .ok (.ifCond .eq 7, 3) := by decide +kernel
theorem dX8_isWall_23 : decode cX8_isWall 23 = .ok (.iconst 1, 1) := by decide +kernel
theorem dX8_isWall_24 : decode cX8_isWall 24 = .ok (.goto 4, 3) := by decide +kernel
theorem dX8_isWall_27 : decode cX8_isWall 27 = .ok (.iconst 0, 1) := by decide +kernel
theorem dX8_isWall_28 : decode cX8_isWall 28 = .ok (.ireturn, 1) := by decide +kernel
theorem dX8_lengthen_0 : decode cX8_lengthen 0 = .ok (.aload_n 0, 1) := by decide +kernel
theorem dX8_lengthen_1 : decode cX8_lengthen 1 = .ok (.iload_n 1, 1) := by decide +kernel
theorem dX8_lengthen_2 : decode cX8_lengthen 2 = .ok (.iload_n 2, 1) := by decide +kernel
theorem dX8_lengthen_3 : decode cX8_lengthen 3 = .ok (.invokevirtual 151, 3) := by decide +kernel
theorem dX8_lengthen_6 : decode cX8_lengthen 6 = .ok (.istore 4, 2) := by decide +kernel
theorem dX8_lengthen_8 : decode cX8_lengthen 8 = .ok (.iload 4, 2) := by decide +kernel
theorem dX8_lengthen_10 : decode cX8_lengthen 10 = .ok (.ifCond .eq 11, 3) := by decide +kernel
theorem dX8_lengthen_13 : decode cX8_lengthen 13 = .ok (.iconst 4, 1) := by decide +kernel
theorem dX8_lengthen_14 : decode cX8_lengthen 14 = .ok (.iload_n 1, 1) := by decide +kernel
theorem dX8_lengthen_15 : decode cX8_lengthen 15 = .ok (.imul, 1) := by decide +kernel
theorem dX8_lengthen_16 : decode cX8_lengthen 16 = .ok (.iload_n 2, 1) := by decide +kernel
theorem dX8_lengthen_17 : decode cX8_lengthen 17 = .ok (.iadd, 1) := by decide +kernel
theorem dX8_lengthen_18 : decode cX8_lengthen 18 = .ok (.goto 4, 3) := by decide +kernel
theorem dX8_lengthen_21 : decode cX8_lengthen 21 = .ok (.iconst 0, 1) := by decide +kernel
theorem dX8_lengthen_22 : decode cX8_lengthen 22 = .ok (.istore 5, 2) := by decide +kernel
theorem dX8_lengthen_24 : decode cX8_lengthen 24 = .ok (.iload 4, 2) := by decide +kernel
theorem dX8_lengthen_26 : decode cX8_lengthen 26 = .ok (.ifCond .eq 29, 3) := by decide +kernel
theorem dX8_lengthen_29 : decode cX8_lengthen 29 = .ok (.aload_n 0, 1) := by decide +kernel
theorem dX8_lengthen_30 : decode cX8_lengthen 30 = .ok (.iload_n 1, 1) := by decide +kernel
theorem dX8_lengthen_31 : decode cX8_lengthen 31 = .ok (.invokevirtual 121, 3) := by decide +kernel
theorem dX8_lengthen_34 : decode cX8_lengthen 34 = .ok (.ifCond .eq 21, 3) := by decide +kernel
theorem dX8_lengthen_37 : decode cX8_lengthen 37 = .ok (.aload_n 0, 1) := by decide +kernel
theorem dX8_lengthen_38 : decode cX8_lengthen 38 = .ok (.getfield 46, 3) := by decide +kernel
theorem dX8_lengthen_41 : decode cX8_lengthen 41 = .ok (.iload 5, 2) := by decide +kernel
theorem dX8_lengthen_43 : decode cX8_lengthen 43 = .ok (.iaload, 1) := by decide +kernel
theorem dX8_lengthen_44 : decode cX8_lengthen 44 = .ok (.iload_n 3, 1) := by decide +kernel
theorem dX8_lengthen_45 : decode cX8_lengthen 45 = .ok (.iadd, 1) := by decide +kernel
theorem dX8_lengthen_46 : decode cX8_lengthen 46 = .ok (.bipush 24, 2) := by decide +kernel
theorem dX8_lengthen_48 : decode cX8_lengthen 48 = .ok (.if_icmp .gt 7, 3) := by decide +kernel
theorem dX8_lengthen_51 : decode cX8_lengthen 51 = .ok (.iconst 1, 1) := by decide +kernel
theorem dX8_lengthen_52 : decode cX8_lengthen 52 = .ok (.goto 4, 3) := by decide +kernel
theorem dX8_lengthen_55 : decode cX8_lengthen 55 = .ok (.iconst 0, 1) := by decide +kernel
theorem dX8_lengthen_56 : decode cX8_lengthen 56 = .ok (.istore 6, 2) := by decide +kernel
theorem dX8_lengthen_58 : decode cX8_lengthen 58 = .ok (.aload_n 0, 1) := by decide +kernel
theorem dX8_lengthen_59 : decode cX8_lengthen 59 = .ok (.iload 4, 2) := by decide +kernel
theorem dX8_lengthen_61 : decode cX8_lengthen 61 = .ok (.ifCond .ne 7, 3) := by decide +kernel
theorem dX8_lengthen_64 : decode cX8_lengthen 64 = .ok (.iconst 1, 1) := by decide +kernel
theorem dX8_lengthen_65 : decode cX8_lengthen 65 = .ok (.goto 27, 3) := by decide +kernel
theorem dX8_lengthen_68 : decode cX8_lengthen 68 = .ok (.iload_n 3, 1) := by decide +kernel
theorem dX8_lengthen_69 : decode cX8_lengthen 69 = .ok (.iconst 1, 1) := by decide +kernel
theorem dX8_lengthen_70 : decode cX8_lengthen 70 = .ok (.bipush 12, 2) := by decide +kernel
theorem dX8_lengthen_72 : decode cX8_lengthen 72 = .ok (.invokestatic 80, 3) := by decide +kernel
theorem dX8_lengthen_75 : decode cX8_lengthen 75 = .ok (.ifCond .ne 7, 3) := by decide +kernel
theorem dX8_lengthen_78 : decode cX8_lengthen 78 = .ok (.iconst 2, 1) := by decide +kernel
theorem dX8_lengthen_79 : decode cX8_lengthen 79 = .ok (.goto 13, 3) := by decide +kernel
theorem dX8_lengthen_82 : decode cX8_lengthen 82 = .ok (.iload 6, 2) := by decide +kernel
theorem dX8_lengthen_84 : decode cX8_lengthen 84 = .ok (.ifCond .ne 7, 3) := by decide +kernel
theorem dX8_lengthen_87 : decode cX8_lengthen 87 = .ok (.iconst 3, 1) := by decide +kernel
theorem dX8_lengthen_88 : decode cX8_lengthen 88 = .ok (.goto 4, 3) := by decide +kernel
theorem dX8_lengthen_91 : decode cX8_lengthen 91 = .ok (.iconst 0, 1) := by decide +kernel
theorem dX8_lengthen_92 : decode cX8_lengthen 92 = .ok (.invokevirtual 84, 3) := by decide +kernel
theorem dX8_lengthen_95 : decode cX8_lengthen 95 = .ok (.ifCond .eq 5, 3) := by decide +kernel
theorem dX8_lengthen_98 : decode cX8_lengthen 98 = .ok (.iconst 0, 1) := by decide +kernel
theorem dX8_lengthen_99 : decode cX8_lengthen 99 = .ok (.ireturn, 1) := by decide +kernel
theorem dX8_lengthen_100 : decode cX8_lengthen 100 = .ok (.aload_n 0, 1) := by decide +kernel
theorem dX8_lengthen_101 : decode cX8_lengthen 101 = .ok (.getfield 52, 3) := by decide +kernel
theorem dX8_lengthen_104 : decode cX8_lengthen 104 = .ok (.iload_n 1, 1) := by decide +kernel
theorem dX8_lengthen_105 : decode cX8_lengthen 105 = .ok (.iaload, 1) := by decide +kernel
theorem dX8_lengthen_106 : decode cX8_lengthen 106 = .ok (.istore 7, 2) := by decide +kernel
theorem dX8_lengthen_108 : decode cX8_lengthen 108 = .ok (.aload_n 0, 1) := by decide +kernel
theorem dX8_lengthen_109 : decode cX8_lengthen 109 = .ok (.getfield 58, 3) := by decide +kernel
theorem dX8_lengthen_112 : decode cX8_lengthen 112 = .ok (.iload_n 1, 1) := by decide +kernel
theorem dX8_lengthen_113 : decode cX8_lengthen 113 = .ok (.iaload, 1) := by decide +kernel
theorem dX8_lengthen_114 : decode cX8_lengthen 114 = .ok (.istore 8, 2) := by decide +kernel
theorem dX8_lengthen_116 : decode cX8_lengthen 116 = .ok (.aload_n 0, 1) := by decide +kernel
theorem dX8_lengthen_117 : decode cX8_lengthen 117 = .ok (.iload 8, 2) := by decide +kernel
theorem dX8_lengthen_119 : decode cX8_lengthen 119 = .ok (.putfield 127, 3) := by decide +kernel
theorem dX8_lengthen_122 : decode cX8_lengthen 122 = .ok (.iconst 0, 1) := by decide +kernel
theorem dX8_lengthen_123 : decode cX8_lengthen 123 = .ok (.istore 9, 2) := by decide +kernel
theorem dX8_lengthen_125 : decode cX8_lengthen 125 = .ok (.iload 9, 2) := by decide +kernel
theorem dX8_lengthen_127 : decode cX8_lengthen 127 = .ok (.iload 8, 2) := by decide +kernel
theorem dX8_lengthen_129 : decode cX8_lengthen 129 = .ok (.if_icmp .ge 28, 3) := by decide +kernel
theorem dX8_lengthen_132 : decode cX8_lengthen 132 = .ok (.aload_n 0, 1) := by decide +kernel
theorem dX8_lengthen_133 : decode cX8_lengthen 133 = .ok (.getfield 64, 3) := by decide +kernel
theorem dX8_lengthen_136 : decode cX8_lengthen 136 = .ok (.iload 9, 2) := by decide +kernel
theorem dX8_lengthen_138 : decode cX8_lengthen 138 = .ok (.aload_n 0, 1) := by decide +kernel
theorem dX8_lengthen_139 : decode cX8_lengthen 139 = .ok (.getfield 61, 3) := by decide +kernel
theorem dX8_lengthen_142 : decode cX8_lengthen 142 = .ok (.bipush 20, 2) := by decide +kernel
theorem dX8_lengthen_144 : decode cX8_lengthen 144 = .ok (.iload_n 1, 1) := by decide +kernel
theorem dX8_lengthen_145 : decode cX8_lengthen 145 = .ok (.imul, 1) := by decide +kernel
theorem dX8_lengthen_146 : decode cX8_lengthen 146 = .ok (.iload 9, 2) := by decide +kernel
theorem dX8_lengthen_148 : decode cX8_lengthen 148 = .ok (.iadd, 1) := by decide +kernel
theorem dX8_lengthen_149 : decode cX8_lengthen 149 = .ok (.iaload, 1) := by decide +kernel
theorem dX8_lengthen_150 : decode cX8_lengthen 150 = .ok (.iastore, 1) := by decide +kernel
theorem dX8_lengthen_151 : decode cX8_lengthen 151 = .ok (.iinc 9 1, 3) := by decide +kernel
theorem dX8_lengthen_154 : decode cX8_lengthen 154 = .ok (.goto (-29), 3) := by decide +kernel
theorem dX8_lengthen_157 : decode cX8_lengthen 157 = .ok (.iconst 1, 1) := by decide +kernel
theorem dX8_lengthen_158 : decode cX8_lengthen 158 = .ok (.istore 9, 2) := by decide +kernel
theorem dX8_lengthen_160 : decode cX8_lengthen 160 = .ok (.aload_n 0, 1) := by decide +kernel
theorem dX8_lengthen_161 : decode cX8_lengthen 161 = .ok (.getfield 46, 3) := by decide +kernel
theorem dX8_lengthen_164 : decode cX8_lengthen 164 = .ok (.iload 5, 2) := by decide +kernel
theorem dX8_lengthen_166 : decode cX8_lengthen 166 = .ok (.iaload, 1) := by decide +kernel
theorem dX8_lengthen_167 : decode cX8_lengthen 167 = .ok (.istore 10, 2) := by decide +kernel
theorem dX8_lengthen_169 : decode cX8_lengthen 169 = .ok (.iload 10, 2) := by decide +kernel
theorem dX8_lengthen_171 : decode cX8_lengthen 171 = .ok (.aload_n 0, 1) := by decide +kernel
theorem dX8_lengthen_172 : decode cX8_lengthen 172 = .ok (.getfield 46, 3) := by decide +kernel
theorem dX8_lengthen_175 : decode cX8_lengthen 175 = .ok (.iload 5, 2) := by decide +kernel
theorem dX8_lengthen_177 : decode cX8_lengthen 177 = .ok (.iaload, 1) := by decide +kernel
theorem dX8_lengthen_178 : decode cX8_lengthen 178 = .ok (.iload_n 3, 1) := by decide +kernel
theorem dX8_lengthen_179 : decode cX8_lengthen 179 = .ok (.iadd, 1) := by decide +kernel
theorem dX8_lengthen_180 : decode cX8_lengthen 180 = .ok (.if_icmp .ge 79, 3) := by decide +kernel
theorem dX8_lengthen_183 : decode cX8_lengthen 183 = .ok (.iload 9, 2) := by decide +kernel
theorem dX8_lengthen_185 : decode cX8_lengthen 185 = .ok (.ifCond .eq 74, 3) := by decide +kernel
theorem dX8_lengthen_188 : decode cX8_lengthen 188 = .ok (.aload_n 0, 1) := by decide +kernel
theorem dX8_lengthen_189 : decode cX8_lengthen 189 = .ok (.iload 7, 2) := by decide +kernel
theorem dX8_lengthen_191 : decode cX8_lengthen 191 = .ok (.aload_n 0, 1) := by decide +kernel
theorem dX8_lengthen_192 : decode cX8_lengthen 192 = .ok (.getfield 55, 3) := by decide +kernel
theorem dX8_lengthen_195 : decode cX8_lengthen 195 = .ok (.iload_n 1, 1) := by decide +kernel
theorem dX8_lengthen_196 : decode cX8_lengthen 196 = .ok (.iaload, 1) := by decide +kernel
theorem dX8_lengthen_197 : decode cX8_lengthen 197 = .ok (.iload 8, 2) := by decide +kernel
theorem dX8_lengthen_199 : decode cX8_lengthen 199 = .ok (.aload_n 0, 1) := by decide +kernel
theorem dX8_lengthen_200 : decode cX8_lengthen 200 = .ok (.getfield 37, 3) := by decide +kernel
theorem dX8_lengthen_203 : decode cX8_lengthen 203 = .ok (.iload 7, 2) := by decide +kernel
theorem dX8_lengthen_205 : decode cX8_lengthen 205 = .ok (.iaload, 1) := by decide +kernel
theorem dX8_lengthen_206 : decode cX8_lengthen 206 = .ok (.iadd, 1) := by decide +kernel
theorem dX8_lengthen_207 : decode cX8_lengthen 207 = .ok (.aload_n 0, 1) := by decide +kernel
theorem dX8_lengthen_208 : decode cX8_lengthen 208 = .ok (.getfield 49, 3) := by decide +kernel
theorem dX8_lengthen_211 : decode cX8_lengthen 211 = .ok (.iload 5, 2) := by decide +kernel
theorem dX8_lengthen_213 : decode cX8_lengthen 213 = .ok (.iaload, 1) := by decide +kernel
theorem dX8_lengthen_214 : decode cX8_lengthen 214 = .ok (.invokevirtual 136, 3) := by decide +kernel
theorem dX8_lengthen_217 : decode cX8_lengthen 217 = .ok (.istore 9, 2) := by decide +kernel
theorem dX8_lengthen_219 : decode cX8_lengthen 219 = .ok (.aload_n 0, 1) := by decide +kernel
theorem dX8_lengthen_220 : decode cX8_lengthen 220 = .ok (.getfield 67, 3) := by decide +kernel
theorem dX8_lengthen_223 : decode cX8_lengthen 223 = .ok (.bipush 24, 2) := by decide +kernel
theorem dX8_lengthen_225 : decode cX8_lengthen 225 = .ok (.iload 5, 2) := by decide +kernel
theorem dX8_lengthen_227 : decode cX8_lengthen 227 = .ok (.imul, 1) := by decide +kernel
theorem dX8_lengthen_228 : decode cX8_lengthen 228 = .ok (.iload 10, 2) := by decide +kernel
theorem dX8_lengthen_230 : decode cX8_lengthen 230 = .ok (.iadd, 1) := by decide +kernel
theorem dX8_lengthen_231 : decode cX8_lengthen 231 = .ok (.aload_n 0, 1) := by decide +kernel
theorem dX8_lengthen_232 : decode cX8_lengthen 232 = .ok (.getfield 130, 3) := by decide +kernel
theorem dX8_lengthen_235 : decode cX8_lengthen 235 = .ok (.iastore, 1) := by decide +kernel
theorem dX8_lengthen_236 : decode cX8_lengthen 236 = .ok (.aload_n 0, 1) := by decide +kernel
theorem dX8_lengthen_237 : decode cX8_lengthen 237 = .ok (.getfield 70, 3) := by decide +kernel
theorem dX8_lengthen_240 : decode cX8_lengthen 240 = .ok (.bipush 24, 2) := by decide +kernel
theorem dX8_lengthen_242 : decode cX8_lengthen 242 = .ok (.iload 5, 2) := by decide +kernel
theorem dX8_lengthen_244 : decode cX8_lengthen 244 = .ok (.imul, 1) := by decide +kernel
theorem dX8_lengthen_245 : decode cX8_lengthen 245 = .ok (.iload 10, 2) := by decide +kernel
theorem dX8_lengthen_247 : decode cX8_lengthen 247 = .ok (.iadd, 1) := by decide +kernel
theorem dX8_lengthen_248 : decode cX8_lengthen 248 = .ok (.aload_n 0, 1) := by decide +kernel
theorem dX8_lengthen_249 : decode cX8_lengthen 249 = .ok (.getfield 133, 3) := by decide +kernel
theorem dX8_lengthen_252 : decode cX8_lengthen 252 = .ok (.iastore, 1) := by decide +kernel
theorem dX8_lengthen_253 : decode cX8_lengthen 253 = .ok (.iinc 10 1, 3) := by decide +kernel
theorem dX8_lengthen_256 : decode cX8_lengthen 256 = .ok (.goto (-87), 3) := by decide +kernel
theorem dX8_lengthen_259 : decode cX8_lengthen 259 = .ok (.aload_n 0, 1) := by decide +kernel
theorem dX8_lengthen_260 : decode cX8_lengthen 260 = .ok (.getfield 46, 3) := by decide +kernel
theorem dX8_lengthen_263 : decode cX8_lengthen 263 = .ok (.iload 5, 2) := by decide +kernel
theorem dX8_lengthen_265 : decode cX8_lengthen 265 = .ok (.dup2, 1) := by decide +kernel
theorem dX8_lengthen_266 : decode cX8_lengthen 266 = .ok (.iaload, 1) := by decide +kernel
theorem dX8_lengthen_267 : decode cX8_lengthen 267 = .ok (.iload_n 3, 1) := by decide +kernel
theorem dX8_lengthen_268 : decode cX8_lengthen 268 = .ok (.iadd, 1) := by decide +kernel
theorem dX8_lengthen_269 : decode cX8_lengthen 269 = .ok (.iastore, 1) := by decide +kernel
theorem dX8_lengthen_270 : decode cX8_lengthen 270 = .ok (.iload 9, 2) := by decide +kernel
theorem dX8_lengthen_272 : decode cX8_lengthen 272 = .ok (.ifCond .ne 10, 3) := by decide +kernel
theorem dX8_lengthen_275 : decode cX8_lengthen 275 = .ok (.aload_n 0, 1) := by decide +kernel
theorem dX8_lengthen_276 : decode cX8_lengthen 276 = .ok (.iload_n 1, 1) := by decide +kernel
theorem dX8_lengthen_277 : decode cX8_lengthen 277 = .ok (.invokevirtual 155, 3) := by decide +kernel
theorem dX8_lengthen_280 : decode cX8_lengthen 280 = .ok (.iconst (-1), 1) := by decide +kernel
theorem dX8_lengthen_281 : decode cX8_lengthen 281 = .ok (.ireturn, 1) := by decide +kernel
theorem dX8_lengthen_282 : decode cX8_lengthen 282 = .ok (.aload_n 0, 1) := by decide +kernel
theorem dX8_lengthen_283 : decode cX8_lengthen 283 = .ok (.iload_n 1, 1) := by decide +kernel
theorem dX8_lengthen_284 : decode cX8_lengthen 284 = .ok (.invokevirtual 144, 3) := by decide +kernel
theorem dX8_lengthen_287 : decode cX8_lengthen 287 = .ok (.aload_n 0, 1) := by decide +kernel
theorem dX8_lengthen_288 : decode cX8_lengthen 288 = .ok (.getfield 37, 3) := by decide +kernel
theorem dX8_lengthen_291 : decode cX8_lengthen 291 = .ok (.iload 7, 2) := by decide +kernel
theorem dX8_lengthen_293 : decode cX8_lengthen 293 = .ok (.dup2, 1) := by decide +kernel
theorem dX8_lengthen_294 : decode cX8_lengthen 294 = .ok (.iaload, 1) := by decide +kernel
theorem dX8_lengthen_295 : decode cX8_lengthen 295 = .ok (.aload_n 0, 1) := by decide +kernel
theorem dX8_lengthen_296 : decode cX8_lengthen 296 = .ok (.getfield 58, 3) := by decide +kernel
theorem dX8_lengthen_299 : decode cX8_lengthen 299 = .ok (.iload_n 1, 1) := by decide +kernel
theorem dX8_lengthen_300 : decode cX8_lengthen 300 = .ok (.iaload, 1) := by decide +kernel
theorem dX8_lengthen_301 : decode cX8_lengthen 301 = .ok (.iload 8, 2) := by decide +kernel
theorem dX8_lengthen_303 : decode cX8_lengthen 303 = .ok (.isub, 1) := by decide +kernel
theorem dX8_lengthen_304 : decode cX8_lengthen 304 = .ok (.isub, 1) := by decide +kernel
theorem dX8_lengthen_305 : decode cX8_lengthen 305 = .ok (.iastore, 1) := by decide +kernel
theorem dX8_lengthen_306 : decode cX8_lengthen 306 = .ok (.aload_n 0, 1) := by decide +kernel
theorem dX8_lengthen_307 : decode cX8_lengthen 307 = .ok (.getfield 58, 3) := by decide +kernel
theorem dX8_lengthen_310 : decode cX8_lengthen 310 = .ok (.iload_n 1, 1) := by decide +kernel
theorem dX8_lengthen_311 : decode cX8_lengthen 311 = .ok (.iaload, 1) := by decide +kernel
theorem dX8_lengthen_312 : decode cX8_lengthen 312 = .ok (.iload 8, 2) := by decide +kernel
theorem dX8_lengthen_314 : decode cX8_lengthen 314 = .ok (.isub, 1) := by decide +kernel
theorem dX8_lengthen_315 : decode cX8_lengthen 315 = .ok (.ireturn, 1) := by decide +kernel
theorem dX8_strip_0 : decode cX8_strip 0 = .ok (.iload_n 1, 1) := by decide +kernel
theorem dX8_strip_1 : decode cX8_strip 1 = .ok (.invokestatic 118, 3) := by decide +kernel
theorem dX8_strip_4 : decode cX8_strip 4 = .ok (.istore_n 2, 1) := by decide +kernel
theorem dX8_strip_5 : decode cX8_strip 5 = .ok (.aload_n 0, 1) := by decide +kernel
theorem dX8_strip_6 : decode cX8_strip 6 = .ok (.iload_n 2, 1) := by decide +kernel
theorem dX8_strip_7 : decode cX8_strip 7 = .ok (.ifCond .ne 7, 3) := by decide +kernel
theorem dX8_strip_10 : decode cX8_strip 10 = .ok (.iconst 1, 1) := by decide +kernel
theorem dX8_strip_11 : decode cX8_strip 11 = .ok (.goto 16, 3) := by decide +kernel
theorem dX8_strip_14 : decode cX8_strip 14 = .ok (.aload_n 0, 1) := by decide +kernel
theorem dX8_strip_15 : decode cX8_strip 15 = .ok (.iload_n 1, 1) := by decide +kernel
theorem dX8_strip_16 : decode cX8_strip 16 = .ok (.invokevirtual 121, 3) := by decide +kernel
theorem dX8_strip_19 : decode cX8_strip 19 = .ok (.ifCond .ne 7, 3) := by decide +kernel
theorem dX8_strip_22 : decode cX8_strip 22 = .ok (.iconst 2, 1) := by decide +kernel
theorem dX8_strip_23 : decode cX8_strip 23 = .ok (.goto 4, 3) := by decide +kernel
theorem dX8_strip_26 : decode cX8_strip 26 = .ok (.iconst 0, 1) := by decide +kernel
theorem dX8_strip_27 : decode cX8_strip 27 = .ok (.invokevirtual 84, 3) := by decide +kernel
theorem dX8_strip_30 : decode cX8_strip 30 = .ok (.ifCond .eq 5, 3) := by decide +kernel
theorem dX8_strip_33 : decode cX8_strip 33 = .ok (.iconst 0, 1) := by decide +kernel
theorem dX8_strip_34 : decode cX8_strip 34 = .ok (.ireturn, 1) := by decide +kernel
theorem dX8_strip_35 : decode cX8_strip 35 = .ok (.aload_n 0, 1) := by decide +kernel
theorem dX8_strip_36 : decode cX8_strip 36 = .ok (.iload_n 1, 1) := by decide +kernel
theorem dX8_strip_37 : decode cX8_strip 37 = .ok (.invokevirtual 155, 3) := by decide +kernel
theorem dX8_strip_40 : decode cX8_strip 40 = .ok (.aload_n 0, 1) := by decide +kernel
theorem dX8_strip_41 : decode cX8_strip 41 = .ok (.getfield 58, 3) := by decide +kernel
theorem dX8_strip_44 : decode cX8_strip 44 = .ok (.iload_n 1, 1) := by decide +kernel
theorem dX8_strip_45 : decode cX8_strip 45 = .ok (.iaload, 1) := by decide +kernel
theorem dX8_strip_46 : decode cX8_strip 46 = .ok (.ireturn, 1) := by decide +kernel
theorem dX8_sum_0 : decode cX8_sum 0 = .ok (.iconst 0, 1) := by decide +kernel
theorem dX8_sum_1 : decode cX8_sum 1 = .ok (.istore_n 3, 1) := by decide +kernel
theorem dX8_sum_2 : decode cX8_sum 2 = .ok (.iconst 0, 1) := by decide +kernel
theorem dX8_sum_3 : decode cX8_sum 3 = .ok (.istore 4, 2) := by decide +kernel
theorem dX8_sum_5 : decode cX8_sum 5 = .ok (.iload 4, 2) := by decide +kernel
theorem dX8_sum_7 : decode cX8_sum 7 = .ok (.aload_n 0, 1) := by decide +kernel
theorem dX8_sum_8 : decode cX8_sum 8 = .ok (.getfield 43, 3) := by decide +kernel
theorem dX8_sum_11 : decode cX8_sum 11 = .ok (.iload_n 1, 1) := by decide +kernel
theorem dX8_sum_12 : decode cX8_sum 12 = .ok (.iaload, 1) := by decide +kernel
theorem dX8_sum_13 : decode cX8_sum 13 = .ok (.if_icmp .ge 43, 3) := by decide +kernel
theorem dX8_sum_16 : decode cX8_sum 16 = .ok (.iload_n 3, 1) := by decide +kernel
theorem dX8_sum_17 : decode cX8_sum 17 = .ok (.aload_n 0, 1) := by decide +kernel
theorem dX8_sum_18 : decode cX8_sum 18 = .ok (.getfield 46, 3) := by decide +kernel
theorem dX8_sum_21 : decode cX8_sum 21 = .ok (.iconst 4, 1) := by decide +kernel
theorem dX8_sum_22 : decode cX8_sum 22 = .ok (.iload_n 1, 1) := by decide +kernel
theorem dX8_sum_23 : decode cX8_sum 23 = .ok (.imul, 1) := by decide +kernel
theorem dX8_sum_24 : decode cX8_sum 24 = .ok (.iload 4, 2) := by decide +kernel
theorem dX8_sum_26 : decode cX8_sum 26 = .ok (.iadd, 1) := by decide +kernel
theorem dX8_sum_27 : decode cX8_sum 27 = .ok (.iaload, 1) := by decide +kernel
theorem dX8_sum_28 : decode cX8_sum 28 = .ok (.iload_n 2, 1) := by decide +kernel
theorem dX8_sum_29 : decode cX8_sum 29 = .ok (.ifCond .eq 17, 3) := by decide +kernel
theorem dX8_sum_32 : decode cX8_sum 32 = .ok (.aload_n 0, 1) := by decide +kernel
theorem dX8_sum_33 : decode cX8_sum 33 = .ok (.getfield 49, 3) := by decide +kernel
theorem dX8_sum_36 : decode cX8_sum 36 = .ok (.iconst 4, 1) := by decide +kernel
theorem dX8_sum_37 : decode cX8_sum 37 = .ok (.iload_n 1, 1) := by decide +kernel
theorem dX8_sum_38 : decode cX8_sum 38 = .ok (.imul, 1) := by decide +kernel
theorem dX8_sum_39 : decode cX8_sum 39 = .ok (.iload 4, 2) := by decide +kernel
theorem dX8_sum_41 : decode cX8_sum 41 = .ok (.iadd, 1) := by decide +kernel
theorem dX8_sum_42 : decode cX8_sum 42 = .ok (.iaload, 1) := by decide +kernel
theorem dX8_sum_43 : decode cX8_sum 43 = .ok (.goto 4, 3) := by decide +kernel
theorem dX8_sum_46 : decode cX8_sum 46 = .ok (.iconst 1, 1) := by decide +kernel
theorem dX8_sum_47 : decode cX8_sum 47 = .ok (.imul, 1) := by decide +kernel
theorem dX8_sum_48 : decode cX8_sum 48 = .ok (.iadd, 1) := by decide +kernel
theorem dX8_sum_49 : decode cX8_sum 49 = .ok (.istore_n 3, 1) := by decide +kernel
theorem dX8_sum_50 : decode cX8_sum 50 = .ok (.iinc 4 1, 3) := by decide +kernel
theorem dX8_sum_53 : decode cX8_sum 53 = .ok (.goto (-48), 3) := by decide +kernel
theorem dX8_sum_56 : decode cX8_sum 56 = .ok (.iload_n 3, 1) := by decide +kernel
theorem dX8_sum_57 : decode cX8_sum 57 = .ok (.ireturn, 1) := by decide +kernel
theorem dX8_room_0 : decode cX8_room 0 = .ok (.aload_n 0, 1) := by decide +kernel
theorem dX8_room_1 : decode cX8_room 1 = .ok (.iload_n 1, 1) := by decide +kernel
theorem dX8_room_2 : decode cX8_room 2 = .ok (.invokestatic 118, 3) := by decide +kernel
theorem dX8_room_5 : decode cX8_room 5 = .ok (.ifCond .ne 7, 3) := by decide +kernel
theorem dX8_room_8 : decode cX8_room 8 = .ok (.iconst 1, 1) := by decide +kernel
theorem dX8_room_9 : decode cX8_room 9 = .ok (.goto 17, 3) := by decide +kernel
theorem dX8_room_12 : decode cX8_room 12 = .ok (.iload_n 2, 1) := by decide +kernel
theorem dX8_room_13 : decode cX8_room 13 = .ok (.iconst 0, 1) := by decide +kernel
theorem dX8_room_14 : decode cX8_room 14 = .ok (.iconst 5, 1) := by decide +kernel
theorem dX8_room_15 : decode cX8_room 15 = .ok (.invokestatic 80, 3) := by decide +kernel
theorem dX8_room_18 : decode cX8_room 18 = .ok (.ifCond .ne 7, 3) := by decide +kernel
theorem dX8_room_21 : decode cX8_room 21 = .ok (.iconst 2, 1) := by decide +kernel
theorem dX8_room_22 : decode cX8_room 22 = .ok (.goto 4, 3) := by decide +kernel
theorem dX8_room_25 : decode cX8_room 25 = .ok (.iconst 0, 1) := by decide +kernel
theorem dX8_room_26 : decode cX8_room 26 = .ok (.invokevirtual 84, 3) := by decide +kernel
theorem dX8_room_29 : decode cX8_room 29 = .ok (.ifCond .eq 5, 3) := by decide +kernel
theorem dX8_room_32 : decode cX8_room 32 = .ok (.iconst 0, 1) := by decide +kernel
theorem dX8_room_33 : decode cX8_room 33 = .ok (.ireturn, 1) := by decide +kernel
theorem dX8_room_34 : decode cX8_room 34 = .ok (.iload_n 2, 1) := by decide +kernel
theorem dX8_room_35 : decode cX8_room 35 = .ok (.iconst 2, 1) := by decide +kernel
theorem dX8_room_36 : decode cX8_room 36 = .ok (.if_icmp .ge 23, 3) := by decide +kernel
theorem dX8_room_39 : decode cX8_room 39 = .ok (.iload_n 2, 1) := by decide +kernel
theorem dX8_room_40 : decode cX8_room 40 = .ok (.ifCond .ne 12, 3) := by decide +kernel
theorem dX8_room_43 : decode cX8_room 43 = .ok (.aload_n 0, 1) := by decide +kernel
theorem dX8_room_44 : decode cX8_room 44 = .ok (.getfield 43, 3) := by decide +kernel
theorem dX8_room_47 : decode cX8_room 47 = .ok (.iload_n 1, 1) := by decide +kernel
theorem dX8_room_48 : decode cX8_room 48 = .ok (.iaload, 1) := by decide +kernel
theorem dX8_room_49 : decode cX8_room 49 = .ok (.goto 9, 3) := by decide +kernel
theorem dX8_room_52 : decode cX8_room 52 = .ok (.aload_n 0, 1) := by decide +kernel
theorem dX8_room_53 : decode cX8_room 53 = .ok (.iload_n 1, 1) := by decide +kernel
theorem dX8_room_54 : decode cX8_room 54 = .ok (.iconst 0, 1) := by decide +kernel
theorem dX8_room_55 : decode cX8_room 55 = .ok (.invokevirtual 158, 3) := by decide +kernel
theorem dX8_room_58 : decode cX8_room 58 = .ok (.ireturn, 1) := by decide +kernel
theorem dX8_room_59 : decode cX8_room 59 = .ok (.aload_n 0, 1) := by decide +kernel
theorem dX8_room_60 : decode cX8_room 60 = .ok (.iload_n 1, 1) := by decide +kernel
theorem dX8_room_61 : decode cX8_room 61 = .ok (.invokevirtual 121, 3) := by decide +kernel
theorem dX8_room_64 : decode cX8_room 64 = .ok (.ifCond .ne 5, 3) := by decide +kernel
theorem dX8_room_67 : decode cX8_room 67 = .ok (.iconst (-1), 1) := by decide +kernel
theorem dX8_room_68 : decode cX8_room 68 = .ok (.ireturn, 1) := by decide +kernel
theorem dX8_room_69 : decode cX8_room 69 = .ok (.iload_n 2, 1) := by decide +kernel
theorem dX8_room_70 : decode cX8_room 70 = .ok (.iconst 2, 1) := by decide +kernel
theorem dX8_room_71 : decode cX8_room 71 = .ok (.if_icmp .ne 12, 3) := by decide +kernel
theorem dX8_room_74 : decode cX8_room 74 = .ok (.aload_n 0, 1) := by decide +kernel
theorem dX8_room_75 : decode cX8_room 75 = .ok (.getfield 52, 3) := by decide +kernel
theorem dX8_room_78 : decode cX8_room 78 = .ok (.iload_n 1, 1) := by decide +kernel
theorem dX8_room_79 : decode cX8_room 79 = .ok (.iaload, 1) := by decide +kernel
theorem dX8_room_80 : decode cX8_room 80 = .ok (.goto 56, 3) := by decide +kernel
theorem dX8_room_83 : decode cX8_room 83 = .ok (.iload_n 2, 1) := by decide +kernel
theorem dX8_room_84 : decode cX8_room 84 = .ok (.iconst 3, 1) := by decide +kernel
theorem dX8_room_85 : decode cX8_room 85 = .ok (.if_icmp .ne 12, 3) := by decide +kernel
theorem dX8_room_88 : decode cX8_room 88 = .ok (.aload_n 0, 1) := by decide +kernel
theorem dX8_room_89 : decode cX8_room 89 = .ok (.getfield 55, 3) := by decide +kernel
theorem dX8_room_92 : decode cX8_room 92 = .ok (.iload_n 1, 1) := by decide +kernel
theorem dX8_room_93 : decode cX8_room 93 = .ok (.iaload, 1) := by decide +kernel
theorem dX8_room_94 : decode cX8_room 94 = .ok (.goto 42, 3) := by decide +kernel
theorem dX8_room_97 : decode cX8_room 97 = .ok (.iload_n 2, 1) := by decide +kernel
theorem dX8_room_98 : decode cX8_room 98 = .ok (.iconst 4, 1) := by decide +kernel
theorem dX8_room_99 : decode cX8_room 99 = .ok (.if_icmp .ne 12, 3) := by decide +kernel
theorem dX8_room_102 : decode cX8_room 102 = .ok (.aload_n 0, 1) := by decide +kernel
theorem dX8_room_103 : decode cX8_room 103 = .ok (.getfield 58, 3) := by decide +kernel
theorem dX8_room_106 : decode cX8_room 106 = .ok (.iload_n 1, 1) := by decide +kernel
theorem dX8_room_107 : decode cX8_room 107 = .ok (.iaload, 1) := by decide +kernel
theorem dX8_room_108 : decode cX8_room 108 = .ok (.goto 28, 3) := by decide +kernel
theorem dX8_room_111 : decode cX8_room 111 = .ok (.aload_n 0, 1) := by decide +kernel
theorem dX8_room_112 : decode cX8_room 112 = .ok (.getfield 58, 3) := by decide +kernel
theorem dX8_room_115 : decode cX8_room 115 = .ok (.iload_n 1, 1) := by decide +kernel
theorem dX8_room_116 : decode cX8_room 116 = .ok (.iaload, 1) := by decide +kernel
theorem dX8_room_117 : decode cX8_room 117 = .ok (.aload_n 0, 1) := by decide +kernel
theorem dX8_room_118 : decode cX8_room 118 = .ok (.getfield 40, 3) := by decide +kernel
theorem dX8_room_121 : decode cX8_room 121 = .ok (.aload_n 0, 1) := by decide +kernel
theorem dX8_room_122 : decode cX8_room 122 = .ok (.getfield 52, 3) := by decide +kernel
theorem dX8_room_125 : decode cX8_room 125 = .ok (.iload_n 1, 1) := by decide +kernel
theorem dX8_room_126 : decode cX8_room 126 = .ok (.iaload, 1) := by decide +kernel
theorem dX8_room_127 : decode cX8_room 127 = .ok (.iaload, 1) := by decide +kernel
theorem dX8_room_128 : decode cX8_room 128 = .ok (.imul, 1) := by decide +kernel
theorem dX8_room_129 : decode cX8_room 129 = .ok (.aload_n 0, 1) := by decide +kernel
theorem dX8_room_130 : decode cX8_room 130 = .ok (.iload_n 1, 1) := by decide +kernel
theorem dX8_room_131 : decode cX8_room 131 = .ok (.iconst 1, 1) := by decide +kernel
theorem dX8_room_132 : decode cX8_room 132 = .ok (.invokevirtual 158, 3) := by decide +kernel
theorem dX8_room_135 : decode cX8_room 135 = .ok (.isub, 1) := by decide +kernel
theorem dX8_room_136 : decode cX8_room 136 = .ok (.ireturn, 1) := by decide +kernel
theorem dX8_cut_0 : decode cX8_cut 0 = .ok (.aload_n 0, 1) := by decide +kernel
theorem dX8_cut_1 : decode cX8_cut 1 = .ok (.iload_n 1, 1) := by decide +kernel
theorem dX8_cut_2 : decode cX8_cut 2 = .ok (.iload_n 2, 1) := by decide +kernel
theorem dX8_cut_3 : decode cX8_cut 3 = .ok (.invokevirtual 151, 3) := by decide +kernel
theorem dX8_cut_6 : decode cX8_cut 6 = .ok (.ifCond .eq 27, 3) := by decide +kernel
theorem dX8_cut_9 : decode cX8_cut 9 = .ok (.iload_n 3, 1) := by decide +kernel
theorem dX8_cut_10 : decode cX8_cut 10 = .ok (.iconst 0, 1) := by decide +kernel
theorem dX8_cut_11 : decode cX8_cut 11 = .ok (.aload_n 0, 1) := by decide +kernel
theorem dX8_cut_12 : decode cX8_cut 12 = .ok (.getfield 46, 3) := by decide +kernel
theorem dX8_cut_15 : decode cX8_cut 15 = .ok (.iconst 4, 1) := by decide +kernel
theorem dX8_cut_16 : decode cX8_cut 16 = .ok (.iload_n 1, 1) := by decide +kernel
theorem dX8_cut_17 : decode cX8_cut 17 = .ok (.imul, 1) := by decide +kernel
theorem dX8_cut_18 : decode cX8_cut 18 = .ok (.iload_n 2, 1) := by decide +kernel
theorem dX8_cut_19 : decode cX8_cut 19 = .ok (.iadd, 1) := by decide +kernel
theorem dX8_cut_20 : decode cX8_cut 20 = .ok (.iaload, 1) := by decide +kernel
theorem dX8_cut_21 : decode cX8_cut 21 = .ok (.iconst 1, 1) := by decide +kernel
theorem dX8_cut_22 : decode cX8_cut 22 = .ok (.isub, 1) := by decide +kernel
theorem dX8_cut_23 : decode cX8_cut 23 = .ok (.invokestatic 80, 3) := by decide +kernel
theorem dX8_cut_26 : decode cX8_cut 26 = .ok (.ifCond .eq 7, 3) := by decide +kernel
theorem dX8_cut_29 : decode cX8_cut 29 = .ok (.iconst 1, 1) := by decide +kernel
theorem dX8_cut_30 : decode cX8_cut 30 = .ok (.goto 4, 3) := by decide +kernel
theorem dX8_cut_33 : decode cX8_cut 33 = .ok (.iconst 0, 1) := by decide +kernel
theorem dX8_cut_34 : decode cX8_cut 34 = .ok (.istore 4, 2) := by decide +kernel
theorem dX8_cut_36 : decode cX8_cut 36 = .ok (.aload_n 0, 1) := by decide +kernel
theorem dX8_cut_37 : decode cX8_cut 37 = .ok (.iload 4, 2) := by decide +kernel
theorem dX8_cut_39 : decode cX8_cut 39 = .ok (.ifCond .eq 7, 3) := by decide +kernel
theorem dX8_cut_42 : decode cX8_cut 42 = .ok (.iconst 0, 1) := by decide +kernel
theorem dX8_cut_43 : decode cX8_cut 43 = .ok (.goto 4, 3) := by decide +kernel
theorem dX8_cut_46 : decode cX8_cut 46 = .ok (.iconst 1, 1) := by decide +kernel
theorem dX8_cut_47 : decode cX8_cut 47 = .ok (.invokevirtual 84, 3) := by decide +kernel
theorem dX8_cut_50 : decode cX8_cut 50 = .ok (.ifCond .eq 5, 3) := by decide +kernel
theorem dX8_cut_53 : decode cX8_cut 53 = .ok (.iconst 0, 1) := by decide +kernel
theorem dX8_cut_54 : decode cX8_cut 54 = .ok (.ireturn, 1) := by decide +kernel
theorem dX8_cut_55 : decode cX8_cut 55 = .ok (.bipush 24, 2) := by decide +kernel
theorem dX8_cut_57 : decode cX8_cut 57 = .ok (.iconst 4, 1) := by decide +kernel
theorem dX8_cut_58 : decode cX8_cut 58 = .ok (.iload_n 1, 1) := by decide +kernel
theorem dX8_cut_59 : decode cX8_cut 59 = .ok (.imul, 1) := by decide +kernel
theorem dX8_cut_60 : decode cX8_cut 60 = .ok (.iload_n 2, 1) := by decide +kernel
theorem dX8_cut_61 : decode cX8_cut 61 = .ok (.iadd, 1) := by decide +kernel
theorem dX8_cut_62 : decode cX8_cut 62 = .ok (.imul, 1) := by decide +kernel
theorem dX8_cut_63 : decode cX8_cut 63 = .ok (.iload_n 3, 1) := by decide +kernel
theorem dX8_cut_64 : decode cX8_cut 64 = .ok (.iadd, 1) := by decide +kernel
theorem dX8_cut_65 : decode cX8_cut 65 = .ok (.istore 5, 2) := by decide +kernel
theorem dX8_cut_67 : decode cX8_cut 67 = .ok (.aload_n 0, 1) := by decide +kernel
theorem dX8_cut_68 : decode cX8_cut 68 = .ok (.iload_n 1, 1) := by decide +kernel
theorem dX8_cut_69 : decode cX8_cut 69 = .ok (.invokevirtual 121, 3) := by decide +kernel
theorem dX8_cut_72 : decode cX8_cut 72 = .ok (.ifCond .eq 25, 3) := by decide +kernel
theorem dX8_cut_75 : decode cX8_cut 75 = .ok (.sipush 1000, 3) := by decide +kernel
theorem dX8_cut_78 : decode cX8_cut 78 = .ok (.aload_n 0, 1) := by decide +kernel
theorem dX8_cut_79 : decode cX8_cut 79 = .ok (.getfield 67, 3) := by decide +kernel
theorem dX8_cut_82 : decode cX8_cut 82 = .ok (.iload 5, 2) := by decide +kernel
theorem dX8_cut_84 : decode cX8_cut 84 = .ok (.iaload, 1) := by decide +kernel
theorem dX8_cut_85 : decode cX8_cut 85 = .ok (.imul, 1) := by decide +kernel
theorem dX8_cut_86 : decode cX8_cut 86 = .ok (.aload_n 0, 1) := by decide +kernel
theorem dX8_cut_87 : decode cX8_cut 87 = .ok (.getfield 70, 3) := by decide +kernel
theorem dX8_cut_90 : decode cX8_cut 90 = .ok (.iload 5, 2) := by decide +kernel
theorem dX8_cut_92 : decode cX8_cut 92 = .ok (.iaload, 1) := by decide +kernel
theorem dX8_cut_93 : decode cX8_cut 93 = .ok (.iadd, 1) := by decide +kernel
theorem dX8_cut_94 : decode cX8_cut 94 = .ok (.goto 4, 3) := by decide +kernel
theorem dX8_cut_97 : decode cX8_cut 97 = .ok (.iconst (-1), 1) := by decide +kernel
theorem dX8_cut_98 : decode cX8_cut 98 = .ok (.ireturn, 1) := by decide +kernel
theorem dX8_seen_0 : decode cX8_seen 0 = .ok (.aload_n 0, 1) := by decide +kernel
theorem dX8_seen_1 : decode cX8_seen 1 = .ok (.iload_n 1, 1) := by decide +kernel
theorem dX8_seen_2 : decode cX8_seen 2 = .ok (.iload_n 2, 1) := by decide +kernel
theorem dX8_seen_3 : decode cX8_seen 3 = .ok (.invokevirtual 151, 3) := by decide +kernel
theorem dX8_seen_6 : decode cX8_seen 6 = .ok (.istore 5, 2) := by decide +kernel
theorem dX8_seen_8 : decode cX8_seen 8 = .ok (.iload 5, 2) := by decide +kernel
theorem dX8_seen_10 : decode cX8_seen 10 = .ok (.ifCond .eq 11, 3) := by decide +kernel
theorem dX8_seen_13 : decode cX8_seen 13 = .ok (.aload_n 0, 1) := by decide +kernel
theorem dX8_seen_14 : decode cX8_seen 14 = .ok (.iload_n 1, 1) := by decide +kernel
theorem dX8_seen_15 : decode cX8_seen 15 = .ok (.invokevirtual 121, 3) := by decide +kernel
theorem dX8_seen_18 : decode cX8_seen 18 = .ok (.ifCond .ne 29, 3) := by decide +kernel
theorem dX8_seen_21 : decode cX8_seen 21 = .ok (.aload_n 0, 1) := by decide +kernel
theorem dX8_seen_22 : decode cX8_seen 22 = .ok (.iload 5, 2) := by decide +kernel
theorem dX8_seen_24 : decode cX8_seen 24 = .ok (.ifCond .eq 7, 3) := by decide +kernel
theorem dX8_seen_27 : decode cX8_seen 27 = .ok (.iconst 0, 1) := by decide +kernel
theorem dX8_seen_28 : decode cX8_seen 28 = .ok (.goto 4, 3) := by decide +kernel
theorem dX8_seen_31 : decode cX8_seen 31 = .ok (.iconst 1, 1) := by decide +kernel
theorem dX8_seen_32 : decode cX8_seen 32 = .ok (.invokevirtual 84, 3) := by decide +kernel
theorem dX8_seen_35 : decode cX8_seen 35 = .ok (.pop, 1) := by decide +kernel
theorem dX8_seen_36 : decode cX8_seen 36 = .ok (.iload 5, 2) := by decide +kernel
theorem dX8_seen_38 : decode cX8_seen 38 = .ok (.ifCond .eq 7, 3) := by decide +kernel
theorem dX8_seen_41 : decode cX8_seen 41 = .ok (.iconst (-1), 1) := by decide +kernel
theorem dX8_seen_42 : decode cX8_seen 42 = .ok (.goto 4, 3) := by decide +kernel
theorem dX8_seen_45 : decode cX8_seen 45 = .ok (.iconst 0, 1) := by decide +kernel
theorem dX8_seen_46 : decode cX8_seen 46 = .ok (.ireturn, 1) := by decide +kernel
theorem dX8_seen_47 : decode cX8_seen 47 = .ok (.iconst 4, 1) := by decide +kernel
theorem dX8_seen_48 : decode cX8_seen 48 = .ok (.iload_n 1, 1) := by decide +kernel
theorem dX8_seen_49 : decode cX8_seen 49 = .ok (.imul, 1) := by decide +kernel
theorem dX8_seen_50 : decode cX8_seen 50 = .ok (.iload_n 2, 1) := by decide +kernel
theorem dX8_seen_51 : decode cX8_seen 51 = .ok (.iadd, 1) := by decide +kernel
theorem dX8_seen_52 : decode cX8_seen 52 = .ok (.istore 6, 2) := by decide +kernel
theorem dX8_seen_54 : decode cX8_seen 54 = .ok (.aload_n 0, 1) := by decide +kernel
theorem dX8_seen_55 : decode cX8_seen 55 = .ok (.getfield 31, 3) := by decide +kernel
theorem dX8_seen_58 : decode cX8_seen 58 = .ok (.aload_n 0, 1) := by decide +kernel
theorem dX8_seen_59 : decode cX8_seen 59 = .ok (.getfield 52, 3) := by decide +kernel
theorem dX8_seen_62 : decode cX8_seen 62 = .ok (.iload_n 1, 1) := by decide +kernel
theorem dX8_seen_63 : decode cX8_seen 63 = .ok (.iaload, 1) := by decide +kernel
theorem dX8_seen_64 : decode cX8_seen 64 = .ok (.iaload, 1) := by decide +kernel
theorem dX8_seen_65 : decode cX8_seen 65 = .ok (.istore 7, 2) := by decide +kernel
theorem dX8_seen_67 : decode cX8_seen 67 = .ok (.aload_n 0, 1) := by decide +kernel
theorem dX8_seen_68 : decode cX8_seen 68 = .ok (.aload_n 0, 1) := by decide +kernel
theorem dX8_seen_69 : decode cX8_seen 69 = .ok (.getfield 22, 3) := by decide +kernel
theorem dX8_seen_72 : decode cX8_seen 72 = .ok (.iload 7, 2) := by decide +kernel
theorem dX8_seen_74 : decode cX8_seen 74 = .ok (.iaload, 1) := by decide +kernel
theorem dX8_seen_75 : decode cX8_seen 75 = .ok (.invokevirtual 91, 3) := by decide +kernel
theorem dX8_seen_78 : decode cX8_seen 78 = .ok (.istore 8, 2) := by decide +kernel
theorem dX8_seen_80 : decode cX8_seen 80 = .ok (.aload_n 0, 1) := by decide +kernel
theorem dX8_seen_81 : decode cX8_seen 81 = .ok (.iload_n 3, 1) := by decide +kernel
theorem dX8_seen_82 : decode cX8_seen 82 = .ok (.iconst 0, 1) := by decide +kernel
theorem dX8_seen_83 : decode cX8_seen 83 = .ok (.aload_n 0, 1) := by decide +kernel
theorem dX8_seen_84 : decode cX8_seen 84 = .ok (.getfield 46, 3) := by decide +kernel
theorem dX8_seen_87 : decode cX8_seen 87 = .ok (.iload 6, 2) := by decide +kernel
theorem dX8_seen_89 : decode cX8_seen 89 = .ok (.iaload, 1) := by decide +kernel
theorem dX8_seen_90 : decode cX8_seen 90 = .ok (.iload 8, 2) := by decide +kernel
theorem dX8_seen_92 : decode cX8_seen 92 = .ok (.imul, 1) := by decide +kernel
theorem dX8_seen_93 : decode cX8_seen 93 = .ok (.iconst 1, 1) := by decide +kernel
theorem dX8_seen_94 : decode cX8_seen 94 = .ok (.isub, 1) := by decide +kernel
theorem dX8_seen_95 : decode cX8_seen 95 = .ok (.invokestatic 80, 3) := by decide +kernel
theorem dX8_seen_98 : decode cX8_seen 98 = .ok (.ifCond .eq 25, 3) := by decide +kernel
theorem dX8_seen_101 : decode cX8_seen 101 = .ok (.iload 4, 2) := by decide +kernel
theorem dX8_seen_103 : decode cX8_seen 103 = .ok (.iconst 0, 1) := by decide +kernel
theorem dX8_seen_104 : decode cX8_seen 104 = .ok (.aload_n 0, 1) := by decide +kernel
theorem dX8_seen_105 : decode cX8_seen 105 = .ok (.getfield 49, 3) := by decide +kernel
theorem dX8_seen_108 : decode cX8_seen 108 = .ok (.iload 6, 2) := by decide +kernel
theorem dX8_seen_110 : decode cX8_seen 110 = .ok (.iaload, 1) := by decide +kernel
theorem dX8_seen_111 : decode cX8_seen 111 = .ok (.iconst 1, 1) := by decide +kernel
theorem dX8_seen_112 : decode cX8_seen 112 = .ok (.isub, 1) := by decide +kernel
theorem dX8_seen_113 : decode cX8_seen 113 = .ok (.invokestatic 80, 3) := by decide +kernel
theorem dX8_seen_116 : decode cX8_seen 116 = .ok (.ifCond .eq 7, 3) := by decide +kernel
theorem dX8_seen_119 : decode cX8_seen 119 = .ok (.iconst 0, 1) := by decide +kernel
theorem dX8_seen_120 : decode cX8_seen 120 = .ok (.goto 4, 3) := by decide +kernel
theorem dX8_seen_123 : decode cX8_seen 123 = .ok (.iconst 1, 1) := by decide +kernel
theorem dX8_seen_124 : decode cX8_seen 124 = .ok (.invokevirtual 84, 3) := by decide +kernel
theorem dX8_seen_127 : decode cX8_seen 127 = .ok (.ifCond .eq 5, 3) := by decide +kernel
theorem dX8_seen_130 : decode cX8_seen 130 = .ok (.iconst 0, 1) := by decide +kernel
theorem dX8_seen_131 : decode cX8_seen 131 = .ok (.ireturn, 1) := by decide +kernel
theorem dX8_seen_132 : decode cX8_seen 132 = .ok (.aload_n 0, 1) := by decide +kernel
theorem dX8_seen_133 : decode cX8_seen 133 = .ok (.getfield 70, 3) := by decide +kernel
theorem dX8_seen_136 : decode cX8_seen 136 = .ok (.bipush 24, 2) := by decide +kernel
theorem dX8_seen_138 : decode cX8_seen 138 = .ok (.iload 6, 2) := by decide +kernel
theorem dX8_seen_140 : decode cX8_seen 140 = .ok (.imul, 1) := by decide +kernel
theorem dX8_seen_141 : decode cX8_seen 141 = .ok (.iload_n 3, 1) := by decide +kernel
theorem dX8_seen_142 : decode cX8_seen 142 = .ok (.iload 8, 2) := by decide +kernel
theorem dX8_seen_144 : decode cX8_seen 144 = .ok (.idiv, 1) := by decide +kernel
theorem dX8_seen_145 : decode cX8_seen 145 = .ok (.iadd, 1) := by decide +kernel
theorem dX8_seen_146 : decode cX8_seen 146 = .ok (.iaload, 1) := by decide +kernel
theorem dX8_seen_147 : decode cX8_seen 147 = .ok (.iload 4, 2) := by decide +kernel
theorem dX8_seen_149 : decode cX8_seen 149 = .ok (.iadd, 1) := by decide +kernel
theorem dX8_seen_150 : decode cX8_seen 150 = .ok (.istore 9, 2) := by decide +kernel
theorem dX8_seen_152 : decode cX8_seen 152 = .ok (.aload_n 0, 1) := by decide +kernel
theorem dX8_seen_153 : decode cX8_seen 153 = .ok (.getfield 28, 3) := by decide +kernel
theorem dX8_seen_156 : decode cX8_seen 156 = .ok (.bipush 100, 2) := by decide +kernel
theorem dX8_seen_158 : decode cX8_seen 158 = .ok (.iload 7, 2) := by decide +kernel
theorem dX8_seen_160 : decode cX8_seen 160 = .ok (.imul, 1) := by decide +kernel
theorem dX8_seen_161 : decode cX8_seen 161 = .ok (.bipush 10, 2) := by decide +kernel
theorem dX8_seen_163 : decode cX8_seen 163 = .ok (.iload 9, 2) := by decide +kernel
theorem dX8_seen_165 : decode cX8_seen 165 = .ok (.aload_n 0, 1) := by decide +kernel
theorem dX8_seen_166 : decode cX8_seen 166 = .ok (.aload_n 0, 1) := by decide +kernel
theorem dX8_seen_167 : decode cX8_seen 167 = .ok (.getfield 22, 3) := by decide +kernel
theorem dX8_seen_170 : decode cX8_seen 170 = .ok (.iload 7, 2) := by decide +kernel
theorem dX8_seen_172 : decode cX8_seen 172 = .ok (.iaload, 1) := by decide +kernel
theorem dX8_seen_173 : decode cX8_seen 173 = .ok (.invokevirtual 99, 3) := by decide +kernel
theorem dX8_seen_176 : decode cX8_seen 176 = .ok (.irem, 1) := by decide +kernel
theorem dX8_seen_177 : decode cX8_seen 177 = .ok (.imul, 1) := by decide +kernel
theorem dX8_seen_178 : decode cX8_seen 178 = .ok (.iadd, 1) := by decide +kernel
theorem dX8_seen_179 : decode cX8_seen 179 = .ok (.iload_n 3, 1) := by decide +kernel
theorem dX8_seen_180 : decode cX8_seen 180 = .ok (.iload 8, 2) := by decide +kernel
theorem dX8_seen_182 : decode cX8_seen 182 = .ok (.irem, 1) := by decide +kernel
theorem dX8_seen_183 : decode cX8_seen 183 = .ok (.iadd, 1) := by decide +kernel
theorem dX8_seen_184 : decode cX8_seen 184 = .ok (.iaload, 1) := by decide +kernel
theorem dX8_seen_185 : decode cX8_seen 185 = .ok (.ireturn, 1) := by decide +kernel
theorem dX8_lost_0 : decode cX8_lost 0 = .ok (.aload_n 0, 1) := by decide +kernel
theorem dX8_lost_1 : decode cX8_lost 1 = .ok (.iconst 0, 1) := by decide +kernel
theorem dX8_lost_2 : decode cX8_lost 2 = .ok (.putfield 73, 3) := by decide +kernel
theorem dX8_lost_5 : decode cX8_lost 5 = .ok (.aload_n 0, 1) := by decide +kernel
theorem dX8_lost_6 : decode cX8_lost 6 = .ok (.getfield 148, 3) := by decide +kernel
theorem dX8_lost_9 : decode cX8_lost 9 = .ok (.ireturn, 1) := by decide +kernel
theorem dJ9_max_7cf53_0 : decode cJ9_max_7cf53 0 = .ok (.iload_n 0, 1) := by decide +kernel
theorem dJ9_max_7cf53_1 : decode cJ9_max_7cf53 1 = .ok (.iload_n 1, 1) := by decide +kernel
theorem dJ9_max_7cf53_2 : decode cJ9_max_7cf53 2 = .ok (.if_icmp .lt 7, 3) := by decide +kernel
theorem dJ9_max_7cf53_5 : decode cJ9_max_7cf53 5 = .ok (.iload_n 0, 1) := by decide +kernel
theorem dJ9_max_7cf53_6 : decode cJ9_max_7cf53 6 = .ok (.goto 4, 3) := by decide +kernel
theorem dJ9_max_7cf53_9 : decode cJ9_max_7cf53 9 = .ok (.iload_n 1, 1) := by decide +kernel
theorem dJ9_max_7cf53_10 : decode cJ9_max_7cf53 10 = .ok (.ireturn, 1) := by decide +kernel
theorem dL_pattern_0 : decode cL_pattern 0 = .ok (.aload 4, 2) := by decide +kernel
theorem dL_pattern_2 : decode cL_pattern 2 = .ok (.iconst 0, 1) := by decide +kernel
theorem dL_pattern_3 : decode cL_pattern 3 = .ok (.aload_n 0, 1) := by decide +kernel
theorem dL_pattern_4 : decode cL_pattern 4 = .ok (.iload_n 1, 1) := by decide +kernel
theorem dL_pattern_5 : decode cL_pattern 5 = .ok (.iload_n 2, 1) := by decide +kernel
theorem dL_pattern_6 : decode cL_pattern 6 = .ok (.iload_n 3, 1) := by decide +kernel
theorem dL_pattern_7 : decode cL_pattern 7 = .ok (.invokevirtual 7, 3) := by decide +kernel
theorem dL_pattern_10 : decode cL_pattern 10 = .ok (.i2l, 1) := by decide +kernel
theorem dL_pattern_11 : decode cL_pattern 11 = .ok (.lastore, 1) := by decide +kernel
theorem dL_pattern_12 : decode cL_pattern 12 = .ok (.goto 11, 3) := by decide +kernel
theorem dL_pattern_15 : decode cL_pattern 15 = .ok (.astore 5, 2) := by decide +kernel
theorem dL_pattern_17 : decode cL_pattern 17 = .ok (.iconst 1, 1) := by decide +kernel
theorem dL_pattern_18 : decode cL_pattern 18 = .ok (.ireturn, 1) := by decide +kernel
theorem dL_pattern_19 : decode cL_pattern 19 = .ok (.astore 5, 2) := by decide +kernel
theorem dL_pattern_21 : decode cL_pattern 21 = .ok (.iconst 2, 1) := by decide +kernel
theorem dL_pattern_22 : decode cL_pattern 22 = .ok (.ireturn, 1) := by decide +kernel
theorem dL_pattern_23 : decode cL_pattern 23 = .ok (.iconst 0, 1) := by decide +kernel
theorem dL_pattern_24 : decode cL_pattern 24 = .ok (.ireturn, 1) := by decide +kernel
theorem dL_paint_0 : decode cL_paint 0 = .ok (.aload 5, 2) := by decide +kernel
theorem dL_paint_2 : decode cL_paint 2 = .ok (.iconst 0, 1) := by decide +kernel
theorem dL_paint_3 : decode cL_paint 3 = .ok (.aload_n 0, 1) := by decide +kernel
theorem dL_paint_4 : decode cL_paint 4 = .ok (.iload_n 1, 1) := by decide +kernel
theorem dL_paint_5 : decode cL_paint 5 = .ok (.iload_n 2, 1) := by decide +kernel
theorem dL_paint_6 : decode cL_paint 6 = .ok (.iload_n 3, 1) := by decide +kernel
theorem dL_paint_7 : decode cL_paint 7 = .ok (.iload 4, 2) := by decide +kernel
theorem dL_paint_9 : decode cL_paint 9 = .ok (.invokevirtual 17, 3) := by decide +kernel
theorem dL_paint_12 : decode cL_paint 12 = .ok (.i2l, 1) := by decide +kernel
theorem dL_paint_13 : decode cL_paint 13 = .ok (.lastore, 1) := by decide +kernel
theorem dL_paint_14 : decode cL_paint 14 = .ok (.goto 11, 3) := by decide +kernel
theorem dL_paint_17 : decode cL_paint 17 = .ok (.astore 6, 2) := by decide +kernel
theorem dL_paint_19 : decode cL_paint 19 = .ok (.iconst 1, 1) := by decide +kernel
theorem dL_paint_20 : decode cL_paint 20 = .ok (.ireturn, 1) := by decide +kernel
theorem dL_paint_21 : decode cL_paint 21 = .ok (.astore 6, 2) := by decide +kernel
theorem dL_paint_23 : decode cL_paint 23 = .ok (.iconst 2, 1) := by decide +kernel
theorem dL_paint_24 : decode cL_paint 24 = .ok (.ireturn, 1) := by decide +kernel
theorem dL_paint_25 : decode cL_paint 25 = .ok (.iconst 0, 1) := by decide +kernel
theorem dL_paint_26 : decode cL_paint 26 = .ok (.ireturn, 1) := by decide +kernel
theorem dL_colour_0 : decode cL_colour 0 = .ok (.aload 4, 2) := by decide +kernel
theorem dL_colour_2 : decode cL_colour 2 = .ok (.iconst 0, 1) := by decide +kernel
theorem dL_colour_3 : decode cL_colour 3 = .ok (.aload_n 0, 1) := by decide +kernel
theorem dL_colour_4 : decode cL_colour 4 = .ok (.iload_n 1, 1) := by decide +kernel
theorem dL_colour_5 : decode cL_colour 5 = .ok (.iload_n 2, 1) := by decide +kernel
theorem dL_colour_6 : decode cL_colour 6 = .ok (.iload_n 3, 1) := by decide +kernel
theorem dL_colour_7 : decode cL_colour 7 = .ok (.invokevirtual 23, 3) := by decide +kernel
theorem dL_colour_10 : decode cL_colour 10 = .ok (.i2l, 1) := by decide +kernel
theorem dL_colour_11 : decode cL_colour 11 = .ok (.lastore, 1) := by decide +kernel
theorem dL_colour_12 : decode cL_colour 12 = .ok (.goto 7, 3) := by decide +kernel
theorem dL_colour_15 : decode cL_colour 15 = .ok (.astore 5, 2) := by decide +kernel
theorem dL_colour_17 : decode cL_colour 17 = .ok (.iconst 1, 1) := by decide +kernel
theorem dL_colour_18 : decode cL_colour 18 = .ok (.ireturn, 1) := by decide +kernel
theorem dL_colour_19 : decode cL_colour 19 = .ok (.iconst 0, 1) := by decide +kernel
theorem dL_colour_20 : decode cL_colour 20 = .ok (.ireturn, 1) := by decide +kernel
theorem dL_repeat_0 : decode cL_repeat 0 = .ok (.aload_n 3, 1) := by decide +kernel
theorem dL_repeat_1 : decode cL_repeat 1 = .ok (.iconst 0, 1) := by decide +kernel
theorem dL_repeat_2 : decode cL_repeat 2 = .ok (.aload_n 0, 1) := by decide +kernel
theorem dL_repeat_3 : decode cL_repeat 3 = .ok (.iload_n 1, 1) := by decide +kernel
theorem dL_repeat_4 : decode cL_repeat 4 = .ok (.iload_n 2, 1) := by decide +kernel
theorem dL_repeat_5 : decode cL_repeat 5 = .ok (.invokevirtual 26, 3) := by decide +kernel
theorem dL_repeat_8 : decode cL_repeat 8 = .ok (.i2l, 1) := by decide +kernel
theorem dL_repeat_9 : decode cL_repeat 9 = .ok (.lastore, 1) := by decide +kernel
theorem dL_repeat_10 : decode cL_repeat 10 = .ok (.goto 7, 3) := by decide +kernel
theorem dL_repeat_13 : decode cL_repeat 13 = .ok (.astore 4, 2) := by decide +kernel
theorem dL_repeat_15 : decode cL_repeat 15 = .ok (.iconst 1, 1) := by decide +kernel
theorem dL_repeat_16 : decode cL_repeat 16 = .ok (.ireturn, 1) := by decide +kernel
theorem dL_repeat_17 : decode cL_repeat 17 = .ok (.iconst 0, 1) := by decide +kernel
theorem dL_repeat_18 : decode cL_repeat 18 = .ok (.ireturn, 1) := by decide +kernel
theorem dL_repeatAnew_0 : decode cL_repeatAnew 0 = .ok (.aload_n 3, 1) := by decide +kernel
theorem dL_repeatAnew_1 : decode cL_repeatAnew 1 = .ok (.iconst 0, 1) := by decide +kernel
theorem dL_repeatAnew_2 : decode cL_repeatAnew 2 = .ok (.aload_n 0, 1) := by decide +kernel
theorem dL_repeatAnew_3 : decode cL_repeatAnew 3 = .ok (.iload_n 1, 1) := by decide +kernel
theorem dL_repeatAnew_4 : decode cL_repeatAnew 4 = .ok (.iload_n 2, 1) := by decide +kernel
theorem dL_repeatAnew_5 : decode cL_repeatAnew 5 = .ok (.invokevirtual 30, 3) := by decide +kernel
theorem dL_repeatAnew_8 : decode cL_repeatAnew 8 = .ok (.i2l, 1) := by decide +kernel
theorem dL_repeatAnew_9 : decode cL_repeatAnew 9 = .ok (.lastore, 1) := by decide +kernel
theorem dL_repeatAnew_10 : decode cL_repeatAnew 10 = .ok (.goto 7, 3) := by decide +kernel
theorem dL_repeatAnew_13 : decode cL_repeatAnew 13 = .ok (.astore 4, 2) := by decide +kernel
theorem dL_repeatAnew_15 : decode cL_repeatAnew 15 = .ok (.iconst 1, 1) := by decide +kernel
theorem dL_repeatAnew_16 : decode cL_repeatAnew 16 = .ok (.ireturn, 1) := by decide +kernel
theorem dL_repeatAnew_17 : decode cL_repeatAnew 17 = .ok (.iconst 0, 1) := by decide +kernel
theorem dL_repeatAnew_18 : decode cL_repeatAnew 18 = .ok (.ireturn, 1) := by decide +kernel
theorem dL_roller_0 : decode cL_roller 0 = .ok (.aload_n 3, 1) := by decide +kernel
theorem dL_roller_1 : decode cL_roller 1 = .ok (.iconst 0, 1) := by decide +kernel
theorem dL_roller_2 : decode cL_roller 2 = .ok (.aload_n 0, 1) := by decide +kernel
theorem dL_roller_3 : decode cL_roller 3 = .ok (.iload_n 1, 1) := by decide +kernel
theorem dL_roller_4 : decode cL_roller 4 = .ok (.iload_n 2, 1) := by decide +kernel
theorem dL_roller_5 : decode cL_roller 5 = .ok (.invokevirtual 33, 3) := by decide +kernel
theorem dL_roller_8 : decode cL_roller 8 = .ok (.i2l, 1) := by decide +kernel
theorem dL_roller_9 : decode cL_roller 9 = .ok (.lastore, 1) := by decide +kernel
theorem dL_roller_10 : decode cL_roller 10 = .ok (.goto 15, 3) := by decide +kernel
theorem dL_roller_13 : decode cL_roller 13 = .ok (.astore 4, 2) := by decide +kernel
theorem dL_roller_15 : decode cL_roller 15 = .ok (.iconst 1, 1) := by decide +kernel
theorem dL_roller_16 : decode cL_roller 16 = .ok (.ireturn, 1) := by decide +kernel
theorem dL_roller_17 : decode cL_roller 17 = .ok (.astore 4, 2) := by decide +kernel
theorem dL_roller_19 : decode cL_roller 19 = .ok (.iconst 2, 1) := by decide +kernel
theorem dL_roller_20 : decode cL_roller 20 = .ok (.ireturn, 1) := by decide +kernel
theorem dL_roller_21 : decode cL_roller 21 = .ok (.astore 4, 2) := by decide +kernel
theorem dL_roller_23 : decode cL_roller 23 = .ok (.iconst 3, 1) := by decide +kernel
theorem dL_roller_24 : decode cL_roller 24 = .ok (.ireturn, 1) := by decide +kernel
theorem dL_roller_25 : decode cL_roller 25 = .ok (.iconst 0, 1) := by decide +kernel
theorem dL_roller_26 : decode cL_roller 26 = .ok (.ireturn, 1) := by decide +kernel
theorem dL_lot_0 : decode cL_lot 0 = .ok (.aload 5, 2) := by decide +kernel
theorem dL_lot_2 : decode cL_lot 2 = .ok (.iconst 0, 1) := by decide +kernel
theorem dL_lot_3 : decode cL_lot 3 = .ok (.aload_n 0, 1) := by decide +kernel
theorem dL_lot_4 : decode cL_lot 4 = .ok (.iload_n 1, 1) := by decide +kernel
theorem dL_lot_5 : decode cL_lot 5 = .ok (.iload_n 2, 1) := by decide +kernel
theorem dL_lot_6 : decode cL_lot 6 = .ok (.iload_n 3, 1) := by decide +kernel
theorem dL_lot_7 : decode cL_lot 7 = .ok (.iload 4, 2) := by decide +kernel
theorem dL_lot_9 : decode cL_lot 9 = .ok (.invokevirtual 37, 3) := by decide +kernel
theorem dL_lot_12 : decode cL_lot 12 = .ok (.i2l, 1) := by decide +kernel
theorem dL_lot_13 : decode cL_lot 13 = .ok (.lastore, 1) := by decide +kernel
theorem dL_lot_14 : decode cL_lot 14 = .ok (.goto 15, 3) := by decide +kernel
theorem dL_lot_17 : decode cL_lot 17 = .ok (.astore 6, 2) := by decide +kernel
theorem dL_lot_19 : decode cL_lot 19 = .ok (.iconst 1, 1) := by decide +kernel
theorem dL_lot_20 : decode cL_lot 20 = .ok (.ireturn, 1) := by decide +kernel
theorem dL_lot_21 : decode cL_lot 21 = .ok (.astore 6, 2) := by decide +kernel
theorem dL_lot_23 : decode cL_lot 23 = .ok (.iconst 2, 1) := by decide +kernel
theorem dL_lot_24 : decode cL_lot 24 = .ok (.ireturn, 1) := by decide +kernel
theorem dL_lot_25 : decode cL_lot 25 = .ok (.astore 6, 2) := by decide +kernel
theorem dL_lot_27 : decode cL_lot 27 = .ok (.iconst 3, 1) := by decide +kernel
theorem dL_lot_28 : decode cL_lot 28 = .ok (.ireturn, 1) := by decide +kernel
theorem dL_lot_29 : decode cL_lot 29 = .ok (.iconst 0, 1) := by decide +kernel
theorem dL_lot_30 : decode cL_lot 30 = .ok (.ireturn, 1) := by decide +kernel
theorem dL_lotOf_0 : decode cL_lotOf 0 = .ok (.aload_n 3, 1) := by decide +kernel
theorem dL_lotOf_1 : decode cL_lotOf 1 = .ok (.iconst 0, 1) := by decide +kernel
theorem dL_lotOf_2 : decode cL_lotOf 2 = .ok (.aload_n 0, 1) := by decide +kernel
theorem dL_lotOf_3 : decode cL_lotOf 3 = .ok (.iload_n 1, 1) := by decide +kernel
theorem dL_lotOf_4 : decode cL_lotOf 4 = .ok (.iload_n 2, 1) := by decide +kernel
theorem dL_lotOf_5 : decode cL_lotOf 5 = .ok (.invokevirtual 40, 3) := by decide +kernel
theorem dL_lotOf_8 : decode cL_lotOf 8 = .ok (.i2l, 1) := by decide +kernel
theorem dL_lotOf_9 : decode cL_lotOf 9 = .ok (.lastore, 1) := by decide +kernel
theorem dL_lotOf_10 : decode cL_lotOf 10 = .ok (.goto 11, 3) := by decide +kernel
theorem dL_lotOf_13 : decode cL_lotOf 13 = .ok (.astore 4, 2) := by decide +kernel
theorem dL_lotOf_15 : decode cL_lotOf 15 = .ok (.iconst 1, 1) := by decide +kernel
theorem dL_lotOf_16 : decode cL_lotOf 16 = .ok (.ireturn, 1) := by decide +kernel
theorem dL_lotOf_17 : decode cL_lotOf 17 = .ok (.astore 4, 2) := by decide +kernel
theorem dL_lotOf_19 : decode cL_lotOf 19 = .ok (.iconst 2, 1) := by decide +kernel
theorem dL_lotOf_20 : decode cL_lotOf 20 = .ok (.ireturn, 1) := by decide +kernel
theorem dL_lotOf_21 : decode cL_lotOf 21 = .ok (.iconst 0, 1) := by decide +kernel
theorem dL_lotOf_22 : decode cL_lotOf 22 = .ok (.ireturn, 1) := by decide +kernel
theorem dL_wall_0 : decode cL_wall 0 = .ok (.aload 4, 2) := by decide +kernel
theorem dL_wall_2 : decode cL_wall 2 = .ok (.iconst 0, 1) := by decide +kernel
theorem dL_wall_3 : decode cL_wall 3 = .ok (.aload_n 0, 1) := by decide +kernel
theorem dL_wall_4 : decode cL_wall 4 = .ok (.iload_n 1, 1) := by decide +kernel
theorem dL_wall_5 : decode cL_wall 5 = .ok (.iload_n 2, 1) := by decide +kernel
theorem dL_wall_6 : decode cL_wall 6 = .ok (.iload_n 3, 1) := by decide +kernel
theorem dL_wall_7 : decode cL_wall 7 = .ok (.invokevirtual 43, 3) := by decide +kernel
theorem dL_wall_10 : decode cL_wall 10 = .ok (.i2l, 1) := by decide +kernel
theorem dL_wall_11 : decode cL_wall 11 = .ok (.lastore, 1) := by decide +kernel
theorem dL_wall_12 : decode cL_wall 12 = .ok (.goto 15, 3) := by decide +kernel
theorem dL_wall_15 : decode cL_wall 15 = .ok (.astore 5, 2) := by decide +kernel
theorem dL_wall_17 : decode cL_wall 17 = .ok (.iconst 1, 1) := by decide +kernel
theorem dL_wall_18 : decode cL_wall 18 = .ok (.ireturn, 1) := by decide +kernel
theorem dL_wall_19 : decode cL_wall 19 = .ok (.astore 5, 2) := by decide +kernel
theorem dL_wall_21 : decode cL_wall 21 = .ok (.iconst 2, 1) := by decide +kernel
theorem dL_wall_22 : decode cL_wall 22 = .ok (.ireturn, 1) := by decide +kernel
theorem dL_wall_23 : decode cL_wall 23 = .ok (.astore 5, 2) := by decide +kernel
theorem dL_wall_25 : decode cL_wall 25 = .ok (.iconst 3, 1) := by decide +kernel
theorem dL_wall_26 : decode cL_wall 26 = .ok (.ireturn, 1) := by decide +kernel
theorem dL_wall_27 : decode cL_wall 27 = .ok (.iconst 0, 1) := by decide +kernel
theorem dL_wall_28 : decode cL_wall 28 = .ok (.ireturn, 1) := by decide +kernel
theorem dL_hang_0 : decode cL_hang 0 = .ok (.aload_n 3, 1) := by decide +kernel
theorem dL_hang_1 : decode cL_hang 1 = .ok (.iconst 0, 1) := by decide +kernel
theorem dL_hang_2 : decode cL_hang 2 = .ok (.aload_n 0, 1) := by decide +kernel
theorem dL_hang_3 : decode cL_hang 3 = .ok (.iload_n 1, 1) := by decide +kernel
theorem dL_hang_4 : decode cL_hang 4 = .ok (.iload_n 2, 1) := by decide +kernel
theorem dL_hang_5 : decode cL_hang 5 = .ok (.invokevirtual 46, 3) := by decide +kernel
theorem dL_hang_8 : decode cL_hang 8 = .ok (.i2l, 1) := by decide +kernel
theorem dL_hang_9 : decode cL_hang 9 = .ok (.lastore, 1) := by decide +kernel
theorem dL_hang_10 : decode cL_hang 10 = .ok (.goto 11, 3) := by decide +kernel
theorem dL_hang_13 : decode cL_hang 13 = .ok (.astore 4, 2) := by decide +kernel
theorem dL_hang_15 : decode cL_hang 15 = .ok (.iconst 1, 1) := by decide +kernel
theorem dL_hang_16 : decode cL_hang 16 = .ok (.ireturn, 1) := by decide +kernel
theorem dL_hang_17 : decode cL_hang 17 = .ok (.astore 4, 2) := by decide +kernel
theorem dL_hang_19 : decode cL_hang 19 = .ok (.iconst 2, 1) := by decide +kernel
theorem dL_hang_20 : decode cL_hang 20 = .ok (.ireturn, 1) := by decide +kernel
theorem dL_hang_21 : decode cL_hang 21 = .ok (.iconst 0, 1) := by decide +kernel
theorem dL_hang_22 : decode cL_hang 22 = .ok (.ireturn, 1) := by decide +kernel
theorem dL_lengthen_0 : decode cL_lengthen 0 = .ok (.aload 4, 2) := by decide +kernel
theorem dL_lengthen_2 : decode cL_lengthen 2 = .ok (.iconst 0, 1) := by decide +kernel
theorem dL_lengthen_3 : decode cL_lengthen 3 = .ok (.aload_n 0, 1) := by decide +kernel
theorem dL_lengthen_4 : decode cL_lengthen 4 = .ok (.iload_n 1, 1) := by decide +kernel
theorem dL_lengthen_5 : decode cL_lengthen 5 = .ok (.iload_n 2, 1) := by decide +kernel
theorem dL_lengthen_6 : decode cL_lengthen 6 = .ok (.iload_n 3, 1) := by decide +kernel
theorem dL_lengthen_7 : decode cL_lengthen 7 = .ok (.invokevirtual 49, 3) := by decide +kernel
theorem dL_lengthen_10 : decode cL_lengthen 10 = .ok (.i2l, 1) := by decide +kernel
theorem dL_lengthen_11 : decode cL_lengthen 11 = .ok (.lastore, 1) := by decide +kernel
theorem dL_lengthen_12 : decode cL_lengthen 12 = .ok (.goto 15, 3) := by decide +kernel
theorem dL_lengthen_15 : decode cL_lengthen 15 = .ok (.astore 5, 2) := by decide +kernel
theorem dL_lengthen_17 : decode cL_lengthen 17 = .ok (.iconst 1, 1) := by decide +kernel
theorem dL_lengthen_18 : decode cL_lengthen 18 = .ok (.ireturn, 1) := by decide +kernel
theorem dL_lengthen_19 : decode cL_lengthen 19 = .ok (.astore 5, 2) := by decide +kernel
theorem dL_lengthen_21 : decode cL_lengthen 21 = .ok (.iconst 2, 1) := by decide +kernel
theorem dL_lengthen_22 : decode cL_lengthen 22 = .ok (.ireturn, 1) := by decide +kernel
theorem dL_lengthen_23 : decode cL_lengthen 23 = .ok (.astore 5, 2) := by decide +kernel
theorem dL_lengthen_25 : decode cL_lengthen 25 = .ok (.iconst 3, 1) := by decide +kernel
theorem dL_lengthen_26 : decode cL_lengthen 26 = .ok (.ireturn, 1) := by decide +kernel
theorem dL_lengthen_27 : decode cL_lengthen 27 = .ok (.iconst 0, 1) := by decide +kernel
theorem dL_lengthen_28 : decode cL_lengthen 28 = .ok (.ireturn, 1) := by decide +kernel
theorem dL_strip_0 : decode cL_strip 0 = .ok (.aload_n 2, 1) := by decide +kernel
theorem dL_strip_1 : decode cL_strip 1 = .ok (.iconst 0, 1) := by decide +kernel
theorem dL_strip_2 : decode cL_strip 2 = .ok (.aload_n 0, 1) := by decide +kernel
theorem dL_strip_3 : decode cL_strip 3 = .ok (.iload_n 1, 1) := by decide +kernel
theorem dL_strip_4 : decode cL_strip 4 = .ok (.invokevirtual 52, 3) := by decide +kernel
theorem dL_strip_7 : decode cL_strip 7 = .ok (.i2l, 1) := by decide +kernel
theorem dL_strip_8 : decode cL_strip 8 = .ok (.lastore, 1) := by decide +kernel
theorem dL_strip_9 : decode cL_strip 9 = .ok (.goto 9, 3) := by decide +kernel
theorem dL_strip_12 : decode cL_strip 12 = .ok (.astore_n 3, 1) := by decide +kernel
theorem dL_strip_13 : decode cL_strip 13 = .ok (.iconst 1, 1) := by decide +kernel
theorem dL_strip_14 : decode cL_strip 14 = .ok (.ireturn, 1) := by decide +kernel
theorem dL_strip_15 : decode cL_strip 15 = .ok (.astore_n 3, 1) := by decide +kernel
theorem dL_strip_16 : decode cL_strip 16 = .ok (.iconst 2, 1) := by decide +kernel
theorem dL_strip_17 : decode cL_strip 17 = .ok (.ireturn, 1) := by decide +kernel
theorem dL_strip_18 : decode cL_strip 18 = .ok (.iconst 0, 1) := by decide +kernel
theorem dL_strip_19 : decode cL_strip 19 = .ok (.ireturn, 1) := by decide +kernel
theorem dL_room_0 : decode cL_room 0 = .ok (.aload_n 3, 1) := by decide +kernel
theorem dL_room_1 : decode cL_room 1 = .ok (.iconst 0, 1) := by decide +kernel
theorem dL_room_2 : decode cL_room 2 = .ok (.aload_n 0, 1) := by decide +kernel
theorem dL_room_3 : decode cL_room 3 = .ok (.iload_n 1, 1) := by decide +kernel
theorem dL_room_4 : decode cL_room 4 = .ok (.iload_n 2, 1) := by decide +kernel
theorem dL_room_5 : decode cL_room 5 = .ok (.invokevirtual 56, 3) := by decide +kernel
theorem dL_room_8 : decode cL_room 8 = .ok (.i2l, 1) := by decide +kernel
theorem dL_room_9 : decode cL_room 9 = .ok (.lastore, 1) := by decide +kernel
theorem dL_room_10 : decode cL_room 10 = .ok (.goto 11, 3) := by decide +kernel
theorem dL_room_13 : decode cL_room 13 = .ok (.astore 4, 2) := by decide +kernel
theorem dL_room_15 : decode cL_room 15 = .ok (.iconst 1, 1) := by decide +kernel
theorem dL_room_16 : decode cL_room 16 = .ok (.ireturn, 1) := by decide +kernel
theorem dL_room_17 : decode cL_room 17 = .ok (.astore 4, 2) := by decide +kernel
theorem dL_room_19 : decode cL_room 19 = .ok (.iconst 2, 1) := by decide +kernel
theorem dL_room_20 : decode cL_room 20 = .ok (.ireturn, 1) := by decide +kernel
theorem dL_room_21 : decode cL_room 21 = .ok (.iconst 0, 1) := by decide +kernel
theorem dL_room_22 : decode cL_room 22 = .ok (.ireturn, 1) := by decide +kernel
theorem dL_cut_0 : decode cL_cut 0 = .ok (.aload 4, 2) := by decide +kernel
theorem dL_cut_2 : decode cL_cut 2 = .ok (.iconst 0, 1) := by decide +kernel
theorem dL_cut_3 : decode cL_cut 3 = .ok (.aload_n 0, 1) := by decide +kernel
theorem dL_cut_4 : decode cL_cut 4 = .ok (.iload_n 1, 1) := by decide +kernel
theorem dL_cut_5 : decode cL_cut 5 = .ok (.iload_n 2, 1) := by decide +kernel
theorem dL_cut_6 : decode cL_cut 6 = .ok (.iload_n 3, 1) := by decide +kernel
theorem dL_cut_7 : decode cL_cut 7 = .ok (.invokevirtual 59, 3) := by decide +kernel
theorem dL_cut_10 : decode cL_cut 10 = .ok (.i2l, 1) := by decide +kernel
theorem dL_cut_11 : decode cL_cut 11 = .ok (.lastore, 1) := by decide +kernel
theorem dL_cut_12 : decode cL_cut 12 = .ok (.goto 7, 3) := by decide +kernel
theorem dL_cut_15 : decode cL_cut 15 = .ok (.astore 5, 2) := by decide +kernel
theorem dL_cut_17 : decode cL_cut 17 = .ok (.iconst 1, 1) := by decide +kernel
theorem dL_cut_18 : decode cL_cut 18 = .ok (.ireturn, 1) := by decide +kernel
theorem dL_cut_19 : decode cL_cut 19 = .ok (.iconst 0, 1) := by decide +kernel
theorem dL_cut_20 : decode cL_cut 20 = .ok (.ireturn, 1) := by decide +kernel
theorem dL_seen_0 : decode cL_seen 0 = .ok (.aload 5, 2) := by decide +kernel
theorem dL_seen_2 : decode cL_seen 2 = .ok (.iconst 0, 1) := by decide +kernel
theorem dL_seen_3 : decode cL_seen 3 = .ok (.aload_n 0, 1) := by decide +kernel
theorem dL_seen_4 : decode cL_seen 4 = .ok (.iload_n 1, 1) := by decide +kernel
theorem dL_seen_5 : decode cL_seen 5 = .ok (.iload_n 2, 1) := by decide +kernel
theorem dL_seen_6 : decode cL_seen 6 = .ok (.iload_n 3, 1) := by decide +kernel
theorem dL_seen_7 : decode cL_seen 7 = .ok (.iload 4, 2) := by decide +kernel
theorem dL_seen_9 : decode cL_seen 9 = .ok (.invokevirtual 62, 3) := by decide +kernel
theorem dL_seen_12 : decode cL_seen 12 = .ok (.i2l, 1) := by decide +kernel
theorem dL_seen_13 : decode cL_seen 13 = .ok (.lastore, 1) := by decide +kernel
theorem dL_seen_14 : decode cL_seen 14 = .ok (.goto 7, 3) := by decide +kernel
theorem dL_seen_17 : decode cL_seen 17 = .ok (.astore 6, 2) := by decide +kernel
theorem dL_seen_19 : decode cL_seen 19 = .ok (.iconst 1, 1) := by decide +kernel
theorem dL_seen_20 : decode cL_seen 20 = .ok (.ireturn, 1) := by decide +kernel
theorem dL_seen_21 : decode cL_seen 21 = .ok (.iconst 0, 1) := by decide +kernel
theorem dL_seen_22 : decode cL_seen 22 = .ok (.ireturn, 1) := by decide +kernel
theorem dL_law_0 : decode cL_law 0 = .ok (.new 8, 3) := by decide +kernel
theorem dL_law_3 : decode cL_law 3 = .ok (.dup, 1) := by decide +kernel
theorem dL_law_4 : decode cL_law 4 = .ok (.invokespecial 65, 3) := by decide +kernel
theorem dL_law_7 : decode cL_law 7 = .ok (.astore_n 1, 1) := by decide +kernel
theorem dL_law_8 : decode cL_law 8 = .ok (.new 66, 3) := by decide +kernel
theorem dL_law_11 : decode cL_law 11 = .ok (.dup, 1) := by decide +kernel
theorem dL_law_12 : decode cL_law 12 = .ok (.invokespecial 68, 3) := by decide +kernel
theorem dL_law_15 : decode cL_law 15 = .ok (.astore_n 2, 1) := by decide +kernel
theorem dL_law_16 : decode cL_law 16 = .ok (.iconst 1, 1) := by decide +kernel
theorem dL_law_17 : decode cL_law 17 = .ok (.newarray .long, 2) := by decide +kernel
theorem dL_law_19 : decode cL_law 19 = .ok (.astore_n 3, 1) := by decide +kernel
theorem dL_law_20 : decode cL_law 20 = .ok (.iconst 0, 1) := by decide +kernel
theorem dL_law_21 : decode cL_law 21 = .ok (.istore 4, 2) := by decide +kernel
theorem dL_law_23 : decode cL_law 23 = .ok (.iload 4, 2) := by decide +kernel
theorem dL_law_25 : decode cL_law 25 = .ok (.aload_n 0, 1) := by decide +kernel
theorem dL_law_26 : decode cL_law 26 = .ok (.arraylength, 1) := by decide +kernel
theorem dL_law_27 : decode cL_law 27 = .ok (.iconst 5, 1) := by decide +kernel
theorem dL_law_28 : decode cL_law 28 = .ok (.isub, 1) := by decide +kernel
theorem dL_law_29 : decode cL_law 29 = .ok (.if_icmp .gt 1278, 3) := by decide +kernel
theorem dL_law_32 : decode cL_law 32 = .ok (.aload_n 0, 1) := by decide +kernel
theorem dL_law_33 : decode cL_law 33 = .ok (.iload 4, 2) := by decide +kernel
theorem dL_law_35 : decode cL_law 35 = .ok (.iaload, 1) := by decide +kernel
theorem dL_law_36 : decode cL_law 36 = .ok (.bipush 15, 2) := by decide +kernel
theorem dL_law_38 : decode cL_law 38 = .ok (.iand, 1) := by decide +kernel
theorem dL_law_39 : decode cL_law 39 = .ok (.tableswitch 1262 0 15 #[77, 157, 249, 329, 413, 497, 565, 657, 725, 805, 873, 953, 1009, 1077, 1157, 1249], 77) := by decide +kernel
theorem dL_law_116 : decode cL_law 116 = .ok (.aload_n 1, 1) := by decide +kernel
theorem dL_law_117 : decode cL_law 117 = .ok (.aload_n 0, 1) := by decide +kernel
theorem dL_law_118 : decode cL_law 118 = .ok (.iload 4, 2) := by decide +kernel
theorem dL_law_120 : decode cL_law 120 = .ok (.iconst 1, 1) := by decide +kernel
theorem dL_law_121 : decode cL_law 121 = .ok (.iadd, 1) := by decide +kernel
theorem dL_law_122 : decode cL_law 122 = .ok (.iaload, 1) := by decide +kernel
theorem dL_law_123 : decode cL_law 123 = .ok (.aload_n 0, 1) := by decide +kernel
theorem dL_law_124 : decode cL_law 124 = .ok (.iload 4, 2) := by decide +kernel
theorem dL_law_126 : decode cL_law 126 = .ok (.iconst 2, 1) := by decide +kernel
theorem dL_law_127 : decode cL_law 127 = .ok (.iadd, 1) := by decide +kernel
theorem dL_law_128 : decode cL_law 128 = .ok (.iaload, 1) := by decide +kernel
theorem dL_law_129 : decode cL_law 129 = .ok (.aload_n 0, 1) := by decide +kernel
theorem dL_law_130 : decode cL_law 130 = .ok (.iload 4, 2) := by decide +kernel
theorem dL_law_132 : decode cL_law 132 = .ok (.iconst 3, 1) := by decide +kernel
theorem dL_law_133 : decode cL_law 133 = .ok (.iadd, 1) := by decide +kernel
theorem dL_law_134 : decode cL_law 134 = .ok (.iaload, 1) := by decide +kernel
theorem dL_law_135 : decode cL_law 135 = .ok (.aload_n 3, 1) := by decide +kernel
theorem dL_law_136 : decode cL_law 136 = .ok (.invokestatic 69, 3) := by decide +kernel
theorem dL_law_139 : decode cL_law 139 = .ok (.istore 5, 2) := by decide +kernel
theorem dL_law_141 : decode cL_law 141 = .ok (.aload_n 2, 1) := by decide +kernel
theorem dL_law_142 : decode cL_law 142 = .ok (.aload_n 0, 1) := by decide +kernel
theorem dL_law_143 : decode cL_law 143 = .ok (.iload 4, 2) := by decide +kernel
theorem dL_law_145 : decode cL_law 145 = .ok (.iconst 1, 1) := by decide +kernel
theorem dL_law_146 : decode cL_law 146 = .ok (.iadd, 1) := by decide +kernel
theorem dL_law_147 : decode cL_law 147 = .ok (.iaload, 1) := by decide +kernel
theorem dL_law_148 : decode cL_law 148 = .ok (.aload_n 0, 1) := by decide +kernel
theorem dL_law_149 : decode cL_law 149 = .ok (.iload 4, 2) := by decide +kernel
theorem dL_law_151 : decode cL_law 151 = .ok (.iconst 2, 1) := by decide +kernel
theorem dL_law_152 : decode cL_law 152 = .ok (.iadd, 1) := by decide +kernel
theorem dL_law_153 : decode cL_law 153 = .ok (.iaload, 1) := by decide +kernel
theorem dL_law_154 : decode cL_law 154 = .ok (.aload_n 0, 1) := by decide +kernel
theorem dL_law_155 : decode cL_law 155 = .ok (.iload 4, 2) := by decide +kernel
theorem dL_law_157 : decode cL_law 157 = .ok (.iconst 3, 1) := by decide +kernel
theorem dL_law_158 : decode cL_law 158 = .ok (.iadd, 1) := by decide +kernel
theorem dL_law_159 : decode cL_law 159 = .ok (.iaload, 1) := by decide +kernel
theorem dL_law_160 : decode cL_law 160 = .ok (.invokevirtual 74, 3) := by decide +kernel
theorem dL_law_163 : decode cL_law 163 = .ok (.istore 6, 2) := by decide +kernel
theorem dL_law_165 : decode cL_law 165 = .ok (.aload_n 2, 1) := by decide +kernel
theorem dL_law_166 : decode cL_law 166 = .ok (.invokevirtual 75, 3) := by decide +kernel
theorem dL_law_169 : decode cL_law 169 = .ok (.iload 5, 2) := by decide +kernel
theorem dL_law_171 : decode cL_law 171 = .ok (.if_icmp .eq 5, 3) := by decide +kernel
theorem dL_law_174 : decode cL_law 174 = .ok (.iconst 0, 1) := by decide +kernel
theorem dL_law_175 : decode cL_law 175 = .ok (.ireturn, 1) := by decide +kernel
theorem dL_law_176 : decode cL_law 176 = .ok (.iload 5, 2) := by decide +kernel
theorem dL_law_178 : decode cL_law 178 = .ok (.ifCond .ne 15, 3) := by decide +kernel
theorem dL_law_181 : decode cL_law 181 = .ok (.aload_n 3, 1) := by decide +kernel
theorem dL_law_182 : decode cL_law 182 = .ok (.iconst 0, 1) := by decide +kernel
theorem dL_law_183 : decode cL_law 183 = .ok (.laload, 1) := by decide +kernel
theorem dL_law_184 : decode cL_law 184 = .ok (.iload 6, 2) := by decide +kernel
theorem dL_law_186 : decode cL_law 186 = .ok (.i2l, 1) := by decide +kernel
theorem dL_law_187 : decode cL_law 187 = .ok (.lcmp, 1) := by decide +kernel
theorem dL_law_188 : decode cL_law 188 = .ok (.ifCond .eq 5, 3) := by decide +kernel
theorem dL_law_191 : decode cL_law 191 = .ok (.iconst 0, 1) := by decide +kernel
theorem dL_law_192 : decode cL_law 192 = .ok (.ireturn, 1) := by decide +kernel
theorem dL_law_193 : decode cL_law 193 = .ok (.goto 1108, 3) := by decide +kernel
theorem dL_law_196 : decode cL_law 196 = .ok (.aload_n 1, 1) := by decide +kernel
theorem dL_law_197 : decode cL_law 197 = .ok (.aload_n 0, 1) := by decide +kernel
theorem dL_law_198 : decode cL_law 198 = .ok (.iload 4, 2) := by decide +kernel
theorem dL_law_200 : decode cL_law 200 = .ok (.iconst 1, 1) := by decide +kernel
theorem dL_law_201 : decode cL_law 201 = .ok (.iadd, 1) := by decide +kernel
theorem dL_law_202 : decode cL_law 202 = .ok (.iaload, 1) := by decide +kernel
theorem dL_law_203 : decode cL_law 203 = .ok (.aload_n 0, 1) := by decide +kernel
theorem dL_law_204 : decode cL_law 204 = .ok (.iload 4, 2) := by decide +kernel
theorem dL_law_206 : decode cL_law 206 = .ok (.iconst 2, 1) := by decide +kernel
theorem dL_law_207 : decode cL_law 207 = .ok (.iadd, 1) := by decide +kernel
theorem dL_law_208 : decode cL_law 208 = .ok (.iaload, 1) := by decide +kernel
theorem dL_law_209 : decode cL_law 209 = .ok (.aload_n 0, 1) := by decide +kernel
theorem dL_law_210 : decode cL_law 210 = .ok (.iload 4, 2) := by decide +kernel
theorem dL_law_212 : decode cL_law 212 = .ok (.iconst 3, 1) := by decide +kernel
theorem dL_law_213 : decode cL_law 213 = .ok (.iadd, 1) := by decide +kernel
theorem dL_law_214 : decode cL_law 214 = .ok (.iaload, 1) := by decide +kernel
theorem dL_law_215 : decode cL_law 215 = .ok (.aload_n 0, 1) := by decide +kernel
theorem dL_law_216 : decode cL_law 216 = .ok (.iload 4, 2) := by decide +kernel
theorem dL_law_218 : decode cL_law 218 = .ok (.iconst 4, 1) := by decide +kernel
theorem dL_law_219 : decode cL_law 219 = .ok (.iadd, 1) := by decide +kernel
theorem dL_law_220 : decode cL_law 220 = .ok (.iaload, 1) := by decide +kernel
theorem dL_law_221 : decode cL_law 221 = .ok (.aload_n 3, 1) := by decide +kernel
theorem dL_law_222 : decode cL_law 222 = .ok (.invokestatic 79, 3) := by decide +kernel
theorem dL_law_225 : decode cL_law 225 = .ok (.istore 5, 2) := by decide +kernel
theorem dL_law_227 : decode cL_law 227 = .ok (.aload_n 2, 1) := by decide +kernel
theorem dL_law_228 : decode cL_law 228 = .ok (.aload_n 0, 1) := by decide +kernel
theorem dL_law_229 : decode cL_law 229 = .ok (.iload 4, 2) := by decide +kernel
theorem dL_law_231 : decode cL_law 231 = .ok (.iconst 1, 1) := by decide +kernel
theorem dL_law_232 : decode cL_law 232 = .ok (.iadd, 1) := by decide +kernel
theorem dL_law_233 : decode cL_law 233 = .ok (.iaload, 1) := by decide +kernel
theorem dL_law_234 : decode cL_law 234 = .ok (.aload_n 0, 1) := by decide +kernel
theorem dL_law_235 : decode cL_law 235 = .ok (.iload 4, 2) := by decide +kernel
theorem dL_law_237 : decode cL_law 237 = .ok (.iconst 2, 1) := by decide +kernel
theorem dL_law_238 : decode cL_law 238 = .ok (.iadd, 1) := by decide +kernel
theorem dL_law_239 : decode cL_law 239 = .ok (.iaload, 1) := by decide +kernel
theorem dL_law_240 : decode cL_law 240 = .ok (.aload_n 0, 1) := by decide +kernel
theorem dL_law_241 : decode cL_law 241 = .ok (.iload 4, 2) := by decide +kernel
theorem dL_law_243 : decode cL_law 243 = .ok (.iconst 3, 1) := by decide +kernel
theorem dL_law_244 : decode cL_law 244 = .ok (.iadd, 1) := by decide +kernel
theorem dL_law_245 : decode cL_law 245 = .ok (.iaload, 1) := by decide +kernel
theorem dL_law_246 : decode cL_law 246 = .ok (.aload_n 0, 1) := by decide +kernel
theorem dL_law_247 : decode cL_law 247 = .ok (.iload 4, 2) := by decide +kernel
theorem dL_law_249 : decode cL_law 249 = .ok (.iconst 4, 1) := by decide +kernel
theorem dL_law_250 : decode cL_law 250 = .ok (.iadd, 1) := by decide +kernel
theorem dL_law_251 : decode cL_law 251 = .ok (.iaload, 1) := by decide +kernel
theorem dL_law_252 : decode cL_law 252 = .ok (.invokevirtual 82, 3) := by decide +kernel
theorem dL_law_255 : decode cL_law 255 = .ok (.istore 6, 2) := by decide +kernel
theorem dL_law_257 : decode cL_law 257 = .ok (.aload_n 2, 1) := by decide +kernel
theorem dL_law_258 : decode cL_law 258 = .ok (.invokevirtual 75, 3) := by decide +kernel
theorem dL_law_261 : decode cL_law 261 = .ok (.iload 5, 2) := by decide +kernel
theorem dL_law_263 : decode cL_law 263 = .ok (.if_icmp .eq 5, 3) := by decide +kernel
theorem dL_law_266 : decode cL_law 266 = .ok (.iconst 0, 1) := by decide +kernel
theorem dL_law_267 : decode cL_law 267 = .ok (.ireturn, 1) := by decide +kernel
theorem dL_law_268 : decode cL_law 268 = .ok (.iload 5, 2) := by decide +kernel
theorem dL_law_270 : decode cL_law 270 = .ok (.ifCond .ne 15, 3) := by decide +kernel
theorem dL_law_273 : decode cL_law 273 = .ok (.aload_n 3, 1) := by decide +kernel
theorem dL_law_274 : decode cL_law 274 = .ok (.iconst 0, 1) := by decide +kernel
theorem dL_law_275 : decode cL_law 275 = .ok (.laload, 1) := by decide +kernel
theorem dL_law_276 : decode cL_law 276 = .ok (.iload 6, 2) := by decide +kernel
theorem dL_law_278 : decode cL_law 278 = .ok (.i2l, 1) := by decide +kernel
theorem dL_law_279 : decode cL_law 279 = .ok (.lcmp, 1) := by decide +kernel
theorem dL_law_280 : decode cL_law 280 = .ok (.ifCond .eq 5, 3) := by decide +kernel
theorem dL_law_283 : decode cL_law 283 = .ok (.iconst 0, 1) := by decide +kernel
theorem dL_law_284 : decode cL_law 284 = .ok (.ireturn, 1) := by decide +kernel
theorem dL_law_285 : decode cL_law 285 = .ok (.goto 1016, 3) := by decide +kernel
theorem dL_law_288 : decode cL_law 288 = .ok (.aload_n 1, 1) := by decide +kernel
theorem dL_law_289 : decode cL_law 289 = .ok (.aload_n 0, 1) := by decide +kernel
theorem dL_law_290 : decode cL_law 290 = .ok (.iload 4, 2) := by decide +kernel
theorem dL_law_292 : decode cL_law 292 = .ok (.iconst 1, 1) := by decide +kernel
theorem dL_law_293 : decode cL_law 293 = .ok (.iadd, 1) := by decide +kernel
theorem dL_law_294 : decode cL_law 294 = .ok (.iaload, 1) := by decide +kernel
theorem dL_law_295 : decode cL_law 295 = .ok (.aload_n 0, 1) := by decide +kernel
theorem dL_law_296 : decode cL_law 296 = .ok (.iload 4, 2) := by decide +kernel
theorem dL_law_298 : decode cL_law 298 = .ok (.iconst 2, 1) := by decide +kernel
theorem dL_law_299 : decode cL_law 299 = .ok (.iadd, 1) := by decide +kernel
theorem dL_law_300 : decode cL_law 300 = .ok (.iaload, 1) := by decide +kernel
theorem dL_law_301 : decode cL_law 301 = .ok (.aload_n 0, 1) := by decide +kernel
theorem dL_law_302 : decode cL_law 302 = .ok (.iload 4, 2) := by decide +kernel
theorem dL_law_304 : decode cL_law 304 = .ok (.iconst 3, 1) := by decide +kernel
theorem dL_law_305 : decode cL_law 305 = .ok (.iadd, 1) := by decide +kernel
theorem dL_law_306 : decode cL_law 306 = .ok (.iaload, 1) := by decide +kernel
theorem dL_law_307 : decode cL_law 307 = .ok (.aload_n 3, 1) := by decide +kernel
theorem dL_law_308 : decode cL_law 308 = .ok (.invokestatic 83, 3) := by decide +kernel
theorem dL_law_311 : decode cL_law 311 = .ok (.istore 5, 2) := by decide +kernel
theorem dL_law_313 : decode cL_law 313 = .ok (.aload_n 2, 1) := by decide +kernel
theorem dL_law_314 : decode cL_law 314 = .ok (.aload_n 0, 1) := by decide +kernel
theorem dL_law_315 : decode cL_law 315 = .ok (.iload 4, 2) := by decide +kernel
theorem dL_law_317 : decode cL_law 317 = .ok (.iconst 1, 1) := by decide +kernel
theorem dL_law_318 : decode cL_law 318 = .ok (.iadd, 1) := by decide +kernel
theorem dL_law_319 : decode cL_law 319 = .ok (.iaload, 1) := by decide +kernel
theorem dL_law_320 : decode cL_law 320 = .ok (.aload_n 0, 1) := by decide +kernel
theorem dL_law_321 : decode cL_law 321 = .ok (.iload 4, 2) := by decide +kernel
theorem dL_law_323 : decode cL_law 323 = .ok (.iconst 2, 1) := by decide +kernel
theorem dL_law_324 : decode cL_law 324 = .ok (.iadd, 1) := by decide +kernel
theorem dL_law_325 : decode cL_law 325 = .ok (.iaload, 1) := by decide +kernel
theorem dL_law_326 : decode cL_law 326 = .ok (.aload_n 0, 1) := by decide +kernel
theorem dL_law_327 : decode cL_law 327 = .ok (.iload 4, 2) := by decide +kernel
theorem dL_law_329 : decode cL_law 329 = .ok (.iconst 3, 1) := by decide +kernel
theorem dL_law_330 : decode cL_law 330 = .ok (.iadd, 1) := by decide +kernel
theorem dL_law_331 : decode cL_law 331 = .ok (.iaload, 1) := by decide +kernel
theorem dL_law_332 : decode cL_law 332 = .ok (.invokevirtual 85, 3) := by decide +kernel
theorem dL_law_335 : decode cL_law 335 = .ok (.istore 6, 2) := by decide +kernel
theorem dL_law_337 : decode cL_law 337 = .ok (.aload_n 2, 1) := by decide +kernel
theorem dL_law_338 : decode cL_law 338 = .ok (.invokevirtual 75, 3) := by decide +kernel
theorem dL_law_341 : decode cL_law 341 = .ok (.iload 5, 2) := by decide +kernel
theorem dL_law_343 : decode cL_law 343 = .ok (.if_icmp .eq 5, 3) := by decide +kernel
theorem dL_law_346 : decode cL_law 346 = .ok (.iconst 0, 1) := by decide +kernel
theorem dL_law_347 : decode cL_law 347 = .ok (.ireturn, 1) := by decide +kernel
theorem dL_law_348 : decode cL_law 348 = .ok (.iload 5, 2) := by decide +kernel
theorem dL_law_350 : decode cL_law 350 = .ok (.ifCond .ne 15, 3) := by decide +kernel
theorem dL_law_353 : decode cL_law 353 = .ok (.aload_n 3, 1) := by decide +kernel
theorem dL_law_354 : decode cL_law 354 = .ok (.iconst 0, 1) := by decide +kernel
theorem dL_law_355 : decode cL_law 355 = .ok (.laload, 1) := by decide +kernel
theorem dL_law_356 : decode cL_law 356 = .ok (.iload 6, 2) := by decide +kernel
theorem dL_law_358 : decode cL_law 358 = .ok (.i2l, 1) := by decide +kernel
theorem dL_law_359 : decode cL_law 359 = .ok (.lcmp, 1) := by decide +kernel
theorem dL_law_360 : decode cL_law 360 = .ok (.ifCond .eq 5, 3) := by decide +kernel
theorem dL_law_363 : decode cL_law 363 = .ok (.iconst 0, 1) := by decide +kernel
theorem dL_law_364 : decode cL_law 364 = .ok (.ireturn, 1) := by decide +kernel
theorem dL_law_365 : decode cL_law 365 = .ok (.goto 936, 3) := by decide +kernel
theorem dL_law_368 : decode cL_law 368 = .ok (.aload_n 1, 1) := by decide +kernel
theorem dL_law_369 : decode cL_law 369 = .ok (.aload_n 0, 1) := by decide +kernel
theorem dL_law_370 : decode cL_law 370 = .ok (.iload 4, 2) := by decide +kernel
theorem dL_law_372 : decode cL_law 372 = .ok (.iconst 1, 1) := by decide +kernel
theorem dL_law_373 : decode cL_law 373 = .ok (.iadd, 1) := by decide +kernel
theorem dL_law_374 : decode cL_law 374 = .ok (.iaload, 1) := by decide +kernel
theorem dL_law_375 : decode cL_law 375 = .ok (.aload_n 0, 1) := by decide +kernel
theorem dL_law_376 : decode cL_law 376 = .ok (.iload 4, 2) := by decide +kernel
theorem dL_law_378 : decode cL_law 378 = .ok (.iconst 2, 1) := by decide +kernel
theorem dL_law_379 : decode cL_law 379 = .ok (.iadd, 1) := by decide +kernel
theorem dL_law_380 : decode cL_law 380 = .ok (.iaload, 1) := by decide +kernel
theorem dL_law_381 : decode cL_law 381 = .ok (.ifCond .eq 7, 3) := by decide +kernel
theorem dL_law_384 : decode cL_law 384 = .ok (.iconst 1, 1) := by decide +kernel
theorem dL_law_385 : decode cL_law 385 = .ok (.goto 4, 3) := by decide +kernel
theorem dL_law_388 : decode cL_law 388 = .ok (.iconst 0, 1) := by decide +kernel
theorem dL_law_389 : decode cL_law 389 = .ok (.aload_n 3, 1) := by decide +kernel
theorem dL_law_390 : decode cL_law 390 = .ok (.invokestatic 86, 3) := by decide +kernel
theorem dL_law_393 : decode cL_law 393 = .ok (.istore 5, 2) := by decide +kernel
theorem dL_law_395 : decode cL_law 395 = .ok (.aload_n 2, 1) := by decide +kernel
theorem dL_law_396 : decode cL_law 396 = .ok (.aload_n 0, 1) := by decide +kernel
theorem dL_law_397 : decode cL_law 397 = .ok (.iload 4, 2) := by decide +kernel
theorem dL_law_399 : decode cL_law 399 = .ok (.iconst 1, 1) := by decide +kernel
theorem dL_law_400 : decode cL_law 400 = .ok (.iadd, 1) := by decide +kernel
theorem dL_law_401 : decode cL_law 401 = .ok (.iaload, 1) := by decide +kernel
theorem dL_law_402 : decode cL_law 402 = .ok (.aload_n 0, 1) := by decide +kernel
theorem dL_law_403 : decode cL_law 403 = .ok (.iload 4, 2) := by decide +kernel
theorem dL_law_405 : decode cL_law 405 = .ok (.iconst 2, 1) := by decide +kernel
theorem dL_law_406 : decode cL_law 406 = .ok (.iadd, 1) := by decide +kernel
theorem dL_law_407 : decode cL_law 407 = .ok (.iaload, 1) := by decide +kernel
theorem dL_law_408 : decode cL_law 408 = .ok (.ifCond .eq 7, 3) := by decide +kernel
theorem dL_law_411 : decode cL_law 411 = .ok (.iconst 1, 1) := by decide +kernel
theorem dL_law_412 : decode cL_law 412 = .ok (.goto 4, 3) := by decide +kernel
theorem dL_law_415 : decode cL_law 415 = .ok (.iconst 0, 1) := by decide +kernel
theorem dL_law_416 : decode cL_law 416 = .ok (.invokevirtual 89, 3) := by decide +kernel
theorem dL_law_419 : decode cL_law 419 = .ok (.istore 6, 2) := by decide +kernel
theorem dL_law_421 : decode cL_law 421 = .ok (.aload_n 2, 1) := by decide +kernel
theorem dL_law_422 : decode cL_law 422 = .ok (.invokevirtual 75, 3) := by decide +kernel
theorem dL_law_425 : decode cL_law 425 = .ok (.iload 5, 2) := by decide +kernel
theorem dL_law_427 : decode cL_law 427 = .ok (.if_icmp .eq 5, 3) := by decide +kernel
theorem dL_law_430 : decode cL_law 430 = .ok (.iconst 0, 1) := by decide +kernel
theorem dL_law_431 : decode cL_law 431 = .ok (.ireturn, 1) := by decide +kernel
theorem dL_law_432 : decode cL_law 432 = .ok (.iload 5, 2) := by decide +kernel
theorem dL_law_434 : decode cL_law 434 = .ok (.ifCond .ne 15, 3) := by decide +kernel
theorem dL_law_437 : decode cL_law 437 = .ok (.aload_n 3, 1) := by decide +kernel
theorem dL_law_438 : decode cL_law 438 = .ok (.iconst 0, 1) := by decide +kernel
theorem dL_law_439 : decode cL_law 439 = .ok (.laload, 1) := by decide +kernel
theorem dL_law_440 : decode cL_law 440 = .ok (.iload 6, 2) := by decide +kernel
theorem dL_law_442 : decode cL_law 442 = .ok (.i2l, 1) := by decide +kernel
theorem dL_law_443 : decode cL_law 443 = .ok (.lcmp, 1) := by decide +kernel
theorem dL_law_444 : decode cL_law 444 = .ok (.ifCond .eq 5, 3) := by decide +kernel
theorem dL_law_447 : decode cL_law 447 = .ok (.iconst 0, 1) := by decide +kernel
theorem dL_law_448 : decode cL_law 448 = .ok (.ireturn, 1) := by decide +kernel
theorem dL_law_449 : decode cL_law 449 = .ok (.goto 852, 3) := by decide +kernel
theorem dL_law_452 : decode cL_law 452 = .ok (.aload_n 1, 1) := by decide +kernel
theorem dL_law_453 : decode cL_law 453 = .ok (.aload_n 0, 1) := by decide +kernel
theorem dL_law_454 : decode cL_law 454 = .ok (.iload 4, 2) := by decide +kernel
theorem dL_law_456 : decode cL_law 456 = .ok (.iconst 1, 1) := by decide +kernel
theorem dL_law_457 : decode cL_law 457 = .ok (.iadd, 1) := by decide +kernel
theorem dL_law_458 : decode cL_law 458 = .ok (.iaload, 1) := by decide +kernel
theorem dL_law_459 : decode cL_law 459 = .ok (.aload_n 0, 1) := by decide +kernel
theorem dL_law_460 : decode cL_law 460 = .ok (.iload 4, 2) := by decide +kernel
theorem dL_law_462 : decode cL_law 462 = .ok (.iconst 2, 1) := by decide +kernel
theorem dL_law_463 : decode cL_law 463 = .ok (.iadd, 1) := by decide +kernel
theorem dL_law_464 : decode cL_law 464 = .ok (.iaload, 1) := by decide +kernel
theorem dL_law_465 : decode cL_law 465 = .ok (.ifCond .eq 7, 3) := by decide +kernel
theorem dL_law_468 : decode cL_law 468 = .ok (.iconst 1, 1) := by decide +kernel
theorem dL_law_469 : decode cL_law 469 = .ok (.goto 4, 3) := by decide +kernel
theorem dL_law_472 : decode cL_law 472 = .ok (.iconst 0, 1) := by decide +kernel
theorem dL_law_473 : decode cL_law 473 = .ok (.aload_n 3, 1) := by decide +kernel
theorem dL_law_474 : decode cL_law 474 = .ok (.invokestatic 90, 3) := by decide +kernel
theorem dL_law_477 : decode cL_law 477 = .ok (.istore 5, 2) := by decide +kernel
theorem dL_law_479 : decode cL_law 479 = .ok (.aload_n 2, 1) := by decide +kernel
theorem dL_law_480 : decode cL_law 480 = .ok (.aload_n 0, 1) := by decide +kernel
theorem dL_law_481 : decode cL_law 481 = .ok (.iload 4, 2) := by decide +kernel
theorem dL_law_483 : decode cL_law 483 = .ok (.iconst 1, 1) := by decide +kernel
theorem dL_law_484 : decode cL_law 484 = .ok (.iadd, 1) := by decide +kernel
theorem dL_law_485 : decode cL_law 485 = .ok (.iaload, 1) := by decide +kernel
theorem dL_law_486 : decode cL_law 486 = .ok (.aload_n 0, 1) := by decide +kernel
theorem dL_law_487 : decode cL_law 487 = .ok (.iload 4, 2) := by decide +kernel
theorem dL_law_489 : decode cL_law 489 = .ok (.iconst 2, 1) := by decide +kernel
theorem dL_law_490 : decode cL_law 490 = .ok (.iadd, 1) := by decide +kernel
theorem dL_law_491 : decode cL_law 491 = .ok (.iaload, 1) := by decide +kernel
theorem dL_law_492 : decode cL_law 492 = .ok (.ifCond .eq 7, 3) := by decide +kernel
theorem dL_law_495 : decode cL_law 495 = .ok (.iconst 1, 1) := by decide +kernel
theorem dL_law_496 : decode cL_law 496 = .ok (.goto 4, 3) := by decide +kernel
theorem dL_law_499 : decode cL_law 499 = .ok (.iconst 0, 1) := by decide +kernel
theorem dL_law_500 : decode cL_law 500 = .ok (.invokevirtual 92, 3) := by decide +kernel
theorem dL_law_503 : decode cL_law 503 = .ok (.istore 6, 2) := by decide +kernel
theorem dL_law_505 : decode cL_law 505 = .ok (.aload_n 2, 1) := by decide +kernel
theorem dL_law_506 : decode cL_law 506 = .ok (.invokevirtual 75, 3) := by decide +kernel
theorem dL_law_509 : decode cL_law 509 = .ok (.iload 5, 2) := by decide +kernel
theorem dL_law_511 : decode cL_law 511 = .ok (.if_icmp .eq 5, 3) := by decide +kernel
theorem dL_law_514 : decode cL_law 514 = .ok (.iconst 0, 1) := by decide +kernel
theorem dL_law_515 : decode cL_law 515 = .ok (.ireturn, 1) := by decide +kernel
theorem dL_law_516 : decode cL_law 516 = .ok (.iload 5, 2) := by decide +kernel
theorem dL_law_518 : decode cL_law 518 = .ok (.ifCond .ne 15, 3) := by decide +kernel
theorem dL_law_521 : decode cL_law 521 = .ok (.aload_n 3, 1) := by decide +kernel
theorem dL_law_522 : decode cL_law 522 = .ok (.iconst 0, 1) := by decide +kernel
theorem dL_law_523 : decode cL_law 523 = .ok (.laload, 1) := by decide +kernel
theorem dL_law_524 : decode cL_law 524 = .ok (.iload 6, 2) := by decide +kernel
theorem dL_law_526 : decode cL_law 526 = .ok (.i2l, 1) := by decide +kernel
theorem dL_law_527 : decode cL_law 527 = .ok (.lcmp, 1) := by decide +kernel
theorem dL_law_528 : decode cL_law 528 = .ok (.ifCond .eq 5, 3) := by decide +kernel
theorem dL_law_531 : decode cL_law 531 = .ok (.iconst 0, 1) := by decide +kernel
theorem dL_law_532 : decode cL_law 532 = .ok (.ireturn, 1) := by decide +kernel
theorem dL_law_533 : decode cL_law 533 = .ok (.goto 768, 3) := by decide +kernel
theorem dL_law_536 : decode cL_law 536 = .ok (.aload_n 1, 1) := by decide +kernel
theorem dL_law_537 : decode cL_law 537 = .ok (.aload_n 0, 1) := by decide +kernel
theorem dL_law_538 : decode cL_law 538 = .ok (.iload 4, 2) := by decide +kernel
theorem dL_law_540 : decode cL_law 540 = .ok (.iconst 1, 1) := by decide +kernel
theorem dL_law_541 : decode cL_law 541 = .ok (.iadd, 1) := by decide +kernel
theorem dL_law_542 : decode cL_law 542 = .ok (.iaload, 1) := by decide +kernel
theorem dL_law_543 : decode cL_law 543 = .ok (.aload_n 0, 1) := by decide +kernel
theorem dL_law_544 : decode cL_law 544 = .ok (.iload 4, 2) := by decide +kernel
theorem dL_law_546 : decode cL_law 546 = .ok (.iconst 2, 1) := by decide +kernel
theorem dL_law_547 : decode cL_law 547 = .ok (.iadd, 1) := by decide +kernel
theorem dL_law_548 : decode cL_law 548 = .ok (.iaload, 1) := by decide +kernel
theorem dL_law_549 : decode cL_law 549 = .ok (.aload_n 3, 1) := by decide +kernel
theorem dL_law_550 : decode cL_law 550 = .ok (.invokestatic 93, 3) := by decide +kernel
theorem dL_law_553 : decode cL_law 553 = .ok (.istore 5, 2) := by decide +kernel
theorem dL_law_555 : decode cL_law 555 = .ok (.aload_n 2, 1) := by decide +kernel
theorem dL_law_556 : decode cL_law 556 = .ok (.aload_n 0, 1) := by decide +kernel
theorem dL_law_557 : decode cL_law 557 = .ok (.iload 4, 2) := by decide +kernel
theorem dL_law_559 : decode cL_law 559 = .ok (.iconst 1, 1) := by decide +kernel
theorem dL_law_560 : decode cL_law 560 = .ok (.iadd, 1) := by decide +kernel
theorem dL_law_561 : decode cL_law 561 = .ok (.iaload, 1) := by decide +kernel
theorem dL_law_562 : decode cL_law 562 = .ok (.aload_n 0, 1) := by decide +kernel
theorem dL_law_563 : decode cL_law 563 = .ok (.iload 4, 2) := by decide +kernel
theorem dL_law_565 : decode cL_law 565 = .ok (.iconst 2, 1) := by decide +kernel
theorem dL_law_566 : decode cL_law 566 = .ok (.iadd, 1) := by decide +kernel
theorem dL_law_567 : decode cL_law 567 = .ok (.iaload, 1) := by decide +kernel
theorem dL_law_568 : decode cL_law 568 = .ok (.invokevirtual 96, 3) := by decide +kernel
theorem dL_law_571 : decode cL_law 571 = .ok (.istore 6, 2) := by decide +kernel
theorem dL_law_573 : decode cL_law 573 = .ok (.aload_n 2, 1) := by decide +kernel
theorem dL_law_574 : decode cL_law 574 = .ok (.invokevirtual 75, 3) := by decide +kernel
theorem dL_law_577 : decode cL_law 577 = .ok (.iload 5, 2) := by decide +kernel
theorem dL_law_579 : decode cL_law 579 = .ok (.if_icmp .eq 5, 3) := by decide +kernel
theorem dL_law_582 : decode cL_law 582 = .ok (.iconst 0, 1) := by decide +kernel
theorem dL_law_583 : decode cL_law 583 = .ok (.ireturn, 1) := by decide +kernel
theorem dL_law_584 : decode cL_law 584 = .ok (.iload 5, 2) := by decide +kernel
theorem dL_law_586 : decode cL_law 586 = .ok (.ifCond .ne 15, 3) := by decide +kernel
theorem dL_law_589 : decode cL_law 589 = .ok (.aload_n 3, 1) := by decide +kernel
theorem dL_law_590 : decode cL_law 590 = .ok (.iconst 0, 1) := by decide +kernel
theorem dL_law_591 : decode cL_law 591 = .ok (.laload, 1) := by decide +kernel
theorem dL_law_592 : decode cL_law 592 = .ok (.iload 6, 2) := by decide +kernel
theorem dL_law_594 : decode cL_law 594 = .ok (.i2l, 1) := by decide +kernel
theorem dL_law_595 : decode cL_law 595 = .ok (.lcmp, 1) := by decide +kernel
theorem dL_law_596 : decode cL_law 596 = .ok (.ifCond .eq 5, 3) := by decide +kernel
theorem dL_law_599 : decode cL_law 599 = .ok (.iconst 0, 1) := by decide +kernel
theorem dL_law_600 : decode cL_law 600 = .ok (.ireturn, 1) := by decide +kernel
theorem dL_law_601 : decode cL_law 601 = .ok (.goto 700, 3) := by decide +kernel
theorem dL_law_604 : decode cL_law 604 = .ok (.aload_n 1, 1) := by decide +kernel
theorem dL_law_605 : decode cL_law 605 = .ok (.aload_n 0, 1) := by decide +kernel
theorem dL_law_606 : decode cL_law 606 = .ok (.iload 4, 2) := by decide +kernel
theorem dL_law_608 : decode cL_law 608 = .ok (.iconst 1, 1) := by decide +kernel
theorem dL_law_609 : decode cL_law 609 = .ok (.iadd, 1) := by decide +kernel
theorem dL_law_610 : decode cL_law 610 = .ok (.iaload, 1) := by decide +kernel
theorem dL_law_611 : decode cL_law 611 = .ok (.aload_n 0, 1) := by decide +kernel
theorem dL_law_612 : decode cL_law 612 = .ok (.iload 4, 2) := by decide +kernel
theorem dL_law_614 : decode cL_law 614 = .ok (.iconst 2, 1) := by decide +kernel
theorem dL_law_615 : decode cL_law 615 = .ok (.iadd, 1) := by decide +kernel
theorem dL_law_616 : decode cL_law 616 = .ok (.iaload, 1) := by decide +kernel
theorem dL_law_617 : decode cL_law 617 = .ok (.aload_n 0, 1) := by decide +kernel
theorem dL_law_618 : decode cL_law 618 = .ok (.iload 4, 2) := by decide +kernel
theorem dL_law_620 : decode cL_law 620 = .ok (.iconst 3, 1) := by decide +kernel
theorem dL_law_621 : decode cL_law 621 = .ok (.iadd, 1) := by decide +kernel
theorem dL_law_622 : decode cL_law 622 = .ok (.iaload, 1) := by decide +kernel
theorem dL_law_623 : decode cL_law 623 = .ok (.aload_n 0, 1) := by decide +kernel
theorem dL_law_624 : decode cL_law 624 = .ok (.iload 4, 2) := by decide +kernel
theorem dL_law_626 : decode cL_law 626 = .ok (.iconst 4, 1) := by decide +kernel
theorem dL_law_627 : decode cL_law 627 = .ok (.iadd, 1) := by decide +kernel
theorem dL_law_628 : decode cL_law 628 = .ok (.iaload, 1) := by decide +kernel
theorem dL_law_629 : decode cL_law 629 = .ok (.aload_n 3, 1) := by decide +kernel
theorem dL_law_630 : decode cL_law 630 = .ok (.invokestatic 97, 3) := by decide +kernel
theorem dL_law_633 : decode cL_law 633 = .ok (.istore 5, 2) := by decide +kernel
theorem dL_law_635 : decode cL_law 635 = .ok (.aload_n 2, 1) := by decide +kernel
theorem dL_law_636 : decode cL_law 636 = .ok (.aload_n 0, 1) := by decide +kernel
theorem dL_law_637 : decode cL_law 637 = .ok (.iload 4, 2) := by decide +kernel
theorem dL_law_639 : decode cL_law 639 = .ok (.iconst 1, 1) := by decide +kernel
theorem dL_law_640 : decode cL_law 640 = .ok (.iadd, 1) := by decide +kernel
theorem dL_law_641 : decode cL_law 641 = .ok (.iaload, 1) := by decide +kernel
theorem dL_law_642 : decode cL_law 642 = .ok (.aload_n 0, 1) := by decide +kernel
theorem dL_law_643 : decode cL_law 643 = .ok (.iload 4, 2) := by decide +kernel
theorem dL_law_645 : decode cL_law 645 = .ok (.iconst 2, 1) := by decide +kernel
theorem dL_law_646 : decode cL_law 646 = .ok (.iadd, 1) := by decide +kernel
theorem dL_law_647 : decode cL_law 647 = .ok (.iaload, 1) := by decide +kernel
theorem dL_law_648 : decode cL_law 648 = .ok (.aload_n 0, 1) := by decide +kernel
theorem dL_law_649 : decode cL_law 649 = .ok (.iload 4, 2) := by decide +kernel
theorem dL_law_651 : decode cL_law 651 = .ok (.iconst 3, 1) := by decide +kernel
theorem dL_law_652 : decode cL_law 652 = .ok (.iadd, 1) := by decide +kernel
theorem dL_law_653 : decode cL_law 653 = .ok (.iaload, 1) := by decide +kernel
theorem dL_law_654 : decode cL_law 654 = .ok (.aload_n 0, 1) := by decide +kernel
theorem dL_law_655 : decode cL_law 655 = .ok (.iload 4, 2) := by decide +kernel
theorem dL_law_657 : decode cL_law 657 = .ok (.iconst 4, 1) := by decide +kernel
theorem dL_law_658 : decode cL_law 658 = .ok (.iadd, 1) := by decide +kernel
theorem dL_law_659 : decode cL_law 659 = .ok (.iaload, 1) := by decide +kernel
theorem dL_law_660 : decode cL_law 660 = .ok (.invokevirtual 99, 3) := by decide +kernel
theorem dL_law_663 : decode cL_law 663 = .ok (.istore 6, 2) := by decide +kernel
theorem dL_law_665 : decode cL_law 665 = .ok (.aload_n 2, 1) := by decide +kernel
theorem dL_law_666 : decode cL_law 666 = .ok (.invokevirtual 75, 3) := by decide +kernel
theorem dL_law_669 : decode cL_law 669 = .ok (.iload 5, 2) := by decide +kernel
theorem dL_law_671 : decode cL_law 671 = .ok (.if_icmp .eq 5, 3) := by decide +kernel
theorem dL_law_674 : decode cL_law 674 = .ok (.iconst 0, 1) := by decide +kernel
theorem dL_law_675 : decode cL_law 675 = .ok (.ireturn, 1) := by decide +kernel
theorem dL_law_676 : decode cL_law 676 = .ok (.iload 5, 2) := by decide +kernel
theorem dL_law_678 : decode cL_law 678 = .ok (.ifCond .ne 15, 3) := by decide +kernel
theorem dL_law_681 : decode cL_law 681 = .ok (.aload_n 3, 1) := by decide +kernel
theorem dL_law_682 : decode cL_law 682 = .ok (.iconst 0, 1) := by decide +kernel
theorem dL_law_683 : decode cL_law 683 = .ok (.laload, 1) := by decide +kernel
theorem dL_law_684 : decode cL_law 684 = .ok (.iload 6, 2) := by decide +kernel
theorem dL_law_686 : decode cL_law 686 = .ok (.i2l, 1) := by decide +kernel
theorem dL_law_687 : decode cL_law 687 = .ok (.lcmp, 1) := by decide +kernel
theorem dL_law_688 : decode cL_law 688 = .ok (.ifCond .eq 5, 3) := by decide +kernel
theorem dL_law_691 : decode cL_law 691 = .ok (.iconst 0, 1) := by decide +kernel
theorem dL_law_692 : decode cL_law 692 = .ok (.ireturn, 1) := by decide +kernel
theorem dL_law_693 : decode cL_law 693 = .ok (.goto 608, 3) := by decide +kernel
theorem dL_law_696 : decode cL_law 696 = .ok (.aload_n 1, 1) := by decide +kernel
theorem dL_law_697 : decode cL_law 697 = .ok (.aload_n 0, 1) := by decide +kernel
theorem dL_law_698 : decode cL_law 698 = .ok (.iload 4, 2) := by decide +kernel
theorem dL_law_700 : decode cL_law 700 = .ok (.iconst 1, 1) := by decide +kernel
theorem dL_law_701 : decode cL_law 701 = .ok (.iadd, 1) := by decide +kernel
theorem dL_law_702 : decode cL_law 702 = .ok (.iaload, 1) := by decide +kernel
theorem dL_law_703 : decode cL_law 703 = .ok (.aload_n 0, 1) := by decide +kernel
theorem dL_law_704 : decode cL_law 704 = .ok (.iload 4, 2) := by decide +kernel
theorem dL_law_706 : decode cL_law 706 = .ok (.iconst 2, 1) := by decide +kernel
theorem dL_law_707 : decode cL_law 707 = .ok (.iadd, 1) := by decide +kernel
theorem dL_law_708 : decode cL_law 708 = .ok (.iaload, 1) := by decide +kernel
theorem dL_law_709 : decode cL_law 709 = .ok (.aload_n 3, 1) := by decide +kernel
theorem dL_law_710 : decode cL_law 710 = .ok (.invokestatic 100, 3) := by decide +kernel
theorem dL_law_713 : decode cL_law 713 = .ok (.istore 5, 2) := by decide +kernel
theorem dL_law_715 : decode cL_law 715 = .ok (.aload_n 2, 1) := by decide +kernel
theorem dL_law_716 : decode cL_law 716 = .ok (.aload_n 0, 1) := by decide +kernel
theorem dL_law_717 : decode cL_law 717 = .ok (.iload 4, 2) := by decide +kernel
theorem dL_law_719 : decode cL_law 719 = .ok (.iconst 1, 1) := by decide +kernel
theorem dL_law_720 : decode cL_law 720 = .ok (.iadd, 1) := by decide +kernel
theorem dL_law_721 : decode cL_law 721 = .ok (.iaload, 1) := by decide +kernel
theorem dL_law_722 : decode cL_law 722 = .ok (.aload_n 0, 1) := by decide +kernel
theorem dL_law_723 : decode cL_law 723 = .ok (.iload 4, 2) := by decide +kernel
theorem dL_law_725 : decode cL_law 725 = .ok (.iconst 2, 1) := by decide +kernel
theorem dL_law_726 : decode cL_law 726 = .ok (.iadd, 1) := by decide +kernel
theorem dL_law_727 : decode cL_law 727 = .ok (.iaload, 1) := by decide +kernel
theorem dL_law_728 : decode cL_law 728 = .ok (.invokevirtual 102, 3) := by decide +kernel
theorem dL_law_731 : decode cL_law 731 = .ok (.istore 6, 2) := by decide +kernel
theorem dL_law_733 : decode cL_law 733 = .ok (.aload_n 2, 1) := by decide +kernel
theorem dL_law_734 : decode cL_law 734 = .ok (.invokevirtual 75, 3) := by decide +kernel
theorem dL_law_737 : decode cL_law 737 = .ok (.iload 5, 2) := by decide +kernel
theorem dL_law_739 : decode cL_law 739 = .ok (.if_icmp .eq 5, 3) := by decide +kernel
theorem dL_law_742 : decode cL_law 742 = .ok (.iconst 0, 1) := by decide +kernel
theorem dL_law_743 : decode cL_law 743 = .ok (.ireturn, 1) := by decide +kernel
theorem dL_law_744 : decode cL_law 744 = .ok (.iload 5, 2) := by decide +kernel
theorem dL_law_746 : decode cL_law 746 = .ok (.ifCond .ne 15, 3) := by decide +kernel
theorem dL_law_749 : decode cL_law 749 = .ok (.aload_n 3, 1) := by decide +kernel
theorem dL_law_750 : decode cL_law 750 = .ok (.iconst 0, 1) := by decide +kernel
theorem dL_law_751 : decode cL_law 751 = .ok (.laload, 1) := by decide +kernel
theorem dL_law_752 : decode cL_law 752 = .ok (.iload 6, 2) := by decide +kernel
theorem dL_law_754 : decode cL_law 754 = .ok (.i2l, 1) := by decide +kernel
theorem dL_law_755 : decode cL_law 755 = .ok (.lcmp, 1) := by decide +kernel
theorem dL_law_756 : decode cL_law 756 = .ok (.ifCond .eq 5, 3) := by decide +kernel
theorem dL_law_759 : decode cL_law 759 = .ok (.iconst 0, 1) := by decide +kernel
theorem dL_law_760 : decode cL_law 760 = .ok (.ireturn, 1) := by decide +kernel
theorem dL_law_761 : decode cL_law 761 = .ok (.goto 540, 3) := by decide +kernel
theorem dL_law_764 : decode cL_law 764 = .ok (.aload_n 1, 1) := by decide +kernel
theorem dL_law_765 : decode cL_law 765 = .ok (.aload_n 0, 1) := by decide +kernel
theorem dL_law_766 : decode cL_law 766 = .ok (.iload 4, 2) := by decide +kernel
theorem dL_law_768 : decode cL_law 768 = .ok (.iconst 1, 1) := by decide +kernel
theorem dL_law_769 : decode cL_law 769 = .ok (.iadd, 1) := by decide +kernel
theorem dL_law_770 : decode cL_law 770 = .ok (.iaload, 1) := by decide +kernel
theorem dL_law_771 : decode cL_law 771 = .ok (.aload_n 0, 1) := by decide +kernel
theorem dL_law_772 : decode cL_law 772 = .ok (.iload 4, 2) := by decide +kernel
theorem dL_law_774 : decode cL_law 774 = .ok (.iconst 2, 1) := by decide +kernel
theorem dL_law_775 : decode cL_law 775 = .ok (.iadd, 1) := by decide +kernel
theorem dL_law_776 : decode cL_law 776 = .ok (.iaload, 1) := by decide +kernel
theorem dL_law_777 : decode cL_law 777 = .ok (.aload_n 0, 1) := by decide +kernel
theorem dL_law_778 : decode cL_law 778 = .ok (.iload 4, 2) := by decide +kernel
theorem dL_law_780 : decode cL_law 780 = .ok (.iconst 3, 1) := by decide +kernel
theorem dL_law_781 : decode cL_law 781 = .ok (.iadd, 1) := by decide +kernel
theorem dL_law_782 : decode cL_law 782 = .ok (.iaload, 1) := by decide +kernel
theorem dL_law_783 : decode cL_law 783 = .ok (.aload_n 3, 1) := by decide +kernel
theorem dL_law_784 : decode cL_law 784 = .ok (.invokestatic 103, 3) := by decide +kernel
theorem dL_law_787 : decode cL_law 787 = .ok (.istore 5, 2) := by decide +kernel
theorem dL_law_789 : decode cL_law 789 = .ok (.aload_n 2, 1) := by decide +kernel
theorem dL_law_790 : decode cL_law 790 = .ok (.aload_n 0, 1) := by decide +kernel
theorem dL_law_791 : decode cL_law 791 = .ok (.iload 4, 2) := by decide +kernel
theorem dL_law_793 : decode cL_law 793 = .ok (.iconst 1, 1) := by decide +kernel
theorem dL_law_794 : decode cL_law 794 = .ok (.iadd, 1) := by decide +kernel
theorem dL_law_795 : decode cL_law 795 = .ok (.iaload, 1) := by decide +kernel
theorem dL_law_796 : decode cL_law 796 = .ok (.aload_n 0, 1) := by decide +kernel
theorem dL_law_797 : decode cL_law 797 = .ok (.iload 4, 2) := by decide +kernel
theorem dL_law_799 : decode cL_law 799 = .ok (.iconst 2, 1) := by decide +kernel
theorem dL_law_800 : decode cL_law 800 = .ok (.iadd, 1) := by decide +kernel
theorem dL_law_801 : decode cL_law 801 = .ok (.iaload, 1) := by decide +kernel
theorem dL_law_802 : decode cL_law 802 = .ok (.aload_n 0, 1) := by decide +kernel
theorem dL_law_803 : decode cL_law 803 = .ok (.iload 4, 2) := by decide +kernel
theorem dL_law_805 : decode cL_law 805 = .ok (.iconst 3, 1) := by decide +kernel
theorem dL_law_806 : decode cL_law 806 = .ok (.iadd, 1) := by decide +kernel
theorem dL_law_807 : decode cL_law 807 = .ok (.iaload, 1) := by decide +kernel
theorem dL_law_808 : decode cL_law 808 = .ok (.invokevirtual 105, 3) := by decide +kernel
theorem dL_law_811 : decode cL_law 811 = .ok (.istore 6, 2) := by decide +kernel
theorem dL_law_813 : decode cL_law 813 = .ok (.aload_n 2, 1) := by decide +kernel
theorem dL_law_814 : decode cL_law 814 = .ok (.invokevirtual 75, 3) := by decide +kernel
theorem dL_law_817 : decode cL_law 817 = .ok (.iload 5, 2) := by decide +kernel
theorem dL_law_819 : decode cL_law 819 = .ok (.if_icmp .eq 5, 3) := by decide +kernel
theorem dL_law_822 : decode cL_law 822 = .ok (.iconst 0, 1) := by decide +kernel
theorem dL_law_823 : decode cL_law 823 = .ok (.ireturn, 1) := by decide +kernel
theorem dL_law_824 : decode cL_law 824 = .ok (.iload 5, 2) := by decide +kernel
theorem dL_law_826 : decode cL_law 826 = .ok (.ifCond .ne 15, 3) := by decide +kernel
theorem dL_law_829 : decode cL_law 829 = .ok (.aload_n 3, 1) := by decide +kernel
theorem dL_law_830 : decode cL_law 830 = .ok (.iconst 0, 1) := by decide +kernel
theorem dL_law_831 : decode cL_law 831 = .ok (.laload, 1) := by decide +kernel
theorem dL_law_832 : decode cL_law 832 = .ok (.iload 6, 2) := by decide +kernel
theorem dL_law_834 : decode cL_law 834 = .ok (.i2l, 1) := by decide +kernel
theorem dL_law_835 : decode cL_law 835 = .ok (.lcmp, 1) := by decide +kernel
theorem dL_law_836 : decode cL_law 836 = .ok (.ifCond .eq 5, 3) := by decide +kernel
theorem dL_law_839 : decode cL_law 839 = .ok (.iconst 0, 1) := by decide +kernel
theorem dL_law_840 : decode cL_law 840 = .ok (.ireturn, 1) := by decide +kernel
theorem dL_law_841 : decode cL_law 841 = .ok (.goto 460, 3) := by decide +kernel
theorem dL_law_844 : decode cL_law 844 = .ok (.aload_n 1, 1) := by decide +kernel
theorem dL_law_845 : decode cL_law 845 = .ok (.aload_n 0, 1) := by decide +kernel
theorem dL_law_846 : decode cL_law 846 = .ok (.iload 4, 2) := by decide +kernel
theorem dL_law_848 : decode cL_law 848 = .ok (.iconst 1, 1) := by decide +kernel
theorem dL_law_849 : decode cL_law 849 = .ok (.iadd, 1) := by decide +kernel
theorem dL_law_850 : decode cL_law 850 = .ok (.iaload, 1) := by decide +kernel
theorem dL_law_851 : decode cL_law 851 = .ok (.aload_n 0, 1) := by decide +kernel
theorem dL_law_852 : decode cL_law 852 = .ok (.iload 4, 2) := by decide +kernel
theorem dL_law_854 : decode cL_law 854 = .ok (.iconst 2, 1) := by decide +kernel
theorem dL_law_855 : decode cL_law 855 = .ok (.iadd, 1) := by decide +kernel
theorem dL_law_856 : decode cL_law 856 = .ok (.iaload, 1) := by decide +kernel
theorem dL_law_857 : decode cL_law 857 = .ok (.aload_n 3, 1) := by decide +kernel
theorem dL_law_858 : decode cL_law 858 = .ok (.invokestatic 106, 3) := by decide +kernel
theorem dL_law_861 : decode cL_law 861 = .ok (.istore 5, 2) := by decide +kernel
theorem dL_law_863 : decode cL_law 863 = .ok (.aload_n 2, 1) := by decide +kernel
theorem dL_law_864 : decode cL_law 864 = .ok (.aload_n 0, 1) := by decide +kernel
theorem dL_law_865 : decode cL_law 865 = .ok (.iload 4, 2) := by decide +kernel
theorem dL_law_867 : decode cL_law 867 = .ok (.iconst 1, 1) := by decide +kernel
theorem dL_law_868 : decode cL_law 868 = .ok (.iadd, 1) := by decide +kernel
theorem dL_law_869 : decode cL_law 869 = .ok (.iaload, 1) := by decide +kernel
theorem dL_law_870 : decode cL_law 870 = .ok (.aload_n 0, 1) := by decide +kernel
theorem dL_law_871 : decode cL_law 871 = .ok (.iload 4, 2) := by decide +kernel
theorem dL_law_873 : decode cL_law 873 = .ok (.iconst 2, 1) := by decide +kernel
theorem dL_law_874 : decode cL_law 874 = .ok (.iadd, 1) := by decide +kernel
theorem dL_law_875 : decode cL_law 875 = .ok (.iaload, 1) := by decide +kernel
theorem dL_law_876 : decode cL_law 876 = .ok (.invokevirtual 108, 3) := by decide +kernel
theorem dL_law_879 : decode cL_law 879 = .ok (.istore 6, 2) := by decide +kernel
theorem dL_law_881 : decode cL_law 881 = .ok (.aload_n 2, 1) := by decide +kernel
theorem dL_law_882 : decode cL_law 882 = .ok (.invokevirtual 75, 3) := by decide +kernel
theorem dL_law_885 : decode cL_law 885 = .ok (.iload 5, 2) := by decide +kernel
theorem dL_law_887 : decode cL_law 887 = .ok (.if_icmp .eq 5, 3) := by decide +kernel
theorem dL_law_890 : decode cL_law 890 = .ok (.iconst 0, 1) := by decide +kernel
theorem dL_law_891 : decode cL_law 891 = .ok (.ireturn, 1) := by decide +kernel
theorem dL_law_892 : decode cL_law 892 = .ok (.iload 5, 2) := by decide +kernel
theorem dL_law_894 : decode cL_law 894 = .ok (.ifCond .ne 15, 3) := by decide +kernel
theorem dL_law_897 : decode cL_law 897 = .ok (.aload_n 3, 1) := by decide +kernel
theorem dL_law_898 : decode cL_law 898 = .ok (.iconst 0, 1) := by decide +kernel
theorem dL_law_899 : decode cL_law 899 = .ok (.laload, 1) := by decide +kernel
theorem dL_law_900 : decode cL_law 900 = .ok (.iload 6, 2) := by decide +kernel
theorem dL_law_902 : decode cL_law 902 = .ok (.i2l, 1) := by decide +kernel
theorem dL_law_903 : decode cL_law 903 = .ok (.lcmp, 1) := by decide +kernel
theorem dL_law_904 : decode cL_law 904 = .ok (.ifCond .eq 5, 3) := by decide +kernel
theorem dL_law_907 : decode cL_law 907 = .ok (.iconst 0, 1) := by decide +kernel
theorem dL_law_908 : decode cL_law 908 = .ok (.ireturn, 1) := by decide +kernel
theorem dL_law_909 : decode cL_law 909 = .ok (.goto 392, 3) := by decide +kernel
theorem dL_law_912 : decode cL_law 912 = .ok (.aload_n 1, 1) := by decide +kernel
theorem dL_law_913 : decode cL_law 913 = .ok (.aload_n 0, 1) := by decide +kernel
theorem dL_law_914 : decode cL_law 914 = .ok (.iload 4, 2) := by decide +kernel
theorem dL_law_916 : decode cL_law 916 = .ok (.iconst 1, 1) := by decide +kernel
theorem dL_law_917 : decode cL_law 917 = .ok (.iadd, 1) := by decide +kernel
theorem dL_law_918 : decode cL_law 918 = .ok (.iaload, 1) := by decide +kernel
theorem dL_law_919 : decode cL_law 919 = .ok (.aload_n 0, 1) := by decide +kernel
theorem dL_law_920 : decode cL_law 920 = .ok (.iload 4, 2) := by decide +kernel
theorem dL_law_922 : decode cL_law 922 = .ok (.iconst 2, 1) := by decide +kernel
theorem dL_law_923 : decode cL_law 923 = .ok (.iadd, 1) := by decide +kernel
theorem dL_law_924 : decode cL_law 924 = .ok (.iaload, 1) := by decide +kernel
theorem dL_law_925 : decode cL_law 925 = .ok (.aload_n 0, 1) := by decide +kernel
theorem dL_law_926 : decode cL_law 926 = .ok (.iload 4, 2) := by decide +kernel
theorem dL_law_928 : decode cL_law 928 = .ok (.iconst 3, 1) := by decide +kernel
theorem dL_law_929 : decode cL_law 929 = .ok (.iadd, 1) := by decide +kernel
theorem dL_law_930 : decode cL_law 930 = .ok (.iaload, 1) := by decide +kernel
theorem dL_law_931 : decode cL_law 931 = .ok (.aload_n 3, 1) := by decide +kernel
theorem dL_law_932 : decode cL_law 932 = .ok (.invokestatic 109, 3) := by decide +kernel
theorem dL_law_935 : decode cL_law 935 = .ok (.istore 5, 2) := by decide +kernel
theorem dL_law_937 : decode cL_law 937 = .ok (.aload_n 2, 1) := by decide +kernel
theorem dL_law_938 : decode cL_law 938 = .ok (.aload_n 0, 1) := by decide +kernel
theorem dL_law_939 : decode cL_law 939 = .ok (.iload 4, 2) := by decide +kernel
theorem dL_law_941 : decode cL_law 941 = .ok (.iconst 1, 1) := by decide +kernel
theorem dL_law_942 : decode cL_law 942 = .ok (.iadd, 1) := by decide +kernel
theorem dL_law_943 : decode cL_law 943 = .ok (.iaload, 1) := by decide +kernel
theorem dL_law_944 : decode cL_law 944 = .ok (.aload_n 0, 1) := by decide +kernel
theorem dL_law_945 : decode cL_law 945 = .ok (.iload 4, 2) := by decide +kernel
theorem dL_law_947 : decode cL_law 947 = .ok (.iconst 2, 1) := by decide +kernel
theorem dL_law_948 : decode cL_law 948 = .ok (.iadd, 1) := by decide +kernel
theorem dL_law_949 : decode cL_law 949 = .ok (.iaload, 1) := by decide +kernel
theorem dL_law_950 : decode cL_law 950 = .ok (.aload_n 0, 1) := by decide +kernel
theorem dL_law_951 : decode cL_law 951 = .ok (.iload 4, 2) := by decide +kernel
theorem dL_law_953 : decode cL_law 953 = .ok (.iconst 3, 1) := by decide +kernel
theorem dL_law_954 : decode cL_law 954 = .ok (.iadd, 1) := by decide +kernel
theorem dL_law_955 : decode cL_law 955 = .ok (.iaload, 1) := by decide +kernel
theorem dL_law_956 : decode cL_law 956 = .ok (.invokevirtual 111, 3) := by decide +kernel
theorem dL_law_959 : decode cL_law 959 = .ok (.istore 6, 2) := by decide +kernel
theorem dL_law_961 : decode cL_law 961 = .ok (.aload_n 2, 1) := by decide +kernel
theorem dL_law_962 : decode cL_law 962 = .ok (.invokevirtual 75, 3) := by decide +kernel
theorem dL_law_965 : decode cL_law 965 = .ok (.iload 5, 2) := by decide +kernel
theorem dL_law_967 : decode cL_law 967 = .ok (.if_icmp .eq 5, 3) := by decide +kernel
theorem dL_law_970 : decode cL_law 970 = .ok (.iconst 0, 1) := by decide +kernel
theorem dL_law_971 : decode cL_law 971 = .ok (.ireturn, 1) := by decide +kernel
theorem dL_law_972 : decode cL_law 972 = .ok (.iload 5, 2) := by decide +kernel
theorem dL_law_974 : decode cL_law 974 = .ok (.ifCond .ne 15, 3) := by decide +kernel
theorem dL_law_977 : decode cL_law 977 = .ok (.aload_n 3, 1) := by decide +kernel
theorem dL_law_978 : decode cL_law 978 = .ok (.iconst 0, 1) := by decide +kernel
theorem dL_law_979 : decode cL_law 979 = .ok (.laload, 1) := by decide +kernel
theorem dL_law_980 : decode cL_law 980 = .ok (.iload 6, 2) := by decide +kernel
theorem dL_law_982 : decode cL_law 982 = .ok (.i2l, 1) := by decide +kernel
theorem dL_law_983 : decode cL_law 983 = .ok (.lcmp, 1) := by decide +kernel
theorem dL_law_984 : decode cL_law 984 = .ok (.ifCond .eq 5, 3) := by decide +kernel
theorem dL_law_987 : decode cL_law 987 = .ok (.iconst 0, 1) := by decide +kernel
theorem dL_law_988 : decode cL_law 988 = .ok (.ireturn, 1) := by decide +kernel
theorem dL_law_989 : decode cL_law 989 = .ok (.goto 312, 3) := by decide +kernel
theorem dL_law_992 : decode cL_law 992 = .ok (.aload_n 1, 1) := by decide +kernel
theorem dL_law_993 : decode cL_law 993 = .ok (.aload_n 0, 1) := by decide +kernel
theorem dL_law_994 : decode cL_law 994 = .ok (.iload 4, 2) := by decide +kernel
theorem dL_law_996 : decode cL_law 996 = .ok (.iconst 1, 1) := by decide +kernel
theorem dL_law_997 : decode cL_law 997 = .ok (.iadd, 1) := by decide +kernel
theorem dL_law_998 : decode cL_law 998 = .ok (.iaload, 1) := by decide +kernel
theorem dL_law_999 : decode cL_law 999 = .ok (.aload_n 3, 1) := by decide +kernel
theorem dL_law_1000 : decode cL_law 1000 = .ok (.invokestatic 112, 3) := by decide +kernel
theorem dL_law_1003 : decode cL_law 1003 = .ok (.istore 5, 2) := by decide +kernel
theorem dL_law_1005 : decode cL_law 1005 = .ok (.aload_n 2, 1) := by decide +kernel
theorem dL_law_1006 : decode cL_law 1006 = .ok (.aload_n 0, 1) := by decide +kernel
theorem dL_law_1007 : decode cL_law 1007 = .ok (.iload 4, 2) := by decide +kernel
theorem dL_law_1009 : decode cL_law 1009 = .ok (.iconst 1, 1) := by decide +kernel
theorem dL_law_1010 : decode cL_law 1010 = .ok (.iadd, 1) := by decide +kernel
theorem dL_law_1011 : decode cL_law 1011 = .ok (.iaload, 1) := by decide +kernel
theorem dL_law_1012 : decode cL_law 1012 = .ok (.invokevirtual 115, 3) := by decide +kernel
theorem dL_law_1015 : decode cL_law 1015 = .ok (.istore 6, 2) := by decide +kernel
theorem dL_law_1017 : decode cL_law 1017 = .ok (.aload_n 2, 1) := by decide +kernel
theorem dL_law_1018 : decode cL_law 1018 = .ok (.invokevirtual 75, 3) := by decide +kernel
theorem dL_law_1021 : decode cL_law 1021 = .ok (.iload 5, 2) := by decide +kernel
theorem dL_law_1023 : decode cL_law 1023 = .ok (.if_icmp .eq 5, 3) := by decide +kernel
theorem dL_law_1026 : decode cL_law 1026 = .ok (.iconst 0, 1) := by decide +kernel
theorem dL_law_1027 : decode cL_law 1027 = .ok (.ireturn, 1) := by decide +kernel
theorem dL_law_1028 : decode cL_law 1028 = .ok (.iload 5, 2) := by decide +kernel
theorem dL_law_1030 : decode cL_law 1030 = .ok (.ifCond .ne 15, 3) := by decide +kernel
theorem dL_law_1033 : decode cL_law 1033 = .ok (.aload_n 3, 1) := by decide +kernel
theorem dL_law_1034 : decode cL_law 1034 = .ok (.iconst 0, 1) := by decide +kernel
theorem dL_law_1035 : decode cL_law 1035 = .ok (.laload, 1) := by decide +kernel
theorem dL_law_1036 : decode cL_law 1036 = .ok (.iload 6, 2) := by decide +kernel
theorem dL_law_1038 : decode cL_law 1038 = .ok (.i2l, 1) := by decide +kernel
theorem dL_law_1039 : decode cL_law 1039 = .ok (.lcmp, 1) := by decide +kernel
theorem dL_law_1040 : decode cL_law 1040 = .ok (.ifCond .eq 5, 3) := by decide +kernel
theorem dL_law_1043 : decode cL_law 1043 = .ok (.iconst 0, 1) := by decide +kernel
theorem dL_law_1044 : decode cL_law 1044 = .ok (.ireturn, 1) := by decide +kernel
theorem dL_law_1045 : decode cL_law 1045 = .ok (.goto 256, 3) := by decide +kernel
theorem dL_law_1048 : decode cL_law 1048 = .ok (.aload_n 1, 1) := by decide +kernel
theorem dL_law_1049 : decode cL_law 1049 = .ok (.aload_n 0, 1) := by decide +kernel
theorem dL_law_1050 : decode cL_law 1050 = .ok (.iload 4, 2) := by decide +kernel
theorem dL_law_1052 : decode cL_law 1052 = .ok (.iconst 1, 1) := by decide +kernel
theorem dL_law_1053 : decode cL_law 1053 = .ok (.iadd, 1) := by decide +kernel
theorem dL_law_1054 : decode cL_law 1054 = .ok (.iaload, 1) := by decide +kernel
theorem dL_law_1055 : decode cL_law 1055 = .ok (.aload_n 0, 1) := by decide +kernel
theorem dL_law_1056 : decode cL_law 1056 = .ok (.iload 4, 2) := by decide +kernel
theorem dL_law_1058 : decode cL_law 1058 = .ok (.iconst 2, 1) := by decide +kernel
theorem dL_law_1059 : decode cL_law 1059 = .ok (.iadd, 1) := by decide +kernel
theorem dL_law_1060 : decode cL_law 1060 = .ok (.iaload, 1) := by decide +kernel
theorem dL_law_1061 : decode cL_law 1061 = .ok (.aload_n 3, 1) := by decide +kernel
theorem dL_law_1062 : decode cL_law 1062 = .ok (.invokestatic 116, 3) := by decide +kernel
theorem dL_law_1065 : decode cL_law 1065 = .ok (.istore 5, 2) := by decide +kernel
theorem dL_law_1067 : decode cL_law 1067 = .ok (.aload_n 2, 1) := by decide +kernel
theorem dL_law_1068 : decode cL_law 1068 = .ok (.aload_n 0, 1) := by decide +kernel
theorem dL_law_1069 : decode cL_law 1069 = .ok (.iload 4, 2) := by decide +kernel
theorem dL_law_1071 : decode cL_law 1071 = .ok (.iconst 1, 1) := by decide +kernel
theorem dL_law_1072 : decode cL_law 1072 = .ok (.iadd, 1) := by decide +kernel
theorem dL_law_1073 : decode cL_law 1073 = .ok (.iaload, 1) := by decide +kernel
theorem dL_law_1074 : decode cL_law 1074 = .ok (.aload_n 0, 1) := by decide +kernel
theorem dL_law_1075 : decode cL_law 1075 = .ok (.iload 4, 2) := by decide +kernel
theorem dL_law_1077 : decode cL_law 1077 = .ok (.iconst 2, 1) := by decide +kernel
theorem dL_law_1078 : decode cL_law 1078 = .ok (.iadd, 1) := by decide +kernel
theorem dL_law_1079 : decode cL_law 1079 = .ok (.iaload, 1) := by decide +kernel
theorem dL_law_1080 : decode cL_law 1080 = .ok (.invokevirtual 118, 3) := by decide +kernel
theorem dL_law_1083 : decode cL_law 1083 = .ok (.istore 6, 2) := by decide +kernel
theorem dL_law_1085 : decode cL_law 1085 = .ok (.aload_n 2, 1) := by decide +kernel
theorem dL_law_1086 : decode cL_law 1086 = .ok (.invokevirtual 75, 3) := by decide +kernel
theorem dL_law_1089 : decode cL_law 1089 = .ok (.iload 5, 2) := by decide +kernel
theorem dL_law_1091 : decode cL_law 1091 = .ok (.if_icmp .eq 5, 3) := by decide +kernel
theorem dL_law_1094 : decode cL_law 1094 = .ok (.iconst 0, 1) := by decide +kernel
theorem dL_law_1095 : decode cL_law 1095 = .ok (.ireturn, 1) := by decide +kernel
theorem dL_law_1096 : decode cL_law 1096 = .ok (.iload 5, 2) := by decide +kernel
theorem dL_law_1098 : decode cL_law 1098 = .ok (.ifCond .ne 15, 3) := by decide +kernel
theorem dL_law_1101 : decode cL_law 1101 = .ok (.aload_n 3, 1) := by decide +kernel
theorem dL_law_1102 : decode cL_law 1102 = .ok (.iconst 0, 1) := by decide +kernel
theorem dL_law_1103 : decode cL_law 1103 = .ok (.laload, 1) := by decide +kernel
theorem dL_law_1104 : decode cL_law 1104 = .ok (.iload 6, 2) := by decide +kernel
theorem dL_law_1106 : decode cL_law 1106 = .ok (.i2l, 1) := by decide +kernel
theorem dL_law_1107 : decode cL_law 1107 = .ok (.lcmp, 1) := by decide +kernel
theorem dL_law_1108 : decode cL_law 1108 = .ok (.ifCond .eq 5, 3) := by decide +kernel
theorem dL_law_1111 : decode cL_law 1111 = .ok (.iconst 0, 1) := by decide +kernel
theorem dL_law_1112 : decode cL_law 1112 = .ok (.ireturn, 1) := by decide +kernel
theorem dL_law_1113 : decode cL_law 1113 = .ok (.goto 188, 3) := by decide +kernel
theorem dL_law_1116 : decode cL_law 1116 = .ok (.aload_n 1, 1) := by decide +kernel
theorem dL_law_1117 : decode cL_law 1117 = .ok (.aload_n 0, 1) := by decide +kernel
theorem dL_law_1118 : decode cL_law 1118 = .ok (.iload 4, 2) := by decide +kernel
theorem dL_law_1120 : decode cL_law 1120 = .ok (.iconst 1, 1) := by decide +kernel
theorem dL_law_1121 : decode cL_law 1121 = .ok (.iadd, 1) := by decide +kernel
theorem dL_law_1122 : decode cL_law 1122 = .ok (.iaload, 1) := by decide +kernel
theorem dL_law_1123 : decode cL_law 1123 = .ok (.aload_n 0, 1) := by decide +kernel
theorem dL_law_1124 : decode cL_law 1124 = .ok (.iload 4, 2) := by decide +kernel
theorem dL_law_1126 : decode cL_law 1126 = .ok (.iconst 2, 1) := by decide +kernel
theorem dL_law_1127 : decode cL_law 1127 = .ok (.iadd, 1) := by decide +kernel
theorem dL_law_1128 : decode cL_law 1128 = .ok (.iaload, 1) := by decide +kernel
theorem dL_law_1129 : decode cL_law 1129 = .ok (.aload_n 0, 1) := by decide +kernel
theorem dL_law_1130 : decode cL_law 1130 = .ok (.iload 4, 2) := by decide +kernel
theorem dL_law_1132 : decode cL_law 1132 = .ok (.iconst 3, 1) := by decide +kernel
theorem dL_law_1133 : decode cL_law 1133 = .ok (.iadd, 1) := by decide +kernel
theorem dL_law_1134 : decode cL_law 1134 = .ok (.iaload, 1) := by decide +kernel
theorem dL_law_1135 : decode cL_law 1135 = .ok (.aload_n 3, 1) := by decide +kernel
theorem dL_law_1136 : decode cL_law 1136 = .ok (.invokestatic 119, 3) := by decide +kernel
theorem dL_law_1139 : decode cL_law 1139 = .ok (.istore 5, 2) := by decide +kernel
theorem dL_law_1141 : decode cL_law 1141 = .ok (.aload_n 2, 1) := by decide +kernel
theorem dL_law_1142 : decode cL_law 1142 = .ok (.aload_n 0, 1) := by decide +kernel
theorem dL_law_1143 : decode cL_law 1143 = .ok (.iload 4, 2) := by decide +kernel
theorem dL_law_1145 : decode cL_law 1145 = .ok (.iconst 1, 1) := by decide +kernel
theorem dL_law_1146 : decode cL_law 1146 = .ok (.iadd, 1) := by decide +kernel
theorem dL_law_1147 : decode cL_law 1147 = .ok (.iaload, 1) := by decide +kernel
theorem dL_law_1148 : decode cL_law 1148 = .ok (.aload_n 0, 1) := by decide +kernel
theorem dL_law_1149 : decode cL_law 1149 = .ok (.iload 4, 2) := by decide +kernel
theorem dL_law_1151 : decode cL_law 1151 = .ok (.iconst 2, 1) := by decide +kernel
theorem dL_law_1152 : decode cL_law 1152 = .ok (.iadd, 1) := by decide +kernel
theorem dL_law_1153 : decode cL_law 1153 = .ok (.iaload, 1) := by decide +kernel
theorem dL_law_1154 : decode cL_law 1154 = .ok (.aload_n 0, 1) := by decide +kernel
theorem dL_law_1155 : decode cL_law 1155 = .ok (.iload 4, 2) := by decide +kernel
theorem dL_law_1157 : decode cL_law 1157 = .ok (.iconst 3, 1) := by decide +kernel
theorem dL_law_1158 : decode cL_law 1158 = .ok (.iadd, 1) := by decide +kernel
theorem dL_law_1159 : decode cL_law 1159 = .ok (.iaload, 1) := by decide +kernel
theorem dL_law_1160 : decode cL_law 1160 = .ok (.invokevirtual 121, 3) := by decide +kernel
theorem dL_law_1163 : decode cL_law 1163 = .ok (.istore 6, 2) := by decide +kernel
theorem dL_law_1165 : decode cL_law 1165 = .ok (.aload_n 2, 1) := by decide +kernel
theorem dL_law_1166 : decode cL_law 1166 = .ok (.invokevirtual 75, 3) := by decide +kernel
theorem dL_law_1169 : decode cL_law 1169 = .ok (.iload 5, 2) := by decide +kernel
theorem dL_law_1171 : decode cL_law 1171 = .ok (.if_icmp .eq 5, 3) := by decide +kernel
theorem dL_law_1174 : decode cL_law 1174 = .ok (.iconst 0, 1) := by decide +kernel
theorem dL_law_1175 : decode cL_law 1175 = .ok (.ireturn, 1) := by decide +kernel
theorem dL_law_1176 : decode cL_law 1176 = .ok (.iload 5, 2) := by decide +kernel
theorem dL_law_1178 : decode cL_law 1178 = .ok (.ifCond .ne 15, 3) := by decide +kernel
theorem dL_law_1181 : decode cL_law 1181 = .ok (.aload_n 3, 1) := by decide +kernel
theorem dL_law_1182 : decode cL_law 1182 = .ok (.iconst 0, 1) := by decide +kernel
theorem dL_law_1183 : decode cL_law 1183 = .ok (.laload, 1) := by decide +kernel
theorem dL_law_1184 : decode cL_law 1184 = .ok (.iload 6, 2) := by decide +kernel
theorem dL_law_1186 : decode cL_law 1186 = .ok (.i2l, 1) := by decide +kernel
theorem dL_law_1187 : decode cL_law 1187 = .ok (.lcmp, 1) := by decide +kernel
theorem dL_law_1188 : decode cL_law 1188 = .ok (.ifCond .eq 5, 3) := by decide +kernel
theorem dL_law_1191 : decode cL_law 1191 = .ok (.iconst 0, 1) := by decide +kernel
theorem dL_law_1192 : decode cL_law 1192 = .ok (.ireturn, 1) := by decide +kernel
theorem dL_law_1193 : decode cL_law 1193 = .ok (.goto 108, 3) := by decide +kernel
theorem dL_law_1196 : decode cL_law 1196 = .ok (.aload_n 1, 1) := by decide +kernel
theorem dL_law_1197 : decode cL_law 1197 = .ok (.aload_n 0, 1) := by decide +kernel
theorem dL_law_1198 : decode cL_law 1198 = .ok (.iload 4, 2) := by decide +kernel
theorem dL_law_1200 : decode cL_law 1200 = .ok (.iconst 1, 1) := by decide +kernel
theorem dL_law_1201 : decode cL_law 1201 = .ok (.iadd, 1) := by decide +kernel
theorem dL_law_1202 : decode cL_law 1202 = .ok (.iaload, 1) := by decide +kernel
theorem dL_law_1203 : decode cL_law 1203 = .ok (.aload_n 0, 1) := by decide +kernel
theorem dL_law_1204 : decode cL_law 1204 = .ok (.iload 4, 2) := by decide +kernel
theorem dL_law_1206 : decode cL_law 1206 = .ok (.iconst 2, 1) := by decide +kernel
theorem dL_law_1207 : decode cL_law 1207 = .ok (.iadd, 1) := by decide +kernel
theorem dL_law_1208 : decode cL_law 1208 = .ok (.iaload, 1) := by decide +kernel
theorem dL_law_1209 : decode cL_law 1209 = .ok (.aload_n 0, 1) := by decide +kernel
theorem dL_law_1210 : decode cL_law 1210 = .ok (.iload 4, 2) := by decide +kernel
theorem dL_law_1212 : decode cL_law 1212 = .ok (.iconst 3, 1) := by decide +kernel
theorem dL_law_1213 : decode cL_law 1213 = .ok (.iadd, 1) := by decide +kernel
theorem dL_law_1214 : decode cL_law 1214 = .ok (.iaload, 1) := by decide +kernel
theorem dL_law_1215 : decode cL_law 1215 = .ok (.aload_n 0, 1) := by decide +kernel
theorem dL_law_1216 : decode cL_law 1216 = .ok (.iload 4, 2) := by decide +kernel
theorem dL_law_1218 : decode cL_law 1218 = .ok (.iconst 4, 1) := by decide +kernel
theorem dL_law_1219 : decode cL_law 1219 = .ok (.iadd, 1) := by decide +kernel
theorem dL_law_1220 : decode cL_law 1220 = .ok (.iaload, 1) := by decide +kernel
theorem dL_law_1221 : decode cL_law 1221 = .ok (.aload_n 3, 1) := by decide +kernel
theorem dL_law_1222 : decode cL_law 1222 = .ok (.invokestatic 122, 3) := by decide +kernel
theorem dL_law_1225 : decode cL_law 1225 = .ok (.istore 5, 2) := by decide +kernel
theorem dL_law_1227 : decode cL_law 1227 = .ok (.aload_n 2, 1) := by decide +kernel
theorem dL_law_1228 : decode cL_law 1228 = .ok (.aload_n 0, 1) := by decide +kernel
theorem dL_law_1229 : decode cL_law 1229 = .ok (.iload 4, 2) := by decide +kernel
theorem dL_law_1231 : decode cL_law 1231 = .ok (.iconst 1, 1) := by decide +kernel
theorem dL_law_1232 : decode cL_law 1232 = .ok (.iadd, 1) := by decide +kernel
theorem dL_law_1233 : decode cL_law 1233 = .ok (.iaload, 1) := by decide +kernel
theorem dL_law_1234 : decode cL_law 1234 = .ok (.aload_n 0, 1) := by decide +kernel
theorem dL_law_1235 : decode cL_law 1235 = .ok (.iload 4, 2) := by decide +kernel
theorem dL_law_1237 : decode cL_law 1237 = .ok (.iconst 2, 1) := by decide +kernel
theorem dL_law_1238 : decode cL_law 1238 = .ok (.iadd, 1) := by decide +kernel
theorem dL_law_1239 : decode cL_law 1239 = .ok (.iaload, 1) := by decide +kernel
theorem dL_law_1240 : decode cL_law 1240 = .ok (.aload_n 0, 1) := by decide +kernel
theorem dL_law_1241 : decode cL_law 1241 = .ok (.iload 4, 2) := by decide +kernel
theorem dL_law_1243 : decode cL_law 1243 = .ok (.iconst 3, 1) := by decide +kernel
theorem dL_law_1244 : decode cL_law 1244 = .ok (.iadd, 1) := by decide +kernel
theorem dL_law_1245 : decode cL_law 1245 = .ok (.iaload, 1) := by decide +kernel
theorem dL_law_1246 : decode cL_law 1246 = .ok (.aload_n 0, 1) := by decide +kernel
theorem dL_law_1247 : decode cL_law 1247 = .ok (.iload 4, 2) := by decide +kernel
theorem dL_law_1249 : decode cL_law 1249 = .ok (.iconst 4, 1) := by decide +kernel
theorem dL_law_1250 : decode cL_law 1250 = .ok (.iadd, 1) := by decide +kernel
theorem dL_law_1251 : decode cL_law 1251 = .ok (.iaload, 1) := by decide +kernel
theorem dL_law_1252 : decode cL_law 1252 = .ok (.invokevirtual 124, 3) := by decide +kernel
theorem dL_law_1255 : decode cL_law 1255 = .ok (.istore 6, 2) := by decide +kernel
theorem dL_law_1257 : decode cL_law 1257 = .ok (.aload_n 2, 1) := by decide +kernel
theorem dL_law_1258 : decode cL_law 1258 = .ok (.invokevirtual 75, 3) := by decide +kernel
theorem dL_law_1261 : decode cL_law 1261 = .ok (.iload 5, 2) := by decide +kernel
theorem dL_law_1263 : decode cL_law 1263 = .ok (.if_icmp .eq 5, 3) := by decide +kernel
theorem dL_law_1266 : decode cL_law 1266 = .ok (.iconst 0, 1) := by decide +kernel
theorem dL_law_1267 : decode cL_law 1267 = .ok (.ireturn, 1) := by decide +kernel
theorem dL_law_1268 : decode cL_law 1268 = .ok (.iload 5, 2) := by decide +kernel
theorem dL_law_1270 : decode cL_law 1270 = .ok (.ifCond .ne 15, 3) := by decide +kernel
theorem dL_law_1273 : decode cL_law 1273 = .ok (.aload_n 3, 1) := by decide +kernel
theorem dL_law_1274 : decode cL_law 1274 = .ok (.iconst 0, 1) := by decide +kernel
theorem dL_law_1275 : decode cL_law 1275 = .ok (.laload, 1) := by decide +kernel
theorem dL_law_1276 : decode cL_law 1276 = .ok (.iload 6, 2) := by decide +kernel
theorem dL_law_1278 : decode cL_law 1278 = .ok (.i2l, 1) := by decide +kernel
theorem dL_law_1279 : decode cL_law 1279 = .ok (.lcmp, 1) := by decide +kernel
theorem dL_law_1280 : decode cL_law 1280 = .ok (.ifCond .eq 5, 3) := by decide +kernel
theorem dL_law_1283 : decode cL_law 1283 = .ok (.iconst 0, 1) := by decide +kernel
theorem dL_law_1284 : decode cL_law 1284 = .ok (.ireturn, 1) := by decide +kernel
theorem dL_law_1285 : decode cL_law 1285 = .ok (.goto 16, 3) := by decide +kernel
theorem dL_law_1288 : decode cL_law 1288 = .ok (.aload_n 1, 1) := by decide +kernel
theorem dL_law_1289 : decode cL_law 1289 = .ok (.invokevirtual 125, 3) := by decide +kernel
theorem dL_law_1292 : decode cL_law 1292 = .ok (.aload_n 2, 1) := by decide +kernel
theorem dL_law_1293 : decode cL_law 1293 = .ok (.invokevirtual 128, 3) := by decide +kernel
theorem dL_law_1296 : decode cL_law 1296 = .ok (.if_icmp .eq 5, 3) := by decide +kernel
theorem dL_law_1299 : decode cL_law 1299 = .ok (.iconst 0, 1) := by decide +kernel
theorem dL_law_1300 : decode cL_law 1300 = .ok (.ireturn, 1) := by decide +kernel
theorem dL_law_1301 : decode cL_law 1301 = .ok (.iinc 4 5, 3) := by decide +kernel
theorem dL_law_1304 : decode cL_law 1304 = .ok (.goto (-1281), 3) := by decide +kernel
theorem dL_law_1307 : decode cL_law 1307 = .ok (.iconst 1, 1) := by decide +kernel
theorem dL_law_1308 : decode cL_law 1308 = .ok (.ireturn, 1) := by decide +kernel
