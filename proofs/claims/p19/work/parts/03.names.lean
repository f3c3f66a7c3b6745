def RX0 : String := "RollerLeaf$Cells"
def TX0 : u_T := fun k => match k with
  | 0 => ("RollerLeaf$Cells", "columns", "I", true)
  | 1 => ("RollerLeaf$Cells", "rows", "I", true)
  | _ => ("RollerLeaf$Cells", "colours", "[I", true)
def tyX0 : Nat → FieldType := fun k => match k with
  | 0 => .int
  | 1 => .int
  | _ => .array .int
abbrev wsX00 : List Cond := u_ws RX0 TX0 3
theorem nmX0 : ∀ a, a < 3 → ∀ b, b < 3 → a ≠ b → (TX0 a).2.1 ≠ (TX0 b).2.1 := by decide +kernel
theorem tyX0_ok : ∀ k, k < 3 → parseFieldDescriptor (TX0 k).2.2.1 = some (tyX0 k) := by decide +kernel
abbrev cX0_init : ByteArray := prog_2_method_1_code
def yX0_init : MethodName := ⟨RX0, "<init>", "(II)V"⟩
abbrev cX0_holds : ByteArray := prog_2_method_2_code
def yX0_holds : MethodName := ⟨RX0, "holds", "(II)Z"⟩
abbrev cX0_colourAt : ByteArray := prog_2_method_3_code
def yX0_colourAt : MethodName := ⟨RX0, "colourAt", "(II)I"⟩
abbrev cX0_put : ByteArray := prog_2_method_4_code
def yX0_put : MethodName := ⟨RX0, "put", "(III)V"⟩
abbrev cX0_place : ByteArray := prog_2_method_5_code
def yX0_place : MethodName := ⟨RX0, "place", "(II)I"⟩
def RX1 : String := "RollerLeaf$Lot"
def TX1 : u_T := fun k => match k with
  | 0 => ("RollerLeaf$Lot", "roller", "LRollerLeaf$Roller;", true)
  | 1 => ("RollerLeaf$Lot", "rollerNumber", "I", true)
  | 2 => ("RollerLeaf$Lot", "dye", "I", true)
  | 3 => ("RollerLeaf$Lot", "length", "I", true)
  | _ => ("RollerLeaf$Lot", "rollsLeft", "I", false)
def tyX1 : Nat → FieldType := fun k => match k with
  | 0 => .object "RollerLeaf$Roller"
  | 1 => .int
  | 2 => .int
  | 3 => .int
  | _ => .int
abbrev wsX10 : List Cond := u_ws RX1 TX1 5
theorem nmX1 : ∀ a, a < 5 → ∀ b, b < 5 → a ≠ b → (TX1 a).2.1 ≠ (TX1 b).2.1 := by decide +kernel
theorem tyX1_ok : ∀ k, k < 5 → parseFieldDescriptor (TX1 k).2.2.1 = some (tyX1 k) := by decide +kernel
abbrev cX1_init : ByteArray := prog_3_method_1_code
def yX1_init : MethodName := ⟨RX1, "<init>", "(LRollerLeaf$Roller;IIII)V"⟩
abbrev cX1_roundsOfARoll : ByteArray := prog_3_method_2_code
def yX1_roundsOfARoll : MethodName := ⟨RX1, "roundsOfARoll", "()I"⟩
def RX2 : String := "RollerLeaf$OpenedRolls"
def TX2 : u_T := fun k => match k with
  | 0 => ("RollerLeaf$OpenedRolls", "lastCuts", "[I", true)
  | 1 => ("RollerLeaf$OpenedRolls", "opened", "I", false)
  | 2 => ("RollerLeaf$OpenedRolls", "mostOpened", "I", false)
  | 3 => ("RollerLeaf$OpenedRolls", "length", "I", false)
  | 4 => ("RollerLeaf$OpenedRolls", "repeatRows", "I", false)
  | _ => ("RollerLeaf$OpenedRolls", "phase", "I", false)
def tyX2 : Nat → FieldType := fun k => match k with
  | 0 => .array .int
  | 1 => .int
  | 2 => .int
  | 3 => .int
  | 4 => .int
  | _ => .int
abbrev wsX20 : List Cond := u_ws RX2 TX2 6
theorem nmX2 : ∀ a, a < 6 → ∀ b, b < 6 → a ≠ b → (TX2 a).2.1 ≠ (TX2 b).2.1 := by decide +kernel
theorem tyX2_ok : ∀ k, k < 6 → parseFieldDescriptor (TX2 k).2.2.1 = some (tyX2 k) := by decide +kernel
abbrev cX2_init : ByteArray := prog_4_method_1_code
def yX2_init : MethodName := ⟨RX2, "<init>", "()V"⟩
abbrev cX2_beginAnew : ByteArray := prog_4_method_2_code
def yX2_beginAnew : MethodName := ⟨RX2, "beginAnew", "(LRollerLeaf$Lot;I)V"⟩
abbrev cX2_takeDrop : ByteArray := prog_4_method_3_code
def yX2_takeDrop : MethodName := ⟨RX2, "takeDrop", "(I)I"⟩
abbrev cX2_takeFromNewRoll : ByteArray := prog_4_method_4_code
def yX2_takeFromNewRoll : MethodName := ⟨RX2, "takeFromNewRoll", "(I)I"⟩
def RX3 : String := "RollerLeaf$Pattern"
def TX3 : u_T := fun k => match k with
  | 0 => ("RollerLeaf$Pattern", "motif", "LRollerLeaf$Cells;", true)
  | 1 => ("RollerLeaf$Pattern", "symmetry", "I", true)
  | 2 => ("RollerLeaf$Pattern", "repeatColumns", "I", true)
  | _ => ("RollerLeaf$Pattern", "repeatRows", "I", true)
def tyX3 : Nat → FieldType := fun k => match k with
  | 0 => .object "RollerLeaf$Cells"
  | 1 => .int
  | 2 => .int
  | _ => .int
abbrev wsX30 : List Cond := u_ws RX3 TX3 4
theorem nmX3 : ∀ a, a < 4 → ∀ b, b < 4 → a ≠ b → (TX3 a).2.1 ≠ (TX3 b).2.1 := by decide +kernel
theorem tyX3_ok : ∀ k, k < 4 → parseFieldDescriptor (TX3 k).2.2.1 = some (tyX3 k) := by decide +kernel
abbrev cX3_init : ByteArray := prog_5_method_1_code
def yX3_init : MethodName := ⟨RX3, "<init>", "(III)V"⟩
abbrev cX3_colourAt : ByteArray := prog_5_method_2_code
def yX3_colourAt : MethodName := ⟨RX3, "colourAt", "(II)I"⟩
abbrev cX3_flipsColumns : ByteArray := prog_5_method_3_code
def yX3_flipsColumns : MethodName := ⟨RX3, "flipsColumns", "(ZZ)Z"⟩
abbrev cX3_flipsRows : ByteArray := prog_5_method_4_code
def yX3_flipsRows : MethodName := ⟨RX3, "flipsRows", "(ZZ)Z"⟩
abbrev cX3_leastMove : ByteArray := prog_5_method_5_code
def yX3_leastMove : MethodName := ⟨RX3, "leastMove", "(Z)I"⟩
abbrev cX3_staysWhenMoved : ByteArray := prog_5_method_6_code
def yX3_staysWhenMoved : MethodName := ⟨RX3, "staysWhenMoved", "(II)Z"⟩
abbrev cX3_drawn : ByteArray := prog_5_method_7_code
def yX3_drawn : MethodName := ⟨RX3, "drawn", "()LRollerLeaf$Cells;"⟩
def RX4 : String := "RollerLeaf$Roller"
def TX4 : u_T := fun k => match k with
  | 0 => ("RollerLeaf$Roller", "round", "I", true)
  | _ => ("RollerLeaf$Roller", "engraving", "LRollerLeaf$Cells;", true)
def tyX4 : Nat → FieldType := fun k => match k with
  | 0 => .int
  | _ => .object "RollerLeaf$Cells"
abbrev wsX40 : List Cond := u_ws RX4 TX4 2
theorem nmX4 : ∀ a, a < 2 → ∀ b, b < 2 → a ≠ b → (TX4 a).2.1 ≠ (TX4 b).2.1 := by decide +kernel
theorem tyX4_ok : ∀ k, k < 2 → parseFieldDescriptor (TX4 k).2.2.1 = some (tyX4 k) := by decide +kernel
abbrev cX4_init : ByteArray := prog_6_method_1_code
def yX4_init : MethodName := ⟨RX4, "<init>", "(ILRollerLeaf$Cells;)V"⟩
def RX5 : String := "RollerLeaf$Room"
def TX5 : u_T := fun k => match k with
  | 0 => ("RollerLeaf$Room", "walls", "[LRollerLeaf$Wall;", true)
  | 1 => ("RollerLeaf$Room", "rolls", "LRollerLeaf$OpenedRolls;", true)
  | 2 => ("RollerLeaf$Room", "wallCount", "I", false)
  | 3 => ("RollerLeaf$Room", "lot", "LRollerLeaf$Lot;", false)
  | _ => ("RollerLeaf$Room", "lotNumber", "I", false)
def tyX5 : Nat → FieldType := fun k => match k with
  | 0 => .array (.object "RollerLeaf$Wall")
  | 1 => .object "RollerLeaf$OpenedRolls"
  | 2 => .int
  | 3 => .object "RollerLeaf$Lot"
  | _ => .int
abbrev wsX50 : List Cond := u_ws RX5 TX5 5
theorem nmX5 : ∀ a, a < 5 → ∀ b, b < 5 → a ≠ b → (TX5 a).2.1 ≠ (TX5 b).2.1 := by decide +kernel
theorem tyX5_ok : ∀ k, k < 5 → parseFieldDescriptor (TX5 k).2.2.1 = some (tyX5 k) := by decide +kernel
abbrev cX5_init : ByteArray := prog_7_method_1_code
def yX5_init : MethodName := ⟨RX5, "<init>", "()V"⟩
abbrev cX5_isHung : ByteArray := prog_7_method_2_code
def yX5_isHung : MethodName := ⟨RX5, "isHung", "()Z"⟩
abbrev cX5_makeBare : ByteArray := prog_7_method_3_code
def yX5_makeBare : MethodName := ⟨RX5, "makeBare", "()V"⟩
abbrev cX5_addWall : ByteArray := prog_7_method_4_code
def yX5_addWall : MethodName := ⟨RX5, "addWall", "(II)I"⟩
abbrev cX5_bestPhase : ByteArray := prog_7_method_5_code
def yX5_bestPhase : MethodName := ⟨RX5, "bestPhase", "(LRollerLeaf$Lot;)I"⟩
abbrev cX5_cutAll : ByteArray := prog_7_method_6_code
def yX5_cutAll : MethodName := ⟨RX5, "cutAll", "(LRollerLeaf$Lot;I)Z"⟩
abbrev cX5_hangFrom : ByteArray := prog_7_method_7_code
def yX5_hangFrom : MethodName := ⟨RX5, "hangFrom", "(LRollerLeaf$Lot;II)I"⟩
abbrev cX5_lengthenFrom : ByteArray := prog_7_method_8_code
def yX5_lengthenFrom : MethodName := ⟨RX5, "lengthenFrom", "(LRollerLeaf$Lot;LRollerLeaf$Wall;I)Z"⟩
abbrev cX5_allDrops : ByteArray := prog_7_method_9_code
def yX5_allDrops : MethodName := ⟨RX5, "allDrops", "()I"⟩
abbrev cX5_waste : ByteArray := prog_7_method_10_code
def yX5_waste : MethodName := ⟨RX5, "waste", "()I"⟩
def RX6 : String := "RollerLeaf$Wall"
def TX6 : u_T := fun k => match k with
  | 0 => ("RollerLeaf$Wall", "height", "I", true)
  | 1 => ("RollerLeaf$Wall", "cuts", "[I", true)
  | _ => ("RollerLeaf$Wall", "drops", "I", false)
def tyX6 : Nat → FieldType := fun k => match k with
  | 0 => .int
  | 1 => .array .int
  | _ => .int
abbrev wsX60 : List Cond := u_ws RX6 TX6 3
theorem nmX6 : ∀ a, a < 3 → ∀ b, b < 3 → a ≠ b → (TX6 a).2.1 ≠ (TX6 b).2.1 := by decide +kernel
theorem tyX6_ok : ∀ k, k < 3 → parseFieldDescriptor (TX6 k).2.2.1 = some (tyX6 k) := by decide +kernel
abbrev cX6_init : ByteArray := prog_8_method_1_code
def yX6_init : MethodName := ⟨RX6, "<init>", "(II)V"⟩
abbrev cX6_takeDrops : ByteArray := prog_8_method_2_code
def yX6_takeDrops : MethodName := ⟨RX6, "takeDrops", "(LRollerLeaf$OpenedRolls;I)Z"⟩
def RX7 : String := "RollerLeaf"
def TX7 : u_T := fun k => match k with
  | 0 => ("RollerLeaf", "patterns", "[LRollerLeaf$Pattern;", true)
  | 1 => ("RollerLeaf", "patternCount", "I", false)
  | 2 => ("RollerLeaf", "rollers", "[LRollerLeaf$Roller;", true)
  | 3 => ("RollerLeaf", "rollerCount", "I", false)
  | 4 => ("RollerLeaf", "lots", "[LRollerLeaf$Lot;", true)
  | 5 => ("RollerLeaf", "lotCount", "I", false)
  | 6 => ("RollerLeaf", "rooms", "[LRollerLeaf$Room;", true)
  | _ => ("RollerLeaf", "lostRows", "I", false)
def tyX7 : Nat → FieldType := fun k => match k with
  | 0 => .array (.object "RollerLeaf$Pattern")
  | 1 => .int
  | 2 => .array (.object "RollerLeaf$Roller")
  | 3 => .int
  | 4 => .array (.object "RollerLeaf$Lot")
  | 5 => .int
  | 6 => .array (.object "RollerLeaf$Room")
  | _ => .int
abbrev wsX70 : List Cond := u_ws RX7 TX7 8
theorem nmX7 : ∀ a, a < 8 → ∀ b, b < 8 → a ≠ b → (TX7 a).2.1 ≠ (TX7 b).2.1 := by decide +kernel
theorem tyX7_ok : ∀ k, k < 8 → parseFieldDescriptor (TX7 k).2.2.1 = some (tyX7 k) := by decide +kernel
abbrev cX7_init : ByteArray := prog_1_method_1_code
def yX7_init : MethodName := ⟨RX7, "<init>", "()V"⟩
abbrev cX7_pattern : ByteArray := prog_1_method_2_code
def yX7_pattern : MethodName := ⟨RX7, "pattern", "(III)I"⟩
abbrev cX7_paint : ByteArray := prog_1_method_3_code
def yX7_paint : MethodName := ⟨RX7, "paint", "(IIII)I"⟩
abbrev cX7_colour : ByteArray := prog_1_method_4_code
def yX7_colour : MethodName := ⟨RX7, "colour", "(III)I"⟩
abbrev cX7_repeat : ByteArray := prog_1_method_5_code
def yX7_repeat : MethodName := ⟨RX7, "repeat", "(IZ)I"⟩
abbrev cX7_repeatAnew : ByteArray := prog_1_method_6_code
def yX7_repeatAnew : MethodName := ⟨RX7, "repeatAnew", "(IZ)I"⟩
abbrev cX7_roller : ByteArray := prog_1_method_7_code
def yX7_roller : MethodName := ⟨RX7, "roller", "(II)I"⟩
abbrev cX7_lot : ByteArray := prog_1_method_8_code
def yX7_lot : MethodName := ⟨RX7, "lot", "(IIII)I"⟩
abbrev cX7_lotOf : ByteArray := prog_1_method_9_code
def yX7_lotOf : MethodName := ⟨RX7, "lotOf", "(II)I"⟩
abbrev cX7_wall : ByteArray := prog_1_method_10_code
def yX7_wall : MethodName := ⟨RX7, "wall", "(III)I"⟩
abbrev cX7_hang : ByteArray := prog_1_method_11_code
def yX7_hang : MethodName := ⟨RX7, "hang", "(II)I"⟩
abbrev cX7_lengthen : ByteArray := prog_1_method_12_code
def yX7_lengthen : MethodName := ⟨RX7, "lengthen", "(III)I"⟩
abbrev cX7_strip : ByteArray := prog_1_method_13_code
def yX7_strip : MethodName := ⟨RX7, "strip", "(I)I"⟩
abbrev cX7_room : ByteArray := prog_1_method_14_code
def yX7_room : MethodName := ⟨RX7, "room", "(II)I"⟩
abbrev cX7_cut : ByteArray := prog_1_method_15_code
def yX7_cut : MethodName := ⟨RX7, "cut", "(III)I"⟩
abbrev cX7_seen : ByteArray := prog_1_method_16_code
def yX7_seen : MethodName := ⟨RX7, "seen", "(IIII)I"⟩
abbrev cX7_lost : ByteArray := prog_1_method_17_code
def yX7_lost : MethodName := ⟨RX7, "lost", "()I"⟩
abbrev cX7_patternAt : ByteArray := prog_1_method_18_code
def yX7_patternAt : MethodName := ⟨RX7, "patternAt", "(I)LRollerLeaf$Pattern;"⟩
abbrev cX7_rollerAt : ByteArray := prog_1_method_19_code
def yX7_rollerAt : MethodName := ⟨RX7, "rollerAt", "(I)LRollerLeaf$Roller;"⟩
abbrev cX7_lotAt : ByteArray := prog_1_method_20_code
def yX7_lotAt : MethodName := ⟨RX7, "lotAt", "(I)LRollerLeaf$Lot;"⟩
abbrev cX7_roomAt : ByteArray := prog_1_method_21_code
def yX7_roomAt : MethodName := ⟨RX7, "roomAt", "(I)LRollerLeaf$Room;"⟩
abbrev cX7_wallAt : ByteArray := prog_1_method_22_code
def yX7_wallAt : MethodName := ⟨RX7, "wallAt", "(LRollerLeaf$Room;I)LRollerLeaf$Wall;"⟩
abbrev cX7_requireWithin : ByteArray := prog_1_method_23_code
def yX7_requireWithin : MethodName := ⟨RX7, "requireWithin", "(III)V"⟩
abbrev cX7_lose : ByteArray := prog_1_method_24_code
def yX7_lose : MethodName := ⟨RX7, "lose", "(LRollerLeaf$Lot;I)V"⟩
abbrev cX7_wrapped : ByteArray := prog_1_method_25_code
def yX7_wrapped : MethodName := ⟨RX7, "wrapped", "(II)I"⟩
def RX8 : String := "RollerLeafModel"
def TX8 : u_T := fun k => match k with
  | _ => ("", "", "", false)
def tyX8 : Nat → FieldType := fun k => match k with
  | _ => .int
abbrev wsX80 : List Cond := u_ws RX8 TX8 0
theorem nmX8 : ∀ a, a < 0 → ∀ b, b < 0 → a ≠ b → (TX8 a).2.1 ≠ (TX8 b).2.1 := by decide +kernel
theorem tyX8_ok : ∀ k, k < 0 → parseFieldDescriptor (TX8 k).2.2.1 = some (tyX8 k) := by decide +kernel
def RJ9 : String := "java/lang/Math"
def TJ9 : u_T := fun k => match k with
  | _ => ("", "", "", false)
def tyJ9 : Nat → FieldType := fun k => match k with
  | _ => .int
abbrev wsJ90 : List Cond := u_ws RJ9 TJ9 0
theorem nmJ9 : ∀ a, a < 0 → ∀ b, b < 0 → a ≠ b → (TJ9 a).2.1 ≠ (TJ9 b).2.1 := by decide +kernel
theorem tyJ9_ok : ∀ k, k < 0 → parseFieldDescriptor (TJ9 k).2.2.1 = some (tyJ9 k) := by decide +kernel
abbrev cJ9_max_7cf53 : ByteArray := prog_15_method_65_code
def yJ9_max_7cf53 : MethodName := ⟨RJ9, "max", "(II)I"⟩
def RJ0 : String := "java/lang/String"
def TJ0 : u_T := fun k => match k with
  | _ => ("", "", "", false)
def tyJ0 : Nat → FieldType := fun k => match k with
  | _ => .int
abbrev wsJ00 : List Cond := u_ws RJ0 TJ0 0
theorem nmJ0 : ∀ a, a < 0 → ∀ b, b < 0 → a ≠ b → (TJ0 a).2.1 ≠ (TJ0 b).2.1 := by decide +kernel
theorem tyJ0_ok : ∀ k, k < 0 → parseFieldDescriptor (TJ0 k).2.2.1 = some (tyJ0 k) := by decide +kernel
def RL : String := "RollerLeafLaw"
abbrev cL_draw : ByteArray := method_2_code
def yL_draw : MethodName := ⟨RL, "draw", "([II)I"⟩
abbrev cL_pattern : ByteArray := method_3_code
def yL_pattern : MethodName := ⟨RL, "pattern", "(LRollerLeaf;III)J"⟩
abbrev cL_paint : ByteArray := method_4_code
def yL_paint : MethodName := ⟨RL, "paint", "(LRollerLeaf;IIII)J"⟩
abbrev cL_colour : ByteArray := method_5_code
def yL_colour : MethodName := ⟨RL, "colour", "(LRollerLeaf;III)J"⟩
abbrev cL_repeat : ByteArray := method_6_code
def yL_repeat : MethodName := ⟨RL, "repeat", "(LRollerLeaf;IZ)J"⟩
abbrev cL_repeatAnew : ByteArray := method_7_code
def yL_repeatAnew : MethodName := ⟨RL, "repeatAnew", "(LRollerLeaf;IZ)J"⟩
abbrev cL_roller : ByteArray := method_8_code
def yL_roller : MethodName := ⟨RL, "roller", "(LRollerLeaf;II)J"⟩
abbrev cL_lot : ByteArray := method_9_code
def yL_lot : MethodName := ⟨RL, "lot", "(LRollerLeaf;IIII)J"⟩
abbrev cL_lotOf : ByteArray := method_10_code
def yL_lotOf : MethodName := ⟨RL, "lotOf", "(LRollerLeaf;II)J"⟩
abbrev cL_wall : ByteArray := method_11_code
def yL_wall : MethodName := ⟨RL, "wall", "(LRollerLeaf;III)J"⟩
abbrev cL_hang : ByteArray := method_12_code
def yL_hang : MethodName := ⟨RL, "hang", "(LRollerLeaf;II)J"⟩
abbrev cL_lengthen : ByteArray := method_13_code
def yL_lengthen : MethodName := ⟨RL, "lengthen", "(LRollerLeaf;III)J"⟩
abbrev cL_strip : ByteArray := method_14_code
def yL_strip : MethodName := ⟨RL, "strip", "(LRollerLeaf;I)J"⟩
abbrev cL_room : ByteArray := method_15_code
def yL_room : MethodName := ⟨RL, "room", "(LRollerLeaf;II)J"⟩
abbrev cL_cut : ByteArray := method_16_code
def yL_cut : MethodName := ⟨RL, "cut", "(LRollerLeaf;III)J"⟩
abbrev cL_seen : ByteArray := method_17_code
def yL_seen : MethodName := ⟨RL, "seen", "(LRollerLeaf;IIII)J"⟩
abbrev cL_patternHolds : ByteArray := method_18_code
def yL_patternHolds : MethodName := ⟨RL, "patternHolds", "(LRollerLeaf;III)Z"⟩
abbrev cL_roomHolds : ByteArray := method_19_code
def yL_roomHolds : MethodName := ⟨RL, "roomHolds", "(LRollerLeaf;I[I)Z"⟩
abbrev cL_lotHigh : ByteArray := method_20_code
def yL_lotHigh : MethodName := ⟨RL, "lotHigh", "(LRollerLeaf;I)J"⟩
abbrev cL_refuses : ByteArray := method_21_code
def yL_refuses : MethodName := ⟨RL, "refuses", "(LRollerLeaf;)Z"⟩
abbrev cL_law : ByteArray := code
def yL_law : MethodName := ⟨RL, "law", "([I)Z"⟩
abbrev vwCl : List vw_C := [(RX0, TX0, 3), (RX1, TX1, 5), (RX2, TX2, 6), (RX3, TX3, 4), (RX4, TX4, 2), (RX5, TX5, 5), (RX6, TX6, 3), (RX7, TX7, 8)]
theorem dX0_init_0 : decode cX0_init 0 = .ok (.aload_n 0, 1) := by decide +kernel
theorem dX0_init_1 : decode cX0_init 1 = .ok (.invokespecial 3, 3) := by decide +kernel
theorem dX0_init_4 : decode cX0_init 4 = .ok (.aload_n 0, 1) := by decide +kernel
theorem dX0_init_5 : decode cX0_init 5 = .ok (.bipush 100, 2) := by decide +kernel
theorem dX0_init_7 : decode cX0_init 7 = .ok (.newarray .int, 2) := by decide +kernel
theorem dX0_init_9 : decode cX0_init 9 = .ok (.putfield 9, 3) := by decide +kernel
theorem dX0_init_12 : decode cX0_init 12 = .ok (.aload_n 0, 1) := by decide +kernel
theorem dX0_init_13 : decode cX0_init 13 = .ok (.iload_n 1, 1) := by decide +kernel
theorem dX0_init_14 : decode cX0_init 14 = .ok (.putfield 15, 3) := by decide +kernel
theorem dX0_init_17 : decode cX0_init 17 = .ok (.aload_n 0, 1) := by decide +kernel
theorem dX0_init_18 : decode cX0_init 18 = .ok (.iload_n 2, 1) := by decide +kernel
theorem dX0_init_19 : decode cX0_init 19 = .ok (.putfield 19, 3) := by decide +kernel
theorem dX0_init_22 : decode cX0_init 22 = .ok (.return_, 1) := by decide +kernel
theorem dX0_holds_0 : decode cX0_holds 0 = .ok (.iload_n 1, 1) := by decide +kernel
theorem dX0_holds_1 : decode cX0_holds 1 = .ok (.ifCond .lt 27, 3) := by decide +kernel
theorem dX0_holds_4 : decode cX0_holds 4 = .ok (.iload_n 1, 1) := by decide +kernel
theorem dX0_holds_5 : decode cX0_holds 5 = .ok (.aload_n 0, 1) := by decide +kernel
theorem dX0_holds_6 : decode cX0_holds 6 = .ok (.getfield 15, 3) := by decide +kernel
theorem dX0_holds_9 : decode cX0_holds 9 = .ok (.if_icmp .ge 19, 3) := by decide +kernel
theorem dX0_holds_12 : decode cX0_holds 12 = .ok (.iload_n 2, 1) := by decide +kernel
theorem dX0_holds_13 : decode cX0_holds 13 = .ok (.ifCond .lt 15, 3) := by decide +kernel
theorem dX0_holds_16 : decode cX0_holds 16 = .ok (.iload_n 2, 1) := by decide +kernel
theorem dX0_holds_17 : decode cX0_holds 17 = .ok (.aload_n 0, 1) := by decide +kernel
theorem dX0_holds_18 : decode cX0_holds 18 = .ok (.getfield 19, 3) := by decide +kernel
theorem dX0_holds_21 : decode cX0_holds 21 = .ok (.if_icmp .ge 7, 3) := by decide +kernel
theorem dX0_holds_24 : decode cX0_holds 24 = .ok (.iconst 1, 1) := by decide +kernel
theorem dX0_holds_25 : decode cX0_holds 25 = .ok (.goto 4, 3) := by decide +kernel
theorem dX0_holds_28 : decode cX0_holds 28 = .ok (.iconst 0, 1) := by decide +kernel
theorem dX0_holds_29 : decode cX0_holds 29 = .ok (.ireturn, 1) := by decide +kernel
theorem dX0_colourAt_0 : decode cX0_colourAt 0 = .ok (.aload_n 0, 1) := by decide +kernel
theorem dX0_colourAt_1 : decode cX0_colourAt 1 = .ok (.iload_n 1, 1) := by decide +kernel
theorem dX0_colourAt_2 : decode cX0_colourAt 2 = .ok (.iload_n 2, 1) := by decide +kernel
theorem dX0_colourAt_3 : decode cX0_colourAt 3 = .ok (.invokevirtual 22, 3) := by decide +kernel
theorem dX0_colourAt_6 : decode cX0_colourAt 6 = .ok (.istore_n 3, 1) := by decide +kernel
theorem dX0_colourAt_7 : decode cX0_colourAt 7 = .ok (.iload_n 3, 1) := by decide +kernel
theorem dX0_colourAt_8 : decode cX0_colourAt 8 = .ok (.ifCond .lt 12, 3) := by decide +kernel
theorem dX0_colourAt_11 : decode cX0_colourAt 11 = .ok (.iload_n 3, 1) := by decide +kernel
theorem dX0_colourAt_12 : decode cX0_colourAt 12 = .ok (.aload_n 0, 1) := by decide +kernel
theorem dX0_colourAt_13 : decode cX0_colourAt 13 = .ok (.getfield 9, 3) := by decide +kernel
theorem dX0_colourAt_16 : decode cX0_colourAt 16 = .ok (.arraylength, 1) := by decide +kernel
theorem dX0_colourAt_17 : decode cX0_colourAt 17 = .ok (.if_icmp .lt 7, 3) := by decide +kernel
theorem dX0_colourAt_20 : decode cX0_colourAt 20 = .ok (.iconst (-1), 1) := by decide +kernel
theorem dX0_colourAt_21 : decode cX0_colourAt 21 = .ok (.goto 9, 3) := by decide +kernel
theorem dX0_colourAt_24 : decode cX0_colourAt 24 = .ok (.aload_n 0, 1) := by decide +kernel
theorem dX0_colourAt_25 : decode cX0_colourAt 25 = .ok (.getfield 9, 3) := by decide +kernel
theorem dX0_colourAt_28 : decode cX0_colourAt 28 = .ok (.iload_n 3, 1) := by decide +kernel
theorem dX0_colourAt_29 : decode cX0_colourAt 29 = .ok (.iaload, 1) := by decide +kernel
theorem dX0_colourAt_30 : decode cX0_colourAt 30 = .ok (.ireturn, 1) := by decide +kernel
theorem dX0_put_0 : decode cX0_put 0 = .ok (.aload_n 0, 1) := by decide +kernel
theorem dX0_put_1 : decode cX0_put 1 = .ok (.iload_n 1, 1) := by decide +kernel
theorem dX0_put_2 : decode cX0_put 2 = .ok (.iload_n 2, 1) := by decide +kernel
theorem dX0_put_3 : decode cX0_put 3 = .ok (.invokevirtual 22, 3) := by decide +kernel
theorem dX0_put_6 : decode cX0_put 6 = .ok (.istore 4, 2) := by decide +kernel
theorem dX0_put_8 : decode cX0_put 8 = .ok (.iload 4, 2) := by decide +kernel
theorem dX0_put_10 : decode cX0_put 10 = .ok (.ifCond .lt 21, 3) := by decide +kernel
theorem dX0_put_13 : decode cX0_put 13 = .ok (.iload 4, 2) := by decide +kernel
theorem dX0_put_15 : decode cX0_put 15 = .ok (.aload_n 0, 1) := by decide +kernel
theorem dX0_put_16 : decode cX0_put 16 = .ok (.getfield 9, 3) := by decide +kernel
theorem dX0_put_19 : decode cX0_put 19 = .ok (.arraylength, 1) := by decide +kernel
theorem dX0_put_20 : decode cX0_put 20 = .ok (.if_icmp .ge 11, 3) := by decide +kernel
theorem dX0_put_23 : decode cX0_put 23 = .ok (.aload_n 0, 1) := by decide +kernel
theorem dX0_put_24 : decode cX0_put 24 = .ok (.getfield 9, 3) := by decide +kernel
theorem dX0_put_27 : decode cX0_put 27 = .ok (.iload 4, 2) := by decide +kernel
theorem dX0_put_29 : decode cX0_put 29 = .ok (.iload_n 3, 1) := by decide +kernel
theorem dX0_put_30 : decode cX0_put 30 = .ok (.iastore, 1) := by decide +kernel
theorem dX0_put_31 : decode cX0_put 31 = .ok (.return_, 1) := by decide +kernel
theorem dX0_place_0 : decode cX0_place 0 = .ok (.iload_n 2, 1) := by decide +kernel
theorem dX0_place_1 : decode cX0_place 1 = .ok (.aload_n 0, 1) := by decide +kernel
theorem dX0_place_2 : decode cX0_place 2 = .ok (.getfield 19, 3) := by decide +kernel
theorem dX0_place_5 : decode cX0_place 5 = .ok (.invokestatic 26, 3) := by decide +kernel
theorem dX0_place_8 : decode cX0_place 8 = .ok (.aload_n 0, 1) := by decide +kernel
theorem dX0_place_9 : decode cX0_place 9 = .ok (.getfield 15, 3) := by decide +kernel
theorem dX0_place_12 : decode cX0_place 12 = .ok (.imul, 1) := by decide +kernel
theorem dX0_place_13 : decode cX0_place 13 = .ok (.iload_n 1, 1) := by decide +kernel
theorem dX0_place_14 : decode cX0_place 14 = .ok (.aload_n 0, 1) := by decide +kernel
theorem dX0_place_15 : decode cX0_place 15 = .ok (.getfield 15, 3) := by decide +kernel
theorem dX0_place_18 : decode cX0_place 18 = .ok (.invokestatic 26, 3) := by decide +kernel
theorem dX0_place_21 : decode cX0_place 21 = .ok (.iadd, 1) := by decide +kernel
theorem dX0_place_22 : decode cX0_place 22 = .ok (.ireturn, 1) := by decide +kernel
theorem dX1_init_0 : decode cX1_init 0 = .ok (.aload_n 0, 1) := by decide +kernel
theorem dX1_init_1 : decode cX1_init 1 = .ok (.invokespecial 1, 3) := by decide +kernel
theorem dX1_init_4 : decode cX1_init 4 = .ok (.aload_n 0, 1) := by decide +kernel
theorem dX1_init_5 : decode cX1_init 5 = .ok (.aload_n 1, 1) := by decide +kernel
theorem dX1_init_6 : decode cX1_init 6 = .ok (.putfield 7, 3) := by decide +kernel
theorem dX1_init_9 : decode cX1_init 9 = .ok (.aload_n 0, 1) := by decide +kernel
theorem dX1_init_10 : decode cX1_init 10 = .ok (.iload_n 2, 1) := by decide +kernel
theorem dX1_init_11 : decode cX1_init 11 = .ok (.putfield 13, 3) := by decide +kernel
theorem dX1_init_14 : decode cX1_init 14 = .ok (.aload_n 0, 1) := by decide +kernel
theorem dX1_init_15 : decode cX1_init 15 = .ok (.iload_n 3, 1) := by decide +kernel
theorem dX1_init_16 : decode cX1_init 16 = .ok (.putfield 17, 3) := by decide +kernel
theorem dX1_init_19 : decode cX1_init 19 = .ok (.aload_n 0, 1) := by decide +kernel
theorem dX1_init_20 : decode cX1_init 20 = .ok (.iload 4, 2) := by decide +kernel
theorem dX1_init_22 : decode cX1_init 22 = .ok (.putfield 20, 3) := by decide +kernel
theorem dX1_init_25 : decode cX1_init 25 = .ok (.aload_n 0, 1) := by decide +kernel
theorem dX1_init_26 : decode cX1_init 26 = .ok (.iload 5, 2) := by decide +kernel
theorem dX1_init_28 : decode cX1_init 28 = .ok (.putfield 23, 3) := by decide +kernel
theorem dX1_init_31 : decode cX1_init 31 = .ok (.return_, 1) := by decide +kernel
theorem dX1_roundsOfARoll_0 : decode cX1_roundsOfARoll 0 = .ok (.aload_n 0, 1) := by decide +kernel
theorem dX1_roundsOfARoll_1 : decode cX1_roundsOfARoll 1 = .ok (.getfield 7, 3) := by decide +kernel
theorem dX1_roundsOfARoll_4 : decode cX1_roundsOfARoll 4 = .ok (.getfield 26, 3) := by decide +kernel
theorem dX1_roundsOfARoll_7 : decode cX1_roundsOfARoll 7 = .ok (.istore_n 1, 1) := by decide +kernel
theorem dX1_roundsOfARoll_8 : decode cX1_roundsOfARoll 8 = .ok (.iload_n 1, 1) := by decide +kernel
theorem dX1_roundsOfARoll_9 : decode cX1_roundsOfARoll 9 = .ok (.iconst 1, 1) := by decide +kernel
theorem dX1_roundsOfARoll_10 : decode cX1_roundsOfARoll 10 = .ok (.if_icmp .ge 7, 3) := by decide +kernel
theorem dX1_roundsOfARoll_13 : decode cX1_roundsOfARoll 13 = .ok (.iconst 0, 1) := by decide +kernel
theorem dX1_roundsOfARoll_14 : decode cX1_roundsOfARoll 14 = .ok (.goto 13, 3) := by decide +kernel
theorem dX1_roundsOfARoll_17 : decode cX1_roundsOfARoll 17 = .ok (.aload_n 0, 1) := by decide +kernel
theorem dX1_roundsOfARoll_18 : decode cX1_roundsOfARoll 18 = .ok (.getfield 23, 3) := by decide +kernel
theorem dX1_roundsOfARoll_21 : decode cX1_roundsOfARoll 21 = .ok (.iload_n 1, 1) := by decide +kernel
theorem dX1_roundsOfARoll_22 : decode cX1_roundsOfARoll 22 = .ok (.iadd, 1) := by decide +kernel
theorem dX1_roundsOfARoll_23 : decode cX1_roundsOfARoll 23 = .ok (.iconst 1, 1) := by decide +kernel
theorem dX1_roundsOfARoll_24 : decode cX1_roundsOfARoll 24 = .ok (.isub, 1) := by decide +kernel
theorem dX1_roundsOfARoll_25 : decode cX1_roundsOfARoll 25 = .ok (.iload_n 1, 1) := by decide +kernel
theorem dX1_roundsOfARoll_26 : decode cX1_roundsOfARoll 26 = .ok (.idiv, 1) := by decide +kernel
theorem dX1_roundsOfARoll_27 : decode cX1_roundsOfARoll 27 = .ok (.ireturn, 1) := by decide +kernel
theorem dX2_init_0 : decode cX2_init 0 = .ok (.aload_n 0, 1) := by decide +kernel
theorem dX2_init_1 : decode cX2_init 1 = .ok (.invokespecial 3, 3) := by decide +kernel
theorem dX2_init_4 : decode cX2_init 4 = .ok (.aload_n 0, 1) := by decide +kernel
theorem dX2_init_5 : decode cX2_init 5 = .ok (.bipush 20, 2) := by decide +kernel
theorem dX2_init_7 : decode cX2_init 7 = .ok (.newarray .int, 2) := by decide +kernel
theorem dX2_init_9 : decode cX2_init 9 = .ok (.putfield 9, 3) := by decide +kernel
theorem dX2_init_12 : decode cX2_init 12 = .ok (.return_, 1) := by decide +kernel
theorem dX2_beginAnew_0 : decode cX2_beginAnew 0 = .ok (.aload_n 0, 1) := by decide +kernel
theorem dX2_beginAnew_1 : decode cX2_beginAnew 1 = .ok (.iconst 0, 1) := by decide +kernel
theorem dX2_beginAnew_2 : decode cX2_beginAnew 2 = .ok (.putfield 15, 3) := by decide +kernel
theorem dX2_beginAnew_5 : decode cX2_beginAnew 5 = .ok (.aload_n 0, 1) := by decide +kernel
theorem dX2_beginAnew_6 : decode cX2_beginAnew 6 = .ok (.aload_n 1, 1) := by decide +kernel
theorem dX2_beginAnew_7 : decode cX2_beginAnew 7 = .ok (.getfield 19, 3) := by decide +kernel
theorem dX2_beginAnew_10 : decode cX2_beginAnew 10 = .ok (.putfield 24, 3) := by decide +kernel
theorem dX2_beginAnew_13 : decode cX2_beginAnew 13 = .ok (.aload_n 0, 1) := by decide +kernel
theorem dX2_beginAnew_14 : decode cX2_beginAnew 14 = .ok (.aload_n 1, 1) := by decide +kernel
theorem dX2_beginAnew_15 : decode cX2_beginAnew 15 = .ok (.getfield 27, 3) := by decide +kernel
theorem dX2_beginAnew_18 : decode cX2_beginAnew 18 = .ok (.putfield 30, 3) := by decide +kernel
theorem dX2_beginAnew_21 : decode cX2_beginAnew 21 = .ok (.aload_n 0, 1) := by decide +kernel
theorem dX2_beginAnew_22 : decode cX2_beginAnew 22 = .ok (.aload_n 1, 1) := by decide +kernel
theorem dX2_beginAnew_23 : decode cX2_beginAnew 23 = .ok (.getfield 31, 3) := by decide +kernel
theorem dX2_beginAnew_26 : decode cX2_beginAnew 26 = .ok (.getfield 35, 3) := by decide +kernel
theorem dX2_beginAnew_29 : decode cX2_beginAnew 29 = .ok (.getfield 41, 3) := by decide +kernel
theorem dX2_beginAnew_32 : decode cX2_beginAnew 32 = .ok (.putfield 46, 3) := by decide +kernel
theorem dX2_beginAnew_35 : decode cX2_beginAnew 35 = .ok (.aload_n 0, 1) := by decide +kernel
theorem dX2_beginAnew_36 : decode cX2_beginAnew 36 = .ok (.iload_n 2, 1) := by decide +kernel
theorem dX2_beginAnew_37 : decode cX2_beginAnew 37 = .ok (.putfield 49, 3) := by decide +kernel
theorem dX2_beginAnew_40 : decode cX2_beginAnew 40 = .ok (.return_, 1) := by decide +kernel
theorem dX2_takeDrop_0 : decode cX2_takeDrop 0 = .ok (.iconst 0, 1) := by decide +kernel
theorem dX2_takeDrop_1 : decode cX2_takeDrop 1 = .ok (.istore_n 2, 1) := by decide +kernel
theorem dX2_takeDrop_2 : decode cX2_takeDrop 2 = .ok (.iload_n 2, 1) := by decide +kernel
theorem dX2_takeDrop_3 : decode cX2_takeDrop 3 = .ok (.aload_n 0, 1) := by decide +kernel
theorem dX2_takeDrop_4 : decode cX2_takeDrop 4 = .ok (.getfield 15, 3) := by decide +kernel
theorem dX2_takeDrop_7 : decode cX2_takeDrop 7 = .ok (.if_icmp .ge 71, 3) := by decide +kernel
theorem dX2_takeDrop_10 : decode cX2_takeDrop 10 = .ok (.iload_n 2, 1) := by decide +kernel
theorem dX2_takeDrop_11 : decode cX2_takeDrop 11 = .ok (.aload_n 0, 1) := by decide +kernel
theorem dX2_takeDrop_12 : decode cX2_takeDrop 12 = .ok (.getfield 9, 3) := by decide +kernel
theorem dX2_takeDrop_15 : decode cX2_takeDrop 15 = .ok (.arraylength, 1) := by decide +kernel
theorem dX2_takeDrop_16 : decode cX2_takeDrop 16 = .ok (.if_icmp .ge 62, 3) := by decide +kernel
theorem dX2_takeDrop_19 : decode cX2_takeDrop 19 = .ok (.aload_n 0, 1) := by decide +kernel
theorem dX2_takeDrop_20 : decode cX2_takeDrop 20 = .ok (.getfield 9, 3) := by decide +kernel
theorem dX2_takeDrop_23 : decode cX2_takeDrop 23 = .ok (.iload_n 2, 1) := by decide +kernel
theorem dX2_takeDrop_24 : decode cX2_takeDrop 24 = .ok (.iaload, 1) := by decide +kernel
theorem dX2_takeDrop_25 : decode cX2_takeDrop 25 = .ok (.aload_n 0, 1) := by decide +kernel
theorem dX2_takeDrop_26 : decode cX2_takeDrop 26 = .ok (.getfield 49, 3) := by decide +kernel
theorem dX2_takeDrop_29 : decode cX2_takeDrop 29 = .ok (.aload_n 0, 1) := by decide +kernel
theorem dX2_takeDrop_30 : decode cX2_takeDrop 30 = .ok (.getfield 9, 3) := by decide +kernel
theorem dX2_takeDrop_33 : decode cX2_takeDrop 33 = .ok (.iload_n 2, 1) := by decide +kernel
theorem dX2_takeDrop_34 : decode cX2_takeDrop 34 = .ok (.iaload, 1) := by decide +kernel
theorem dX2_takeDrop_35 : decode cX2_takeDrop 35 = .ok (.isub, 1) := by decide +kernel
theorem dX2_takeDrop_36 : decode cX2_takeDrop 36 = .ok (.aload_n 0, 1) := by decide +kernel
theorem dX2_takeDrop_37 : decode cX2_takeDrop 37 = .ok (.getfield 46, 3) := by decide +kernel
theorem dX2_takeDrop_40 : decode cX2_takeDrop 40 = .ok (.invokestatic 52, 3) := by decide +kernel
theorem dX2_takeDrop_43 : decode cX2_takeDrop 43 = .ok (.iadd, 1) := by decide +kernel
theorem dX2_takeDrop_44 : decode cX2_takeDrop 44 = .ok (.istore_n 3, 1) := by decide +kernel
theorem dX2_takeDrop_45 : decode cX2_takeDrop 45 = .ok (.iload_n 3, 1) := by decide +kernel
theorem dX2_takeDrop_46 : decode cX2_takeDrop 46 = .ok (.iload_n 1, 1) := by decide +kernel
theorem dX2_takeDrop_47 : decode cX2_takeDrop 47 = .ok (.iadd, 1) := by decide +kernel
theorem dX2_takeDrop_48 : decode cX2_takeDrop 48 = .ok (.aload_n 0, 1) := by decide +kernel
theorem dX2_takeDrop_49 : decode cX2_takeDrop 49 = .ok (.getfield 30, 3) := by decide +kernel
theorem dX2_takeDrop_52 : decode cX2_takeDrop 52 = .ok (.if_icmp .gt 20, 3) := by decide +kernel
theorem dX2_takeDrop_55 : decode cX2_takeDrop 55 = .ok (.aload_n 0, 1) := by decide +kernel
theorem dX2_takeDrop_56 : decode cX2_takeDrop 56 = .ok (.getfield 9, 3) := by decide +kernel
theorem dX2_takeDrop_59 : decode cX2_takeDrop 59 = .ok (.iload_n 2, 1) := by decide +kernel
theorem dX2_takeDrop_60 : decode cX2_takeDrop 60 = .ok (.iload_n 3, 1) := by decide +kernel
theorem dX2_takeDrop_61 : decode cX2_takeDrop 61 = .ok (.iload_n 1, 1) := by decide +kernel
theorem dX2_takeDrop_62 : decode cX2_takeDrop 62 = .ok (.iadd, 1) := by decide +kernel
theorem dX2_takeDrop_63 : decode cX2_takeDrop 63 = .ok (.iastore, 1) := by decide +kernel
theorem dX2_takeDrop_64 : decode cX2_takeDrop 64 = .ok (.sipush 1000, 3) := by decide +kernel
theorem dX2_takeDrop_67 : decode cX2_takeDrop 67 = .ok (.iload_n 2, 1) := by decide +kernel
theorem dX2_takeDrop_68 : decode cX2_takeDrop 68 = .ok (.imul, 1) := by decide +kernel
theorem dX2_takeDrop_69 : decode cX2_takeDrop 69 = .ok (.iload_n 3, 1) := by decide +kernel
theorem dX2_takeDrop_70 : decode cX2_takeDrop 70 = .ok (.iadd, 1) := by decide +kernel
theorem dX2_takeDrop_71 : decode cX2_takeDrop 71 = .ok (.ireturn, 1) := by decide +kernel
theorem dX2_takeDrop_72 : decode cX2_takeDrop 72 = .ok (.iinc 2 1, 3) := by decide +kernel
theorem dX2_takeDrop_75 : decode cX2_takeDrop 75 = .ok (.goto (-73), 3) := by decide +kernel
theorem dX2_takeDrop_78 : decode cX2_takeDrop 78 = .ok (.aload_n 0, 1) := by decide +kernel
theorem dX2_takeDrop_79 : decode cX2_takeDrop 79 = .ok (.iload_n 1, 1) := by decide +kernel
theorem dX2_takeDrop_80 : decode cX2_takeDrop 80 = .ok (.invokevirtual 56, 3) := by decide +kernel
theorem dX2_takeDrop_83 : decode cX2_takeDrop 83 = .ok (.ireturn, 1) := by decide +kernel
theorem dX2_takeFromNewRoll_0 : decode cX2_takeFromNewRoll 0 = .ok (.aload_n 0, 1) := by decide +kernel
theorem dX2_takeFromNewRoll_1 : decode cX2_takeFromNewRoll 1 = .ok (.getfield 15, 3) := by decide +kernel
theorem dX2_takeFromNewRoll_4 : decode cX2_takeFromNewRoll 4 = .ok (.istore_n 2, 1) := by decide +kernel
theorem dX2_takeFromNewRoll_5 : decode cX2_takeFromNewRoll 5 = .ok (.iload_n 2, 1) := by decide +kernel
theorem dX2_takeFromNewRoll_6 : decode cX2_takeFromNewRoll 6 = .ok (.ifCond .lt 24, 3) := by decide +kernel
theorem dX2_takeFromNewRoll_9 : decode cX2_takeFromNewRoll 9 = .ok (.iload_n 2, 1) := by decide +kernel
theorem dX2_takeFromNewRoll_10 : decode cX2_takeFromNewRoll 10 = .ok (.aload_n 0, 1) := by decide +kernel
theorem dX2_takeFromNewRoll_11 : decode cX2_takeFromNewRoll 11 = .ok (.getfield 24, 3) := by decide +kernel
theorem dX2_takeFromNewRoll_14 : decode cX2_takeFromNewRoll 14 = .ok (.if_icmp .ge 16, 3) := by decide +kernel
theorem dX2_takeFromNewRoll_17 : decode cX2_takeFromNewRoll 17 = .ok (.iload_n 2, 1) := by decide +kernel
theorem dX2_takeFromNewRoll_18 : decode cX2_takeFromNewRoll 18 = .ok (.aload_n 0, 1) := by decide +kernel
theorem dX2_takeFromNewRoll_19 : decode cX2_takeFromNewRoll 19 = .ok (.getfield 9, 3) := by decide +kernel
theorem dX2_takeFromNewRoll_22 : decode cX2_takeFromNewRoll 22 = .ok (.arraylength, 1) := by decide +kernel
theorem dX2_takeFromNewRoll_23 : decode cX2_takeFromNewRoll 23 = .ok (.if_icmp .ge 7, 3) := by decide +kernel
theorem dX2_takeFromNewRoll_26 : decode cX2_takeFromNewRoll 26 = .ok (.iconst 1, 1) := by decide +kernel
theorem dX2_takeFromNewRoll_27 : decode cX2_takeFromNewRoll 27 = .ok (.goto 4, 3) := by decide +kernel
theorem dX2_takeFromNewRoll_30 : decode cX2_takeFromNewRoll 30 = .ok (.iconst 0, 1) := by decide +kernel
theorem dX2_takeFromNewRoll_31 : decode cX2_takeFromNewRoll 31 = .ok (.istore_n 3, 1) := by decide +kernel
theorem dX2_takeFromNewRoll_32 : decode cX2_takeFromNewRoll 32 = .ok (.iload_n 3, 1) := by decide +kernel
theorem dX2_takeFromNewRoll_33 : decode cX2_takeFromNewRoll 33 = .ok (.ifCond .eq 16, 3) := by decide +kernel
theorem dX2_takeFromNewRoll_36 : decode cX2_takeFromNewRoll 36 = .ok (.aload_n 0, 1) := by decide +kernel
theorem dX2_takeFromNewRoll_37 : decode cX2_takeFromNewRoll 37 = .ok (.getfield 49, 3) := by decide +kernel
theorem dX2_takeFromNewRoll_40 : decode cX2_takeFromNewRoll 40 = .ok (.iload_n 1, 1) := by decide +kernel
theorem dX2_takeFromNewRoll_41 : decode cX2_takeFromNewRoll 41 = .ok (.iadd, 1) := by decide +kernel
theorem dX2_takeFromNewRoll_42 : decode cX2_takeFromNewRoll 42 = .ok (.aload_n 0, 1) := by decide +kernel
theorem dX2_takeFromNewRoll_43 : decode cX2_takeFromNewRoll 43 = .ok (.getfield 30, 3) := by decide +kernel
theorem dX2_takeFromNewRoll_46 : decode cX2_takeFromNewRoll 46 = .ok (.if_icmp .le 5, 3) := by decide +kernel
theorem dX2_takeFromNewRoll_49 : decode cX2_takeFromNewRoll 49 = .ok (.iconst (-1), 1) := by decide +kernel
theorem dX2_takeFromNewRoll_50 : decode cX2_takeFromNewRoll 50 = .ok (.ireturn, 1) := by decide +kernel
theorem dX2_takeFromNewRoll_51 : decode cX2_takeFromNewRoll 51 = .ok (.aload_n 0, 1) := by decide +kernel
theorem dX2_takeFromNewRoll_52 : decode cX2_takeFromNewRoll 52 = .ok (.getfield 9, 3) := by decide +kernel
theorem dX2_takeFromNewRoll_55 : decode cX2_takeFromNewRoll 55 = .ok (.iload_n 2, 1) := by decide +kernel
theorem dX2_takeFromNewRoll_56 : decode cX2_takeFromNewRoll 56 = .ok (.aload_n 0, 1) := by decide +kernel
theorem dX2_takeFromNewRoll_57 : decode cX2_takeFromNewRoll 57 = .ok (.getfield 49, 3) := by decide +kernel
theorem dX2_takeFromNewRoll_60 : decode cX2_takeFromNewRoll 60 = .ok (.iload_n 1, 1) := by decide +kernel
theorem dX2_takeFromNewRoll_61 : decode cX2_takeFromNewRoll 61 = .ok (.iadd, 1) := by decide +kernel
theorem dX2_takeFromNewRoll_62 : decode cX2_takeFromNewRoll 62 = .ok (.iastore, 1) := by decide +kernel
theorem dX2_takeFromNewRoll_63 : decode cX2_takeFromNewRoll 63 = .ok (.aload_n 0, 1) := by decide +kernel
theorem dX2_takeFromNewRoll_64 : decode cX2_takeFromNewRoll 64 = .ok (.iload_n 2, 1) := by decide +kernel
theorem dX2_takeFromNewRoll_65 : decode cX2_takeFromNewRoll 65 = .ok (.iconst 1, 1) := by decide +kernel
theorem dX2_takeFromNewRoll_66 : decode cX2_takeFromNewRoll 66 = .ok (.iadd, 1) := by decide +kernel
theorem dX2_takeFromNewRoll_67 : decode cX2_takeFromNewRoll 67 = .ok (.putfield 15, 3) := by decide +kernel
theorem dX2_takeFromNewRoll_70 : decode cX2_takeFromNewRoll 70 = .ok (.sipush 1000, 3) := by decide +kernel
theorem dX2_takeFromNewRoll_73 : decode cX2_takeFromNewRoll 73 = .ok (.iload_n 2, 1) := by decide +kernel
theorem dX2_takeFromNewRoll_74 : decode cX2_takeFromNewRoll 74 = .ok (.imul, 1) := by decide +kernel
theorem dX2_takeFromNewRoll_75 : decode cX2_takeFromNewRoll 75 = .ok (.aload_n 0, 1) := by decide +kernel
theorem dX2_takeFromNewRoll_76 : decode cX2_takeFromNewRoll 76 = .ok (.getfield 49, 3) := by decide +kernel
theorem dX2_takeFromNewRoll_79 : decode cX2_takeFromNewRoll 79 = .ok (.iadd, 1) := by decide +kernel
theorem dX2_takeFromNewRoll_80 : decode cX2_takeFromNewRoll 80 = .ok (.ireturn, 1) := by decide +kernel
theorem dX3_init_0 : decode cX3_init 0 = .ok (.aload_n 0, 1) := by decide +kernel
theorem dX3_init_1 : decode cX3_init 1 = .ok (.invokespecial 3, 3) := by decide +kernel
theorem dX3_init_4 : decode cX3_init 4 = .ok (.aload_n 0, 1) := by decide +kernel
theorem dX3_init_5 : decode cX3_init 5 = .ok (.new 9, 3) := by decide +kernel
theorem dX3_init_8 : decode cX3_init 8 = .ok (.dup, 1) := by decide +kernel
theorem dX3_init_9 : decode cX3_init 9 = .ok (.iload_n 1, 1) := by decide +kernel
theorem dX3_init_10 : decode cX3_init 10 = .ok (.iload_n 2, 1) := by decide +kernel
theorem dX3_init_11 : decode cX3_init 11 = .ok (.invokespecial 11, 3) := by decide +kernel
theorem dX3_init_14 : decode cX3_init 14 = .ok (.putfield 14, 3) := by decide +kernel
theorem dX3_init_17 : decode cX3_init 17 = .ok (.aload_n 0, 1) := by decide +kernel
theorem dX3_init_18 : decode cX3_init 18 = .ok (.iload_n 3, 1) := by decide +kernel
theorem dX3_init_19 : decode cX3_init 19 = .ok (.putfield 20, 3) := by decide +kernel
theorem dX3_init_22 : decode cX3_init 22 = .ok (.iload_n 3, 1) := by decide +kernel
theorem dX3_init_23 : decode cX3_init 23 = .ok (.ifCond .eq 8, 3) := by decide +kernel
theorem dX3_init_26 : decode cX3_init 26 = .ok (.iload_n 3, 1) := by decide +kernel
theorem dX3_init_27 : decode cX3_init 27 = .ok (.iconst 1, 1) := by decide +kernel
theorem dX3_init_28 : decode cX3_init 28 = .ok (.if_icmp .ne 7, 3) := by decide +kernel
theorem dX3_init_31 : decode cX3_init 31 = .ok (.iconst 1, 1) := by decide +kernel
theorem dX3_init_32 : decode cX3_init 32 = .ok (.goto 4, 3) := by decide +kernel
theorem dX3_init_35 : decode cX3_init 35 = .ok (.iconst 0, 1) := by decide +kernel
theorem dX3_init_36 : decode cX3_init 36 = .ok (.istore 4, 2) := by decide +kernel
theorem dX3_init_38 : decode cX3_init 38 = .ok (.iload_n 3, 1) := by decide +kernel
theorem dX3_init_39 : decode cX3_init 39 = .ok (.ifCond .eq 13, 3) := by decide +kernel
theorem dX3_init_42 : decode cX3_init 42 = .ok (.iload_n 3, 1) := by decide +kernel
theorem dX3_init_43 : decode cX3_init 43 = .ok (.iconst 2, 1) := by decide +kernel
theorem dX3_init_44 : decode cX3_init 44 = .ok (.if_icmp .eq 8, 3) := by decide +kernel
theorem dX3_init_47 : decode cX3_init 47 = .ok (.iload_n 3, 1) := by decide +kernel
theorem dX3_init_48 : decode cX3_init 48 = .ok (.iconst 3, 1) := by decide +kernel
theorem dX3_init_49 : decode cX3_init 49 = .ok (.if_icmp .ne 7, 3) := by decide +kernel
theorem dX3_init_52 : decode cX3_init 52 = .ok (.iconst 1, 1) := by decide +kernel
theorem dX3_init_53 : decode cX3_init 53 = .ok (.goto 4, 3) := by decide +kernel
theorem dX3_init_56 : decode cX3_init 56 = .ok (.iconst 0, 1) := by decide +kernel
theorem dX3_init_57 : decode cX3_init 57 = .ok (.istore 5, 2) := by decide +kernel
theorem dX3_init_59 : decode cX3_init 59 = .ok (.aload_n 0, 1) := by decide +kernel
theorem dX3_init_60 : decode cX3_init 60 = .ok (.iload 4, 2) := by decide +kernel
theorem dX3_init_62 : decode cX3_init 62 = .ok (.ifCond .eq 7, 3) := by decide +kernel
theorem dX3_init_65 : decode cX3_init 65 = .ok (.iload_n 1, 1) := by decide +kernel
theorem dX3_init_66 : decode cX3_init 66 = .ok (.goto 6, 3) := by decide +kernel
theorem dX3_init_69 : decode cX3_init 69 = .ok (.iconst 2, 1) := by decide +kernel
theorem dX3_init_70 : decode cX3_init 70 = .ok (.iload_n 1, 1) := by decide +kernel
theorem dX3_init_71 : decode cX3_init 71 = .ok (.imul, 1) := by decide +kernel
theorem dX3_init_72 : decode cX3_init 72 = .ok (.putfield 24, 3) := by decide +kernel
theorem dX3_init_75 : decode cX3_init 75 = .ok (.aload_n 0, 1) := by decide +kernel
theorem dX3_init_76 : decode cX3_init 76 = .ok (.iload 5, 2) := by decide +kernel
theorem dX3_init_78 : decode cX3_init 78 = .ok (.ifCond .eq 7, 3) := by decide +kernel
theorem dX3_init_81 : decode cX3_init 81 = .ok (.iload_n 2, 1) := by decide +kernel
theorem dX3_init_82 : decode cX3_init 82 = .ok (.goto 6, 3) := by decide +kernel
theorem dX3_init_85 : decode cX3_init 85 = .ok (.iconst 2, 1) := by decide +kernel
theorem dX3_init_86 : decode cX3_init 86 = .ok (.iload_n 2, 1) := by decide +kernel
theorem dX3_init_87 : decode cX3_init 87 = .ok (.imul, 1) := by decide +kernel
theorem dX3_init_88 : decode cX3_init 88 = .ok (.putfield 27, 3) := by decide +kernel
theorem dX3_init_91 : decode cX3_init 91 = .ok (.return_, 1) := by decide +kernel
theorem dX3_colourAt_0 : decode cX3_colourAt 0 = .ok (.iload_n 1, 1) := by decide +kernel
theorem dX3_colourAt_1 : decode cX3_colourAt 1 = .ok (.aload_n 0, 1) := by decide +kernel
theorem dX3_colourAt_2 : decode cX3_colourAt 2 = .ok (.getfield 24, 3) := by decide +kernel
theorem dX3_colourAt_5 : decode cX3_colourAt 5 = .ok (.invokestatic 30, 3) := by decide +kernel
theorem dX3_colourAt_8 : decode cX3_colourAt 8 = .ok (.aload_n 0, 1) := by decide +kernel
theorem dX3_colourAt_9 : decode cX3_colourAt 9 = .ok (.getfield 14, 3) := by decide +kernel
theorem dX3_colourAt_12 : decode cX3_colourAt 12 = .ok (.getfield 34, 3) := by decide +kernel
theorem dX3_colourAt_15 : decode cX3_colourAt 15 = .ok (.if_icmp .lt 7, 3) := by decide +kernel
theorem dX3_colourAt_18 : decode cX3_colourAt 18 = .ok (.iconst 1, 1) := by decide +kernel
theorem dX3_colourAt_19 : decode cX3_colourAt 19 = .ok (.goto 4, 3) := by decide +kernel
theorem dX3_colourAt_22 : decode cX3_colourAt 22 = .ok (.iconst 0, 1) := by decide +kernel
theorem dX3_colourAt_23 : decode cX3_colourAt 23 = .ok (.istore_n 3, 1) := by decide +kernel
theorem dX3_colourAt_24 : decode cX3_colourAt 24 = .ok (.iload_n 2, 1) := by decide +kernel
theorem dX3_colourAt_25 : decode cX3_colourAt 25 = .ok (.aload_n 0, 1) := by decide +kernel
theorem dX3_colourAt_26 : decode cX3_colourAt 26 = .ok (.getfield 27, 3) := by decide +kernel
theorem dX3_colourAt_29 : decode cX3_colourAt 29 = .ok (.invokestatic 30, 3) := by decide +kernel
theorem dX3_colourAt_32 : decode cX3_colourAt 32 = .ok (.aload_n 0, 1) := by decide +kernel
theorem dX3_colourAt_33 : decode cX3_colourAt 33 = .ok (.getfield 14, 3) := by decide +kernel
theorem dX3_colourAt_36 : decode cX3_colourAt 36 = .ok (.getfield 37, 3) := by decide +kernel
theorem dX3_colourAt_39 : decode cX3_colourAt 39 = .ok (.if_icmp .lt 7, 3) := by decide +kernel
theorem dX3_colourAt_42 : decode cX3_colourAt 42 = .ok (.iconst 1, 1) := by decide +kernel
theorem dX3_colourAt_43 : decode cX3_colourAt 43 = .ok (.goto 4, 3) := by decide +kernel
theorem dX3_colourAt_46 : decode cX3_colourAt 46 = .ok (.iconst 0, 1) := by decide +kernel
theorem dX3_colourAt_47 : decode cX3_colourAt 47 = .ok (.istore 4, 2) := by decide +kernel
theorem dX3_colourAt_49 : decode cX3_colourAt 49 = .ok (.iload_n 1, 1) := by decide +kernel
theorem dX3_colourAt_50 : decode cX3_colourAt 50 = .ok (.aload_n 0, 1) := by decide +kernel
theorem dX3_colourAt_51 : decode cX3_colourAt 51 = .ok (.getfield 14, 3) := by decide +kernel
theorem dX3_colourAt_54 : decode cX3_colourAt 54 = .ok (.getfield 34, 3) := by decide +kernel
theorem dX3_colourAt_57 : decode cX3_colourAt 57 = .ok (.invokestatic 30, 3) := by decide +kernel
theorem dX3_colourAt_60 : decode cX3_colourAt 60 = .ok (.istore 5, 2) := by decide +kernel
theorem dX3_colourAt_62 : decode cX3_colourAt 62 = .ok (.iload_n 2, 1) := by decide +kernel
theorem dX3_colourAt_63 : decode cX3_colourAt 63 = .ok (.aload_n 0, 1) := by decide +kernel
theorem dX3_colourAt_64 : decode cX3_colourAt 64 = .ok (.getfield 14, 3) := by decide +kernel
theorem dX3_colourAt_67 : decode cX3_colourAt 67 = .ok (.getfield 37, 3) := by decide +kernel
theorem dX3_colourAt_70 : decode cX3_colourAt 70 = .ok (.invokestatic 30, 3) := by decide +kernel
theorem dX3_colourAt_73 : decode cX3_colourAt 73 = .ok (.istore 6, 2) := by decide +kernel
theorem dX3_colourAt_75 : decode cX3_colourAt 75 = .ok (.aload_n 0, 1) := by decide +kernel
theorem dX3_colourAt_76 : decode cX3_colourAt 76 = .ok (.getfield 20, 3) := by decide +kernel
theorem dX3_colourAt_79 : decode cX3_colourAt 79 = .ok (.iconst 5, 1) := by decide +kernel
theorem dX3_colourAt_80 : decode cX3_colourAt 80 = .ok (.if_icmp .ne 21, 3) := by decide +kernel
theorem dX3_colourAt_83 : decode cX3_colourAt 83 = .ok (.iload_n 3, 1) := by decide +kernel
theorem dX3_colourAt_84 : decode cX3_colourAt 84 = .ok (.iload 4, 2) := by decide +kernel
theorem dX3_colourAt_86 : decode cX3_colourAt 86 = .ok (.if_icmp .eq 15, 3) := by decide +kernel
theorem dX3_colourAt_89 : decode cX3_colourAt 89 = .ok (.iload 5, 2) := by decide +kernel
theorem dX3_colourAt_91 : decode cX3_colourAt 91 = .ok (.istore 7, 2) := by decide +kernel
theorem dX3_colourAt_93 : decode cX3_colourAt 93 = .ok (.iload 6, 2) := by decide +kernel
theorem dX3_colourAt_95 : decode cX3_colourAt 95 = .ok (.istore 5, 2) := by decide +kernel
theorem dX3_colourAt_97 : decode cX3_colourAt 97 = .ok (.iload 7, 2) := by decide +kernel
theorem dX3_colourAt_99 : decode cX3_colourAt 99 = .ok (.istore 6, 2) := by decide +kernel
theorem dX3_colourAt_101 : decode cX3_colourAt 101 = .ok (.aload_n 0, 1) := by decide +kernel
theorem dX3_colourAt_102 : decode cX3_colourAt 102 = .ok (.iload_n 3, 1) := by decide +kernel
theorem dX3_colourAt_103 : decode cX3_colourAt 103 = .ok (.iload 4, 2) := by decide +kernel
theorem dX3_colourAt_105 : decode cX3_colourAt 105 = .ok (.invokevirtual 40, 3) := by decide +kernel
theorem dX3_colourAt_108 : decode cX3_colourAt 108 = .ok (.ifCond .eq 17, 3) := by decide +kernel
theorem dX3_colourAt_111 : decode cX3_colourAt 111 = .ok (.aload_n 0, 1) := by decide +kernel
theorem dX3_colourAt_112 : decode cX3_colourAt 112 = .ok (.getfield 14, 3) := by decide +kernel
theorem dX3_colourAt_115 : decode cX3_colourAt 115 = .ok (.getfield 34, 3) := by decide +kernel
theorem dX3_colourAt_118 : decode cX3_colourAt 118 = .ok (.iconst 1, 1) := by decide +kernel
theorem dX3_colourAt_119 : decode cX3_colourAt 119 = .ok (.isub, 1) := by decide +kernel
theorem dX3_colourAt_120 : decode cX3_colourAt 120 = .ok (.iload 5, 2) := by decide +kernel
theorem dX3_colourAt_122 : decode cX3_colourAt 122 = .ok (.isub, 1) := by decide +kernel
theorem dX3_colourAt_123 : decode cX3_colourAt 123 = .ok (.istore 5, 2) := by decide +kernel
theorem dX3_colourAt_125 : decode cX3_colourAt 125 = .ok (.aload_n 0, 1) := by decide +kernel
theorem dX3_colourAt_126 : decode cX3_colourAt 126 = .ok (.iload_n 3, 1) := by decide +kernel
theorem dX3_colourAt_127 : decode cX3_colourAt 127 = .ok (.iload 4, 2) := by decide +kernel
theorem dX3_colourAt_129 : decode cX3_colourAt 129 = .ok (.invokevirtual 44, 3) := by decide +kernel
theorem dX3_colourAt_132 : decode cX3_colourAt 132 = .ok (.ifCond .eq 17, 3) := by decide +kernel
theorem dX3_colourAt_135 : decode cX3_colourAt 135 = .ok (.aload_n 0, 1) := by decide +kernel
theorem dX3_colourAt_136 : decode cX3_colourAt 136 = .ok (.getfield 14, 3) := by decide +kernel
theorem dX3_colourAt_139 : decode cX3_colourAt 139 = .ok (.getfield 37, 3) := by decide +kernel
theorem dX3_colourAt_142 : decode cX3_colourAt 142 = .ok (.iconst 1, 1) := by decide +kernel
theorem dX3_colourAt_143 : decode cX3_colourAt 143 = .ok (.isub, 1) := by decide +kernel
theorem dX3_colourAt_144 : decode cX3_colourAt 144 = .ok (.iload 6, 2) := by decide +kernel
theorem dX3_colourAt_146 : decode cX3_colourAt 146 = .ok (.isub, 1) := by decide +kernel
theorem dX3_colourAt_147 : decode cX3_colourAt 147 = .ok (.istore 6, 2) := by decide +kernel
theorem dX3_colourAt_149 : decode cX3_colourAt 149 = .ok (.aload_n 0, 1) := by decide +kernel
theorem dX3_colourAt_150 : decode cX3_colourAt 150 = .ok (.getfield 14, 3) := by decide +kernel
theorem dX3_colourAt_153 : decode cX3_colourAt 153 = .ok (.iload 5, 2) := by decide +kernel
theorem dX3_colourAt_155 : decode cX3_colourAt 155 = .ok (.iload 6, 2) := by decide +kernel
theorem dX3_colourAt_157 : decode cX3_colourAt 157 = .ok (.invokevirtual 47, 3) := by decide +kernel
theorem dX3_colourAt_160 : decode cX3_colourAt 160 = .ok (.ireturn, 1) := by decide +kernel
theorem dX3_flipsColumns_0 : decode cX3_flipsColumns 0 = .ok (.aload_n 0, 1) := by decide +kernel
theorem dX3_flipsColumns_1 : decode cX3_flipsColumns 1 = .ok (.getfield 20, 3) := by decide +kernel
theorem dX3_flipsColumns_4 : decode cX3_flipsColumns 4 = .ok (.tableswitch 40 1 5 #[36, 38, 40, 38, 36], 36) := by decide +kernel
theorem dX3_flipsColumns_40 : decode cX3_flipsColumns 40 = .ok (.iload_n 2, 1) := by decide +kernel
theorem dX3_flipsColumns_41 : decode cX3_flipsColumns 41 = .ok (.ireturn, 1) := by decide +kernel
theorem dX3_flipsColumns_42 : decode cX3_flipsColumns 42 = .ok (.iload_n 1, 1) := by decide +kernel
theorem dX3_flipsColumns_43 : decode cX3_flipsColumns 43 = .ok (.ireturn, 1) := by decide +kernel
theorem dX3_flipsColumns_44 : decode cX3_flipsColumns 44 = .ok (.iconst 0, 1) := by decide +kernel
theorem dX3_flipsColumns_45 : decode cX3_flipsColumns 45 = .ok (.ireturn, 1) := by decide +kernel
theorem dX3_flipsRows_0 : decode cX3_flipsRows 0 = .ok (.aload_n 0, 1) := by decide +kernel
theorem dX3_flipsRows_1 : decode cX3_flipsRows 1 = .ok (.getfield 20, 3) := by decide +kernel
theorem dX3_flipsRows_4 : decode cX3_flipsRows 4 = .ok (.tableswitch 40 1 5 #[36, 40, 38, 36, 38], 36) := by decide +kernel
theorem dX3_flipsRows_40 : decode cX3_flipsRows 40 = .ok (.iload_n 2, 1) := by decide +kernel
theorem dX3_flipsRows_41 : decode cX3_flipsRows 41 = .ok (.ireturn, 1) := by decide +kernel
theorem dX3_flipsRows_42 : decode cX3_flipsRows 42 = .ok (.iload_n 1, 1) := by decide +kernel
theorem dX3_flipsRows_43 : decode cX3_flipsRows 43 = .ok (.ireturn, 1) := by decide +kernel
theorem dX3_flipsRows_44 : decode cX3_flipsRows 44 = .ok (.iconst 0, 1) := by decide +kernel
theorem dX3_flipsRows_45 : decode cX3_flipsRows 45 = .ok (.ireturn, 1) := by decide +kernel
theorem dX3_leastMove_0 : decode cX3_leastMove 0 = .ok (.iload_n 1, 1) := by decide +kernel
theorem dX3_leastMove_1 : decode cX3_leastMove 1 = .ok (.ifCond .eq 10, 3) := by decide +kernel
theorem dX3_leastMove_4 : decode cX3_leastMove 4 = .ok (.aload_n 0, 1) := by decide +kernel
theorem dX3_leastMove_5 : decode cX3_leastMove 5 = .ok (.getfield 27, 3) := by decide +kernel
theorem dX3_leastMove_8 : decode cX3_leastMove 8 = .ok (.goto 7, 3) := by decide +kernel
theorem dX3_leastMove_11 : decode cX3_leastMove 11 = .ok (.aload_n 0, 1) := by decide +kernel
theorem dX3_leastMove_12 : decode cX3_leastMove 12 = .ok (.getfield 24, 3) := by decide +kernel
theorem dX3_leastMove_15 : decode cX3_leastMove 15 = .ok (.istore_n 2, 1) := by decide +kernel
theorem dX3_leastMove_16 : decode cX3_leastMove 16 = .ok (.iconst 1, 1) := by decide +kernel
theorem dX3_leastMove_17 : decode cX3_leastMove 17 = .ok (.istore_n 3, 1) := by decide +kernel
theorem dX3_leastMove_18 : decode cX3_leastMove 18 = .ok (.iload_n 3, 1) := by decide +kernel
theorem dX3_leastMove_19 : decode cX3_leastMove 19 = .ok (.iload_n 2, 1) := by decide +kernel
theorem dX3_leastMove_20 : decode cX3_leastMove 20 = .ok (.if_icmp .ge 36, 3) := by decide +kernel
theorem dX3_leastMove_23 : decode cX3_leastMove 23 = .ok (.iload_n 1, 1) := by decide +kernel
theorem dX3_leastMove_24 : decode cX3_leastMove 24 = .ok (.ifCond .eq 15, 3) := by decide +kernel
theorem dX3_leastMove_27 : decode cX3_leastMove 27 = .ok (.aload_n 0, 1) := by decide +kernel
theorem dX3_leastMove_28 : decode cX3_leastMove 28 = .ok (.iconst 0, 1) := by decide +kernel
theorem dX3_leastMove_29 : decode cX3_leastMove 29 = .ok (.iload_n 3, 1) := by decide +kernel
theorem dX3_leastMove_30 : decode cX3_leastMove 30 = .ok (.invokevirtual 50, 3) := by decide +kernel
theorem dX3_leastMove_33 : decode cX3_leastMove 33 = .ok (.ifCond .eq 17, 3) := by decide +kernel
theorem dX3_leastMove_36 : decode cX3_leastMove 36 = .ok (.goto 12, 3) := by decide +kernel
theorem dX3_leastMove_39 : decode cX3_leastMove 39 = .ok (.aload_n 0, 1) := by decide +kernel
theorem dX3_leastMove_40 : decode cX3_leastMove 40 = .ok (.iload_n 3, 1) := by decide +kernel
theorem dX3_leastMove_41 : decode cX3_leastMove 41 = .ok (.iconst 0, 1) := by decide +kernel
theorem dX3_leastMove_42 : decode cX3_leastMove 42 = .ok (.invokevirtual 50, 3) := by decide +kernel
theorem dX3_leastMove_45 : decode cX3_leastMove 45 = .ok (.ifCond .eq 5, 3) := by decide +kernel
theorem dX3_leastMove_48 : decode cX3_leastMove 48 = .ok (.iload_n 3, 1) := by decide +kernel
theorem dX3_leastMove_49 : decode cX3_leastMove 49 = .ok (.ireturn, 1) := by decide +kernel
theorem dX3_leastMove_50 : decode cX3_leastMove 50 = .ok (.iinc 3 1, 3) := by decide +kernel
theorem dX3_leastMove_53 : decode cX3_leastMove 53 = .ok (.goto (-35), 3) := by decide +kernel
theorem dX3_leastMove_56 : decode cX3_leastMove 56 = .ok (.iload_n 2, 1) := by decide +kernel
theorem dX3_leastMove_57 : decode cX3_leastMove 57 = .ok (.ireturn, 1) := by decide +kernel
theorem dX3_staysWhenMoved_0 : decode cX3_staysWhenMoved 0 = .ok (.iconst 0, 1) := by decide +kernel
theorem dX3_staysWhenMoved_1 : decode cX3_staysWhenMoved 1 = .ok (.istore_n 3, 1) := by decide +kernel
theorem dX3_staysWhenMoved_2 : decode cX3_staysWhenMoved 2 = .ok (.iload_n 3, 1) := by decide +kernel
theorem dX3_staysWhenMoved_3 : decode cX3_staysWhenMoved 3 = .ok (.aload_n 0, 1) := by decide +kernel
theorem dX3_staysWhenMoved_4 : decode cX3_staysWhenMoved 4 = .ok (.getfield 27, 3) := by decide +kernel
theorem dX3_staysWhenMoved_7 : decode cX3_staysWhenMoved 7 = .ok (.if_icmp .ge 50, 3) := by decide +kernel
theorem dX3_staysWhenMoved_10 : decode cX3_staysWhenMoved 10 = .ok (.iconst 0, 1) := by decide +kernel
theorem dX3_staysWhenMoved_11 : decode cX3_staysWhenMoved 11 = .ok (.istore 4, 2) := by decide +kernel
theorem dX3_staysWhenMoved_13 : decode cX3_staysWhenMoved 13 = .ok (.iload 4, 2) := by decide +kernel
theorem dX3_staysWhenMoved_15 : decode cX3_staysWhenMoved 15 = .ok (.aload_n 0, 1) := by decide +kernel
theorem dX3_staysWhenMoved_16 : decode cX3_staysWhenMoved 16 = .ok (.getfield 24, 3) := by decide +kernel
theorem dX3_staysWhenMoved_19 : decode cX3_staysWhenMoved 19 = .ok (.if_icmp .ge 32, 3) := by decide +kernel
theorem dX3_staysWhenMoved_22 : decode cX3_staysWhenMoved 22 = .ok (.aload_n 0, 1) := by decide +kernel
theorem dX3_staysWhenMoved_23 : decode cX3_staysWhenMoved 23 = .ok (.iload 4, 2) := by decide +kernel
theorem dX3_staysWhenMoved_25 : decode cX3_staysWhenMoved 25 = .ok (.iload_n 3, 1) := by decide +kernel
theorem dX3_staysWhenMoved_26 : decode cX3_staysWhenMoved 26 = .ok (.invokevirtual 54, 3) := by decide +kernel
theorem dX3_staysWhenMoved_29 : decode cX3_staysWhenMoved 29 = .ok (.aload_n 0, 1) := by decide +kernel
theorem dX3_staysWhenMoved_30 : decode cX3_staysWhenMoved 30 = .ok (.iload 4, 2) := by decide +kernel
theorem dX3_staysWhenMoved_32 : decode cX3_staysWhenMoved 32 = .ok (.iload_n 1, 1) := by decide +kernel
theorem dX3_staysWhenMoved_33 : decode cX3_staysWhenMoved 33 = .ok (.iadd, 1) := by decide +kernel
theorem dX3_staysWhenMoved_34 : decode cX3_staysWhenMoved 34 = .ok (.iload_n 3, 1) := by decide +kernel
theorem dX3_staysWhenMoved_35 : decode cX3_staysWhenMoved 35 = .ok (.iload_n 2, 1) := by decide +kernel
theorem dX3_staysWhenMoved_36 : decode cX3_staysWhenMoved 36 = .ok (.iadd, 1) := by decide +kernel
theorem dX3_staysWhenMoved_37 : decode cX3_staysWhenMoved 37 = .ok (.invokevirtual 54, 3) := by decide +kernel
theorem dX3_staysWhenMoved_40 : decode cX3_staysWhenMoved 40 = .ok (.if_icmp .eq 5, 3) := by decide +kernel
theorem dX3_staysWhenMoved_43 : decode cX3_staysWhenMoved 43 = .ok (.iconst 0, 1) := by decide +kernel
theorem dX3_staysWhenMoved_44 : decode cX3_staysWhenMoved 44 = .ok (.ireturn, 1) := by decide +kernel
theorem dX3_staysWhenMoved_45 : decode cX3_staysWhenMoved 45 = .ok (.iinc 4 1, 3) := by decide +kernel
theorem dX3_staysWhenMoved_48 : decode cX3_staysWhenMoved 48 = .ok (.goto (-35), 3) := by decide +kernel
theorem dX3_staysWhenMoved_51 : decode cX3_staysWhenMoved 51 = .ok (.iinc 3 1, 3) := by decide +kernel
theorem dX3_staysWhenMoved_54 : decode cX3_staysWhenMoved 54 = .ok (.goto (-52), 3) := by decide +kernel
theorem dX3_staysWhenMoved_57 : decode cX3_staysWhenMoved 57 = .ok (.iconst 1, 1) := by decide +kernel
theorem dX3_staysWhenMoved_58 : decode cX3_staysWhenMoved 58 = .ok (.ireturn, 1) := by decide +kernel
theorem dX3_drawn_0 : decode cX3_drawn 0 = .ok (.new 9, 3) := by decide +kernel
theorem dX3_drawn_3 : decode cX3_drawn 3 = .ok (.dup, 1) := by decide +kernel
theorem dX3_drawn_4 : decode cX3_drawn 4 = .ok (.aload_n 0, 1) := by decide +kernel
theorem dX3_drawn_5 : decode cX3_drawn 5 = .ok (.getfield 24, 3) := by decide +kernel
theorem dX3_drawn_8 : decode cX3_drawn 8 = .ok (.aload_n 0, 1) := by decide +kernel
theorem dX3_drawn_9 : decode cX3_drawn 9 = .ok (.getfield 27, 3) := by decide +kernel
theorem dX3_drawn_12 : decode cX3_drawn 12 = .ok (.invokespecial 11, 3) := by decide +kernel
theorem dX3_drawn_15 : decode cX3_drawn 15 = .ok (.astore_n 1, 1) := by decide +kernel
theorem dX3_drawn_16 : decode cX3_drawn 16 = .ok (.iconst 0, 1) := by decide +kernel
theorem dX3_drawn_17 : decode cX3_drawn 17 = .ok (.istore_n 2, 1) := by decide +kernel
theorem dX3_drawn_18 : decode cX3_drawn 18 = .ok (.iload_n 2, 1) := by decide +kernel
theorem dX3_drawn_19 : decode cX3_drawn 19 = .ok (.aload_n 0, 1) := by decide +kernel
theorem dX3_drawn_20 : decode cX3_drawn 20 = .ok (.getfield 27, 3) := by decide +kernel
theorem dX3_drawn_23 : decode cX3_drawn 23 = .ok (.if_icmp .ge 37, 3) := by decide +kernel
theorem dX3_drawn_26 : decode cX3_drawn 26 = .ok (.iconst 0, 1) := by decide +kernel
theorem dX3_drawn_27 : decode cX3_drawn 27 = .ok (.istore_n 3, 1) := by decide +kernel
theorem dX3_drawn_28 : decode cX3_drawn 28 = .ok (.iload_n 3, 1) := by decide +kernel
theorem dX3_drawn_29 : decode cX3_drawn 29 = .ok (.aload_n 0, 1) := by decide +kernel
theorem dX3_drawn_30 : decode cX3_drawn 30 = .ok (.getfield 24, 3) := by decide +kernel
theorem dX3_drawn_33 : decode cX3_drawn 33 = .ok (.if_icmp .ge 21, 3) := by decide +kernel
theorem dX3_drawn_36 : decode cX3_drawn 36 = .ok (.aload_n 1, 1) := by decide +kernel
theorem dX3_drawn_37 : decode cX3_drawn 37 = .ok (.iload_n 3, 1) := by decide +kernel
theorem dX3_drawn_38 : decode cX3_drawn 38 = .ok (.iload_n 2, 1) := by decide +kernel
theorem dX3_drawn_39 : decode cX3_drawn 39 = .ok (.aload_n 0, 1) := by decide +kernel
theorem dX3_drawn_40 : decode cX3_drawn 40 = .ok (.iload_n 3, 1) := by decide +kernel
theorem dX3_drawn_41 : decode cX3_drawn 41 = .ok (.iload_n 2, 1) := by decide +kernel
theorem dX3_drawn_42 : decode cX3_drawn 42 = .ok (.invokevirtual 54, 3) := by decide +kernel
theorem dX3_drawn_45 : decode cX3_drawn 45 = .ok (.invokevirtual 55, 3) := by decide +kernel
theorem dX3_drawn_48 : decode cX3_drawn 48 = .ok (.iinc 3 1, 3) := by decide +kernel
theorem dX3_drawn_51 : decode cX3_drawn 51 = .ok (.goto (-23), 3) := by decide +kernel
theorem dX3_drawn_54 : decode cX3_drawn 54 = .ok (.iinc 2 1, 3) := by decide +kernel
theorem dX3_drawn_57 : decode cX3_drawn 57 = .ok (.goto (-39), 3) := by decide +kernel
theorem dX3_drawn_60 : decode cX3_drawn 60 = .ok (.aload_n 1, 1) := by decide +kernel
theorem dX3_drawn_61 : decode cX3_drawn 61 = .ok (.areturn, 1) := by decide +kernel
theorem dX4_init_0 : decode cX4_init 0 = .ok (.aload_n 0, 1) := by decide +kernel
theorem dX4_init_1 : decode cX4_init 1 = .ok (.invokespecial 1, 3) := by decide +kernel
theorem dX4_init_4 : decode cX4_init 4 = .ok (.aload_n 0, 1) := by decide +kernel
theorem dX4_init_5 : decode cX4_init 5 = .ok (.iload_n 1, 1) := by decide +kernel
theorem dX4_init_6 : decode cX4_init 6 = .ok (.putfield 7, 3) := by decide +kernel
theorem dX4_init_9 : decode cX4_init 9 = .ok (.aload_n 0, 1) := by decide +kernel
theorem dX4_init_10 : decode cX4_init 10 = .ok (.aload_n 2, 1) := by decide +kernel
theorem dX4_init_11 : decode cX4_init 11 = .ok (.putfield 13, 3) := by decide +kernel
theorem dX4_init_14 : decode cX4_init 14 = .ok (.return_, 1) := by decide +kernel
theorem dX5_init_0 : decode cX5_init 0 = .ok (.aload_n 0, 1) := by decide +kernel
theorem dX5_init_1 : decode cX5_init 1 = .ok (.invokespecial 3, 3) := by decide +kernel
theorem dX5_init_4 : decode cX5_init 4 = .ok (.aload_n 0, 1) := by decide +kernel
theorem dX5_init_5 : decode cX5_init 5 = .ok (.iconst 4, 1) := by decide +kernel
theorem dX5_init_6 : decode cX5_init 6 = .ok (.anewarray 9, 3) := by decide +kernel
theorem dX5_init_9 : decode cX5_init 9 = .ok (.putfield 11, 3) := by decide +kernel
theorem dX5_init_12 : decode cX5_init 12 = .ok (.aload_n 0, 1) := by decide +kernel
theorem dX5_init_13 : decode cX5_init 13 = .ok (.new 17, 3) := by decide +kernel
theorem dX5_init_16 : decode cX5_init 16 = .ok (.dup, 1) := by decide +kernel
theorem dX5_init_17 : decode cX5_init 17 = .ok (.invokespecial 19, 3) := by decide +kernel
theorem dX5_init_20 : decode cX5_init 20 = .ok (.putfield 20, 3) := by decide +kernel
theorem dX5_init_23 : decode cX5_init 23 = .ok (.return_, 1) := by decide +kernel
theorem dX5_isHung_0 : decode cX5_isHung 0 = .ok (.aload_n 0, 1) := by decide +kernel
theorem dX5_isHung_1 : decode cX5_isHung 1 = .ok (.getfield 24, 3) := by decide +kernel
theorem dX5_isHung_4 : decode cX5_isHung 4 = .ok (.ifnull 7, 3) := by decide +kernel
theorem dX5_isHung_7 : decode cX5_isHung 7 = .ok (.iconst 1, 1) := by decide +kernel
theorem dX5_isHung_8 : decode cX5_isHung 8 = .ok (.goto 4, 3) := by decide +kernel
theorem dX5_isHung_11 : decode cX5_isHung 11 = .ok (.iconst 0, 1) := by decide +kernel
theorem dX5_isHung_12 : decode cX5_isHung 12 = .ok (.ireturn, 1) := by decide +kernel
theorem dX5_makeBare_0 : decode cX5_makeBare 0 = .ok (.aload_n 0, 1) := by decide +kernel
theorem dX5_makeBare_1 : decode cX5_makeBare 1 = .ok (.aconst_null, 1) := by decide +kernel
theorem dX5_makeBare_2 : decode cX5_makeBare 2 = .ok (.putfield 24, 3) := by decide +kernel
theorem dX5_makeBare_5 : decode cX5_makeBare 5 = .ok (.return_, 1) := by decide +kernel
theorem dX5_addWall_0 : decode cX5_addWall 0 = .ok (.aload_n 0, 1) := by decide +kernel
theorem dX5_addWall_1 : decode cX5_addWall 1 = .ok (.getfield 28, 3) := by decide +kernel
theorem dX5_addWall_4 : decode cX5_addWall 4 = .ok (.istore_n 3, 1) := by decide +kernel
theorem dX5_addWall_5 : decode cX5_addWall 5 = .ok (.iload_n 3, 1) := by decide +kernel
theorem dX5_addWall_6 : decode cX5_addWall 6 = .ok (.ifCond .lt 12, 3) := by decide +kernel
theorem dX5_addWall_9 : decode cX5_addWall 9 = .ok (.iload_n 3, 1) := by decide +kernel
theorem dX5_addWall_10 : decode cX5_addWall 10 = .ok (.aload_n 0, 1) := by decide +kernel
theorem dX5_addWall_11 : decode cX5_addWall 11 = .ok (.getfield 11, 3) := by decide +kernel
theorem dX5_addWall_14 : decode cX5_addWall 14 = .ok (.arraylength, 1) := by decide +kernel
theorem dX5_addWall_15 : decode cX5_addWall 15 = .ok (.if_icmp .lt 5, 3) := by decide +kernel
theorem dX5_addWall_18 : decode cX5_addWall 18 = .ok (.iconst (-1), 1) := by decide +kernel
theorem dX5_addWall_19 : decode cX5_addWall 19 = .ok (.ireturn, 1) := by decide +kernel
theorem dX5_addWall_20 : decode cX5_addWall 20 = .ok (.aload_n 0, 1) := by decide +kernel
theorem dX5_addWall_21 : decode cX5_addWall 21 = .ok (.getfield 11, 3) := by decide +kernel
theorem dX5_addWall_24 : decode cX5_addWall 24 = .ok (.iload_n 3, 1) := by decide +kernel
theorem dX5_addWall_25 : decode cX5_addWall 25 = .ok (.new 9, 3) := by decide +kernel
theorem dX5_addWall_28 : decode cX5_addWall 28 = .ok (.dup, 1) := by decide +kernel
theorem dX5_addWall_29 : decode cX5_addWall 29 = .ok (.iload_n 1, 1) := by decide +kernel
theorem dX5_addWall_30 : decode cX5_addWall 30 = .ok (.iload_n 2, 1) := by decide +kernel
theorem dX5_addWall_31 : decode cX5_addWall 31 = .ok (.invokespecial 32, 3) := by decide +kernel
theorem dX5_addWall_34 : decode cX5_addWall 34 = .ok (.aastore, 1) := by decide +kernel
theorem dX5_addWall_35 : decode cX5_addWall 35 = .ok (.aload_n 0, 1) := by decide +kernel
theorem dX5_addWall_36 : decode cX5_addWall 36 = .ok (.iload_n 3, 1) := by decide +kernel
theorem dX5_addWall_37 : decode cX5_addWall 37 = .ok (.iconst 1, 1) := by decide +kernel
theorem dX5_addWall_38 : decode cX5_addWall 38 = .ok (.iadd, 1) := by decide +kernel
theorem dX5_addWall_39 : decode cX5_addWall 39 = .ok (.putfield 28, 3) := by decide +kernel
theorem dX5_addWall_42 : decode cX5_addWall 42 = .ok (.iload_n 3, 1) := by decide +kernel
theorem dX5_addWall_43 : decode cX5_addWall 43 = .ok (.ireturn, 1) := by decide +kernel
theorem dX5_bestPhase_0 : decode cX5_bestPhase 0 = .ok (.iconst (-1), 1) := by decide +kernel
theorem dX5_bestPhase_1 : decode cX5_bestPhase 1 = .ok (.istore_n 2, 1) := by decide +kernel
theorem dX5_bestPhase_2 : decode cX5_bestPhase 2 = .ok (.bipush 21, 2) := by decide +kernel
theorem dX5_bestPhase_4 : decode cX5_bestPhase 4 = .ok (.istore_n 3, 1) := by decide +kernel
theorem dX5_bestPhase_5 : decode cX5_bestPhase 5 = .ok (.iconst 0, 1) := by decide +kernel
theorem dX5_bestPhase_6 : decode cX5_bestPhase 6 = .ok (.istore 4, 2) := by decide +kernel
theorem dX5_bestPhase_8 : decode cX5_bestPhase 8 = .ok (.iload 4, 2) := by decide +kernel
theorem dX5_bestPhase_10 : decode cX5_bestPhase 10 = .ok (.aload_n 1, 1) := by decide +kernel
theorem dX5_bestPhase_11 : decode cX5_bestPhase 11 = .ok (.getfield 35, 3) := by decide +kernel
theorem dX5_bestPhase_14 : decode cX5_bestPhase 14 = .ok (.getfield 41, 3) := by decide +kernel
theorem dX5_bestPhase_17 : decode cX5_bestPhase 17 = .ok (.getfield 47, 3) := by decide +kernel
theorem dX5_bestPhase_20 : decode cX5_bestPhase 20 = .ok (.if_icmp .ge 41, 3) := by decide +kernel
theorem dX5_bestPhase_23 : decode cX5_bestPhase 23 = .ok (.aload_n 0, 1) := by decide +kernel
theorem dX5_bestPhase_24 : decode cX5_bestPhase 24 = .ok (.aload_n 1, 1) := by decide +kernel
theorem dX5_bestPhase_25 : decode cX5_bestPhase 25 = .ok (.iload 4, 2) := by decide +kernel
theorem dX5_bestPhase_27 : decode cX5_bestPhase 27 = .ok (.invokevirtual 52, 3) := by decide +kernel
theorem dX5_bestPhase_30 : decode cX5_bestPhase 30 = .ok (.ifCond .eq 25, 3) := by decide +kernel
theorem dX5_bestPhase_33 : decode cX5_bestPhase 33 = .ok (.aload_n 0, 1) := by decide +kernel
theorem dX5_bestPhase_34 : decode cX5_bestPhase 34 = .ok (.getfield 20, 3) := by decide +kernel
theorem dX5_bestPhase_37 : decode cX5_bestPhase 37 = .ok (.getfield 56, 3) := by decide +kernel
theorem dX5_bestPhase_40 : decode cX5_bestPhase 40 = .ok (.iload_n 3, 1) := by decide +kernel
theorem dX5_bestPhase_41 : decode cX5_bestPhase 41 = .ok (.if_icmp .ge 14, 3) := by decide +kernel
theorem dX5_bestPhase_44 : decode cX5_bestPhase 44 = .ok (.iload 4, 2) := by decide +kernel
theorem dX5_bestPhase_46 : decode cX5_bestPhase 46 = .ok (.istore_n 2, 1) := by decide +kernel
theorem dX5_bestPhase_47 : decode cX5_bestPhase 47 = .ok (.aload_n 0, 1) := by decide +kernel
theorem dX5_bestPhase_48 : decode cX5_bestPhase 48 = .ok (.getfield 20, 3) := by decide +kernel
theorem dX5_bestPhase_51 : decode cX5_bestPhase 51 = .ok (.getfield 56, 3) := by decide +kernel
theorem dX5_bestPhase_54 : decode cX5_bestPhase 54 = .ok (.istore_n 3, 1) := by decide +kernel
theorem dX5_bestPhase_55 : decode cX5_bestPhase 55 = .ok (.iinc 4 1, 3) := by decide +kernel
theorem dX5_bestPhase_58 : decode cX5_bestPhase 58 = .ok (.goto (-50), 3) := by decide +kernel
theorem dX5_bestPhase_61 : decode cX5_bestPhase 61 = .ok (.iload_n 2, 1) := by decide +kernel
theorem dX5_bestPhase_62 : decode cX5_bestPhase 62 = .ok (.ireturn, 1) := by decide +kernel
theorem dX5_cutAll_0 : decode cX5_cutAll 0 = .ok (.aload_n 0, 1) := by decide +kernel
theorem dX5_cutAll_1 : decode cX5_cutAll 1 = .ok (.getfield 20, 3) := by decide +kernel
theorem dX5_cutAll_4 : decode cX5_cutAll 4 = .ok (.aload_n 1, 1) := by decide +kernel
theorem dX5_cutAll_5 : decode cX5_cutAll 5 = .ok (.iload_n 2, 1) := by decide +kernel
theorem dX5_cutAll_6 : decode cX5_cutAll 6 = .ok (.invokevirtual 59, 3) := by decide +kernel
theorem dX5_cutAll_9 : decode cX5_cutAll 9 = .ok (.aload_n 0, 1) := by decide +kernel
theorem dX5_cutAll_10 : decode cX5_cutAll 10 = .ok (.getfield 11, 3) := by decide +kernel
theorem dX5_cutAll_13 : decode cX5_cutAll 13 = .ok (.astore_n 3, 1) := by decide +kernel
theorem dX5_cutAll_14 : decode cX5_cutAll 14 = .ok (.aload_n 3, 1) := by decide +kernel
theorem dX5_cutAll_15 : decode cX5_cutAll 15 = .ok (.arraylength, 1) := by decide +kernel
theorem dX5_cutAll_16 : decode cX5_cutAll 16 = .ok (.istore 4, 2) := by decide +kernel
theorem dX5_cutAll_18 : decode cX5_cutAll 18 = .ok (.iconst 0, 1) := by decide +kernel
theorem dX5_cutAll_19 : decode cX5_cutAll 19 = .ok (.istore 5, 2) := by decide +kernel
theorem dX5_cutAll_21 : decode cX5_cutAll 21 = .ok (.iload 5, 2) := by decide +kernel
theorem dX5_cutAll_23 : decode cX5_cutAll 23 = .ok (.iload 4, 2) := by decide +kernel
theorem dX5_cutAll_25 : decode cX5_cutAll 25 = .ok (.if_icmp .ge 35, 3) := by decide +kernel
theorem dX5_cutAll_28 : decode cX5_cutAll 28 = .ok (.aload_n 3, 1) := by decide +kernel
theorem dX5_cutAll_29 : decode cX5_cutAll 29 = .ok (.iload 5, 2) := by decide +kernel
theorem dX5_cutAll_31 : decode cX5_cutAll 31 = .ok (.aaload, 1) := by decide +kernel
theorem dX5_cutAll_32 : decode cX5_cutAll 32 = .ok (.astore 6, 2) := by decide +kernel
theorem dX5_cutAll_34 : decode cX5_cutAll 34 = .ok (.aload 6, 2) := by decide +kernel
theorem dX5_cutAll_36 : decode cX5_cutAll 36 = .ok (.ifnull 18, 3) := by decide +kernel
theorem dX5_cutAll_39 : decode cX5_cutAll 39 = .ok (.aload 6, 2) := by decide +kernel
theorem dX5_cutAll_41 : decode cX5_cutAll 41 = .ok (.aload_n 0, 1) := by decide +kernel
theorem dX5_cutAll_42 : decode cX5_cutAll 42 = .ok (.getfield 20, 3) := by decide +kernel
theorem dX5_cutAll_45 : decode cX5_cutAll 45 = .ok (.iconst 0, 1) := by decide +kernel
theorem dX5_cutAll_46 : decode cX5_cutAll 46 = .ok (.invokevirtual 63, 3) := by decide +kernel
theorem dX5_cutAll_49 : decode cX5_cutAll 49 = .ok (.ifCond .ne 5, 3) := by decide +kernel
theorem dX5_cutAll_52 : decode cX5_cutAll 52 = .ok (.iconst 0, 1) := by decide +kernel
theorem dX5_cutAll_53 : decode cX5_cutAll 53 = .ok (.ireturn, 1) := by decide +kernel
theorem dX5_cutAll_54 : decode cX5_cutAll 54 = .ok (.iinc 5 1, 3) := by decide +kernel
theorem dX5_cutAll_57 : decode cX5_cutAll 57 = .ok (.goto (-36), 3) := by decide +kernel
theorem dX5_cutAll_60 : decode cX5_cutAll 60 = .ok (.iconst 1, 1) := by decide +kernel
theorem dX5_cutAll_61 : decode cX5_cutAll 61 = .ok (.ireturn, 1) := by decide +kernel
theorem dX5_hangFrom_0 : decode cX5_hangFrom 0 = .ok (.aload_n 0, 1) := by decide +kernel
theorem dX5_hangFrom_1 : decode cX5_hangFrom 1 = .ok (.aload_n 1, 1) := by decide +kernel
theorem dX5_hangFrom_2 : decode cX5_hangFrom 2 = .ok (.iload_n 3, 1) := by decide +kernel
theorem dX5_hangFrom_3 : decode cX5_hangFrom 3 = .ok (.invokevirtual 52, 3) := by decide +kernel
theorem dX5_hangFrom_6 : decode cX5_hangFrom 6 = .ok (.pop, 1) := by decide +kernel
theorem dX5_hangFrom_7 : decode cX5_hangFrom 7 = .ok (.aload_n 1, 1) := by decide +kernel
theorem dX5_hangFrom_8 : decode cX5_hangFrom 8 = .ok (.dup, 1) := by decide +kernel
theorem dX5_hangFrom_9 : decode cX5_hangFrom 9 = .ok (.getfield 67, 3) := by decide +kernel
theorem dX5_hangFrom_12 : decode cX5_hangFrom 12 = .ok (.aload_n 0, 1) := by decide +kernel
theorem dX5_hangFrom_13 : decode cX5_hangFrom 13 = .ok (.getfield 20, 3) := by decide +kernel
theorem dX5_hangFrom_16 : decode cX5_hangFrom 16 = .ok (.getfield 56, 3) := by decide +kernel
theorem dX5_hangFrom_19 : decode cX5_hangFrom 19 = .ok (.isub, 1) := by decide +kernel
theorem dX5_hangFrom_20 : decode cX5_hangFrom 20 = .ok (.putfield 67, 3) := by decide +kernel
theorem dX5_hangFrom_23 : decode cX5_hangFrom 23 = .ok (.aload_n 0, 1) := by decide +kernel
theorem dX5_hangFrom_24 : decode cX5_hangFrom 24 = .ok (.aload_n 1, 1) := by decide +kernel
theorem dX5_hangFrom_25 : decode cX5_hangFrom 25 = .ok (.putfield 24, 3) := by decide +kernel
theorem dX5_hangFrom_28 : decode cX5_hangFrom 28 = .ok (.aload_n 0, 1) := by decide +kernel
theorem dX5_hangFrom_29 : decode cX5_hangFrom 29 = .ok (.iload_n 2, 1) := by decide +kernel
theorem dX5_hangFrom_30 : decode cX5_hangFrom 30 = .ok (.putfield 70, 3) := by decide +kernel
theorem dX5_hangFrom_33 : decode cX5_hangFrom 33 = .ok (.aload_n 0, 1) := by decide +kernel
theorem dX5_hangFrom_34 : decode cX5_hangFrom 34 = .ok (.getfield 20, 3) := by decide +kernel
theorem dX5_hangFrom_37 : decode cX5_hangFrom 37 = .ok (.getfield 56, 3) := by decide +kernel
theorem dX5_hangFrom_40 : decode cX5_hangFrom 40 = .ok (.ireturn, 1) := by decide +kernel
theorem dX5_lengthenFrom_0 : decode cX5_lengthenFrom 0 = .ok (.aload_n 2, 1) := by decide +kernel
theorem dX5_lengthenFrom_1 : decode cX5_lengthenFrom 1 = .ok (.getfield 73, 3) := by decide +kernel
theorem dX5_lengthenFrom_4 : decode cX5_lengthenFrom 4 = .ok (.istore 4, 2) := by decide +kernel
theorem dX5_lengthenFrom_6 : decode cX5_lengthenFrom 6 = .ok (.aload_n 0, 1) := by decide +kernel
theorem dX5_lengthenFrom_7 : decode cX5_lengthenFrom 7 = .ok (.getfield 20, 3) := by decide +kernel
theorem dX5_lengthenFrom_10 : decode cX5_lengthenFrom 10 = .ok (.getfield 56, 3) := by decide +kernel
theorem dX5_lengthenFrom_13 : decode cX5_lengthenFrom 13 = .ok (.istore 5, 2) := by decide +kernel
theorem dX5_lengthenFrom_15 : decode cX5_lengthenFrom 15 = .ok (.aload_n 0, 1) := by decide +kernel
theorem dX5_lengthenFrom_16 : decode cX5_lengthenFrom 16 = .ok (.getfield 20, 3) := by decide +kernel
theorem dX5_lengthenFrom_19 : decode cX5_lengthenFrom 19 = .ok (.iload 5, 2) := by decide +kernel
theorem dX5_lengthenFrom_21 : decode cX5_lengthenFrom 21 = .ok (.aload_n 1, 1) := by decide +kernel
theorem dX5_lengthenFrom_22 : decode cX5_lengthenFrom 22 = .ok (.getfield 67, 3) := by decide +kernel
theorem dX5_lengthenFrom_25 : decode cX5_lengthenFrom 25 = .ok (.iadd, 1) := by decide +kernel
theorem dX5_lengthenFrom_26 : decode cX5_lengthenFrom 26 = .ok (.putfield 76, 3) := by decide +kernel
theorem dX5_lengthenFrom_29 : decode cX5_lengthenFrom 29 = .ok (.aload_n 2, 1) := by decide +kernel
theorem dX5_lengthenFrom_30 : decode cX5_lengthenFrom 30 = .ok (.iload 4, 2) := by decide +kernel
theorem dX5_lengthenFrom_32 : decode cX5_lengthenFrom 32 = .ok (.iload_n 3, 1) := by decide +kernel
theorem dX5_lengthenFrom_33 : decode cX5_lengthenFrom 33 = .ok (.iadd, 1) := by decide +kernel
theorem dX5_lengthenFrom_34 : decode cX5_lengthenFrom 34 = .ok (.putfield 73, 3) := by decide +kernel
theorem dX5_lengthenFrom_37 : decode cX5_lengthenFrom 37 = .ok (.aload_n 2, 1) := by decide +kernel
theorem dX5_lengthenFrom_38 : decode cX5_lengthenFrom 38 = .ok (.aload_n 0, 1) := by decide +kernel
theorem dX5_lengthenFrom_39 : decode cX5_lengthenFrom 39 = .ok (.getfield 20, 3) := by decide +kernel
theorem dX5_lengthenFrom_42 : decode cX5_lengthenFrom 42 = .ok (.iload 4, 2) := by decide +kernel
theorem dX5_lengthenFrom_44 : decode cX5_lengthenFrom 44 = .ok (.invokevirtual 63, 3) := by decide +kernel
theorem dX5_lengthenFrom_47 : decode cX5_lengthenFrom 47 = .ok (.istore 6, 2) := by decide +kernel
theorem dX5_lengthenFrom_49 : decode cX5_lengthenFrom 49 = .ok (.iload 6, 2) := by decide +kernel
theorem dX5_lengthenFrom_51 : decode cX5_lengthenFrom 51 = .ok (.ifCond .eq 22, 3) := by decide +kernel
theorem dX5_lengthenFrom_54 : decode cX5_lengthenFrom 54 = .ok (.aload_n 1, 1) := by decide +kernel
theorem dX5_lengthenFrom_55 : decode cX5_lengthenFrom 55 = .ok (.dup, 1) := by decide +kernel
theorem dX5_lengthenFrom_56 : decode cX5_lengthenFrom 56 = .ok (.getfield 67, 3) := by decide +kernel
theorem dX5_lengthenFrom_59 : decode cX5_lengthenFrom 59 = .ok (.aload_n 0, 1) := by decide +kernel
theorem dX5_lengthenFrom_60 : decode cX5_lengthenFrom 60 = .ok (.getfield 20, 3) := by decide +kernel
theorem dX5_lengthenFrom_63 : decode cX5_lengthenFrom 63 = .ok (.getfield 56, 3) := by decide +kernel
theorem dX5_lengthenFrom_66 : decode cX5_lengthenFrom 66 = .ok (.iload 5, 2) := by decide +kernel
theorem dX5_lengthenFrom_68 : decode cX5_lengthenFrom 68 = .ok (.isub, 1) := by decide +kernel
theorem dX5_lengthenFrom_69 : decode cX5_lengthenFrom 69 = .ok (.isub, 1) := by decide +kernel
theorem dX5_lengthenFrom_70 : decode cX5_lengthenFrom 70 = .ok (.putfield 67, 3) := by decide +kernel
theorem dX5_lengthenFrom_73 : decode cX5_lengthenFrom 73 = .ok (.iload 6, 2) := by decide +kernel
theorem dX5_lengthenFrom_75 : decode cX5_lengthenFrom 75 = .ok (.ireturn, 1) := by decide +kernel
theorem dX5_allDrops_0 : decode cX5_allDrops 0 = .ok (.iconst 0, 1) := by decide +kernel
theorem dX5_allDrops_1 : decode cX5_allDrops 1 = .ok (.istore_n 1, 1) := by decide +kernel
theorem dX5_allDrops_2 : decode cX5_allDrops 2 = .ok (.aload_n 0, 1) := by decide +kernel
theorem dX5_allDrops_3 : decode cX5_allDrops 3 = .ok (.getfield 11, 3) := by decide +kernel
theorem dX5_allDrops_6 : decode cX5_allDrops 6 = .ok (.astore_n 2, 1) := by decide +kernel
theorem dX5_allDrops_7 : decode cX5_allDrops 7 = .ok (.aload_n 2, 1) := by decide +kernel
theorem dX5_allDrops_8 : decode cX5_allDrops 8 = .ok (.arraylength, 1) := by decide +kernel
theorem dX5_allDrops_9 : decode cX5_allDrops 9 = .ok (.istore_n 3, 1) := by decide +kernel
theorem dX5_allDrops_10 : decode cX5_allDrops 10 = .ok (.iconst 0, 1) := by decide +kernel
theorem dX5_allDrops_11 : decode cX5_allDrops 11 = .ok (.istore 4, 2) := by decide +kernel
theorem dX5_allDrops_13 : decode cX5_allDrops 13 = .ok (.iload 4, 2) := by decide +kernel
theorem dX5_allDrops_15 : decode cX5_allDrops 15 = .ok (.iload_n 3, 1) := by decide +kernel
theorem dX5_allDrops_16 : decode cX5_allDrops 16 = .ok (.if_icmp .ge 32, 3) := by decide +kernel
theorem dX5_allDrops_19 : decode cX5_allDrops 19 = .ok (.aload_n 2, 1) := by decide +kernel
theorem dX5_allDrops_20 : decode cX5_allDrops 20 = .ok (.iload 4, 2) := by decide +kernel
theorem dX5_allDrops_22 : decode cX5_allDrops 22 = .ok (.aaload, 1) := by decide +kernel
theorem dX5_allDrops_23 : decode cX5_allDrops 23 = .ok (.astore 5, 2) := by decide +kernel
theorem dX5_allDrops_25 : decode cX5_allDrops 25 = .ok (.iload_n 1, 1) := by decide +kernel
theorem dX5_allDrops_26 : decode cX5_allDrops 26 = .ok (.aload 5, 2) := by decide +kernel
theorem dX5_allDrops_28 : decode cX5_allDrops 28 = .ok (.ifnonnull 7, 3) := by decide +kernel
theorem dX5_allDrops_31 : decode cX5_allDrops 31 = .ok (.iconst 0, 1) := by decide +kernel
theorem dX5_allDrops_32 : decode cX5_allDrops 32 = .ok (.goto 8, 3) := by decide +kernel
theorem dX5_allDrops_35 : decode cX5_allDrops 35 = .ok (.aload 5, 2) := by decide +kernel
theorem dX5_allDrops_37 : decode cX5_allDrops 37 = .ok (.getfield 73, 3) := by decide +kernel
theorem dX5_allDrops_40 : decode cX5_allDrops 40 = .ok (.iadd, 1) := by decide +kernel
theorem dX5_allDrops_41 : decode cX5_allDrops 41 = .ok (.istore_n 1, 1) := by decide +kernel
theorem dX5_allDrops_42 : decode cX5_allDrops 42 = .ok (.iinc 4 1, 3) := by decide +kernel
theorem dX5_allDrops_45 : decode cX5_allDrops 45 = .ok (.goto (-32), 3) := by decide +kernel
theorem dX5_allDrops_48 : decode cX5_allDrops 48 = .ok (.iload_n 1, 1) := by decide +kernel
theorem dX5_allDrops_49 : decode cX5_allDrops 49 = .ok (.ireturn, 1) := by decide +kernel
theorem dX5_waste_0 : decode cX5_waste 0 = .ok (.aload_n 0, 1) := by decide +kernel
theorem dX5_waste_1 : decode cX5_waste 1 = .ok (.getfield 24, 3) := by decide +kernel
theorem dX5_waste_4 : decode cX5_waste 4 = .ok (.ifnonnull 5, 3) := by decide +kernel
theorem dX5_waste_7 : decode cX5_waste 7 = .ok (.iconst (-1), 1) := by decide +kernel
theorem dX5_waste_8 : decode cX5_waste 8 = .ok (.ireturn, 1) := by decide +kernel
theorem dX5_waste_9 : decode cX5_waste 9 = .ok (.aload_n 0, 1) := by decide +kernel
theorem dX5_waste_10 : decode cX5_waste 10 = .ok (.getfield 20, 3) := by decide +kernel
theorem dX5_waste_13 : decode cX5_waste 13 = .ok (.getfield 56, 3) := by decide +kernel
theorem dX5_waste_16 : decode cX5_waste 16 = .ok (.aload_n 0, 1) := by decide +kernel
theorem dX5_waste_17 : decode cX5_waste 17 = .ok (.getfield 24, 3) := by decide +kernel
theorem dX5_waste_20 : decode cX5_waste 20 = .ok (.getfield 79, 3) := by decide +kernel
theorem dX5_waste_23 : decode cX5_waste 23 = .ok (.imul, 1) := by decide +kernel
theorem dX5_waste_24 : decode cX5_waste 24 = .ok (.istore_n 1, 1) := by decide +kernel
theorem dX5_waste_25 : decode cX5_waste 25 = .ok (.aload_n 0, 1) := by decide +kernel
theorem dX5_waste_26 : decode cX5_waste 26 = .ok (.getfield 11, 3) := by decide +kernel
theorem dX5_waste_29 : decode cX5_waste 29 = .ok (.astore_n 2, 1) := by decide +kernel
theorem dX5_waste_30 : decode cX5_waste 30 = .ok (.aload_n 2, 1) := by decide +kernel
theorem dX5_waste_31 : decode cX5_waste 31 = .ok (.arraylength, 1) := by decide +kernel
theorem dX5_waste_32 : decode cX5_waste 32 = .ok (.istore_n 3, 1) := by decide +kernel
theorem dX5_waste_33 : decode cX5_waste 33 = .ok (.iconst 0, 1) := by decide +kernel
theorem dX5_waste_34 : decode cX5_waste 34 = .ok (.istore 4, 2) := by decide +kernel
theorem dX5_waste_36 : decode cX5_waste 36 = .ok (.iload 4, 2) := by decide +kernel
theorem dX5_waste_38 : decode cX5_waste 38 = .ok (.iload_n 3, 1) := by decide +kernel
theorem dX5_waste_39 : decode cX5_waste 39 = .ok (.if_icmp .ge 38, 3) := by decide +kernel
theorem dX5_waste_42 : decode cX5_waste 42 = .ok (.aload_n 2, 1) := by decide +kernel
theorem dX5_waste_43 : decode cX5_waste 43 = .ok (.iload 4, 2) := by decide +kernel
theorem dX5_waste_45 : decode cX5_waste 45 = .ok (.aaload, 1) := by decide +kernel
theorem dX5_waste_46 : decode cX5_waste 46 = .ok (.astore 5, 2) := by decide +kernel
theorem dX5_waste_48 : decode cX5_waste 48 = .ok (.iload_n 1, 1) := by decide +kernel
theorem dX5_waste_49 : decode cX5_waste 49 = .ok (.aload 5, 2) := by decide +kernel
theorem dX5_waste_51 : decode cX5_waste 51 = .ok (.ifnonnull 7, 3) := by decide +kernel
theorem dX5_waste_54 : decode cX5_waste 54 = .ok (.iconst 0, 1) := by decide +kernel
theorem dX5_waste_55 : decode cX5_waste 55 = .ok (.goto 14, 3) := by decide +kernel
theorem dX5_waste_58 : decode cX5_waste 58 = .ok (.aload 5, 2) := by decide +kernel
theorem dX5_waste_60 : decode cX5_waste 60 = .ok (.getfield 73, 3) := by decide +kernel
theorem dX5_waste_63 : decode cX5_waste 63 = .ok (.aload 5, 2) := by decide +kernel
theorem dX5_waste_65 : decode cX5_waste 65 = .ok (.getfield 82, 3) := by decide +kernel
theorem dX5_waste_68 : decode cX5_waste 68 = .ok (.imul, 1) := by decide +kernel
theorem dX5_waste_69 : decode cX5_waste 69 = .ok (.isub, 1) := by decide +kernel
theorem dX5_waste_70 : decode cX5_waste 70 = .ok (.istore_n 1, 1) := by decide +kernel
theorem dX5_waste_71 : decode cX5_waste 71 = .ok (.iinc 4 1, 3) := by decide +kernel
theorem dX5_waste_74 : decode cX5_waste 74 = .ok (.goto (-38), 3) := by decide +kernel
theorem dX5_waste_77 : decode cX5_waste 77 = .ok (.iload_n 1, 1) := by decide +kernel
theorem dX5_waste_78 : decode cX5_waste 78 = .ok (.ireturn, 1) := by decide +kernel
theorem dX6_init_0 : decode cX6_init 0 = .ok (.aload_n 0, 1) := by decide +kernel
theorem dX6_init_1 : decode cX6_init 1 = .ok (.invokespecial 3, 3) := by decide +kernel
theorem dX6_init_4 : decode cX6_init 4 = .ok (.aload_n 0, 1) := by decide +kernel
theorem dX6_init_5 : decode cX6_init 5 = .ok (.bipush 24, 2) := by decide +kernel
theorem dX6_init_7 : decode cX6_init 7 = .ok (.newarray .int, 2) := by decide +kernel
theorem dX6_init_9 : decode cX6_init 9 = .ok (.putfield 9, 3) := by decide +kernel
theorem dX6_init_12 : decode cX6_init 12 = .ok (.aload_n 0, 1) := by decide +kernel
theorem dX6_init_13 : decode cX6_init 13 = .ok (.iload_n 1, 1) := by decide +kernel
theorem dX6_init_14 : decode cX6_init 14 = .ok (.putfield 15, 3) := by decide +kernel
theorem dX6_init_17 : decode cX6_init 17 = .ok (.aload_n 0, 1) := by decide +kernel
theorem dX6_init_18 : decode cX6_init 18 = .ok (.iload_n 2, 1) := by decide +kernel
theorem dX6_init_19 : decode cX6_init 19 = .ok (.putfield 19, 3) := by decide +kernel
theorem dX6_init_22 : decode cX6_init 22 = .ok (.return_, 1) := by decide +kernel
theorem dX6_takeDrops_0 : decode cX6_takeDrops 0 = .ok (.iload_n 2, 1) := by decide +kernel
theorem dX6_takeDrops_1 : decode cX6_takeDrops 1 = .ok (.iconst 0, 1) := by decide +kernel
theorem dX6_takeDrops_2 : decode cX6_takeDrops 2 = .ok (.invokestatic 22, 3) := by decide +kernel
theorem dX6_takeDrops_5 : decode cX6_takeDrops 5 = .ok (.istore_n 3, 1) := by decide +kernel
theorem dX6_takeDrops_6 : decode cX6_takeDrops 6 = .ok (.iload_n 3, 1) := by decide +kernel
theorem dX6_takeDrops_7 : decode cX6_takeDrops 7 = .ok (.aload_n 0, 1) := by decide +kernel
theorem dX6_takeDrops_8 : decode cX6_takeDrops 8 = .ok (.getfield 15, 3) := by decide +kernel
theorem dX6_takeDrops_11 : decode cX6_takeDrops 11 = .ok (.if_icmp .ge 44, 3) := by decide +kernel
theorem dX6_takeDrops_14 : decode cX6_takeDrops 14 = .ok (.iload_n 3, 1) := by decide +kernel
theorem dX6_takeDrops_15 : decode cX6_takeDrops 15 = .ok (.aload_n 0, 1) := by decide +kernel
theorem dX6_takeDrops_16 : decode cX6_takeDrops 16 = .ok (.getfield 9, 3) := by decide +kernel
theorem dX6_takeDrops_19 : decode cX6_takeDrops 19 = .ok (.arraylength, 1) := by decide +kernel
theorem dX6_takeDrops_20 : decode cX6_takeDrops 20 = .ok (.if_icmp .ge 35, 3) := by decide +kernel
theorem dX6_takeDrops_23 : decode cX6_takeDrops 23 = .ok (.aload_n 0, 1) := by decide +kernel
theorem dX6_takeDrops_24 : decode cX6_takeDrops 24 = .ok (.getfield 9, 3) := by decide +kernel
theorem dX6_takeDrops_27 : decode cX6_takeDrops 27 = .ok (.iload_n 3, 1) := by decide +kernel
theorem dX6_takeDrops_28 : decode cX6_takeDrops 28 = .ok (.aload_n 1, 1) := by decide +kernel
theorem dX6_takeDrops_29 : decode cX6_takeDrops 29 = .ok (.aload_n 0, 1) := by decide +kernel
theorem dX6_takeDrops_30 : decode cX6_takeDrops 30 = .ok (.getfield 19, 3) := by decide +kernel
theorem dX6_takeDrops_33 : decode cX6_takeDrops 33 = .ok (.invokevirtual 28, 3) := by decide +kernel
theorem dX6_takeDrops_36 : decode cX6_takeDrops 36 = .ok (.iastore, 1) := by decide +kernel
theorem dX6_takeDrops_37 : decode cX6_takeDrops 37 = .ok (.aload_n 0, 1) := by decide +kernel
theorem dX6_takeDrops_38 : decode cX6_takeDrops 38 = .ok (.getfield 9, 3) := by decide +kernel
theorem dX6_takeDrops_41 : decode cX6_takeDrops 41 = .ok (.iload_n 3, 1) := by decide +kernel
theorem dX6_takeDrops_42 : decode cX6_takeDrops 42 = .ok (.iaload, 1) := by decide +kernel
theorem dX6_takeDrops_43 : decode cX6_takeDrops 43 = .ok (.iconst (-1), 1) := by decide +kernel
theorem dX6_takeDrops_44 : decode cX6_takeDrops 44 = .ok (.if_icmp .ne 5, 3) := by decide +kernel
theorem dX6_takeDrops_47 : decode cX6_takeDrops 47 = .ok (.iconst 0, 1) := by decide +kernel
theorem dX6_takeDrops_48 : decode cX6_takeDrops 48 = .ok (.ireturn, 1) := by decide +kernel
theorem dX6_takeDrops_49 : decode cX6_takeDrops 49 = .ok (.iinc 3 1, 3) := by decide +kernel
theorem dX6_takeDrops_52 : decode cX6_takeDrops 52 = .ok (.goto (-46), 3) := by decide +kernel
theorem dX6_takeDrops_55 : decode cX6_takeDrops 55 = .ok (.iconst 1, 1) := by decide +kernel
theorem dX6_takeDrops_56 : decode cX6_takeDrops 56 = .ok (.ireturn, 1) := by decide +kernel
theorem dX7_init_0 : decode cX7_init 0 = .ok (.aload_n 0, 1) := by decide +kernel
theorem dX7_init_1 : decode cX7_init 1 = .ok (.invokespecial 3, 3) := by decide +kernel
theorem dX7_init_4 : decode cX7_init 4 = .ok (.aload_n 0, 1) := by decide +kernel
theorem dX7_init_5 : decode cX7_init 5 = .ok (.bipush 6, 2) := by decide +kernel
theorem dX7_init_7 : decode cX7_init 7 = .ok (.anewarray 9, 3) := by decide +kernel
theorem dX7_init_10 : decode cX7_init 10 = .ok (.putfield 11, 3) := by decide +kernel
theorem dX7_init_13 : decode cX7_init 13 = .ok (.aload_n 0, 1) := by decide +kernel
theorem dX7_init_14 : decode cX7_init 14 = .ok (.bipush 8, 2) := by decide +kernel
theorem dX7_init_16 : decode cX7_init 16 = .ok (.anewarray 15, 3) := by decide +kernel
theorem dX7_init_19 : decode cX7_init 19 = .ok (.putfield 17, 3) := by decide +kernel
theorem dX7_init_22 : decode cX7_init 22 = .ok (.aload_n 0, 1) := by decide +kernel
theorem dX7_init_23 : decode cX7_init 23 = .ok (.bipush 10, 2) := by decide +kernel
theorem dX7_init_25 : decode cX7_init 25 = .ok (.anewarray 21, 3) := by decide +kernel
theorem dX7_init_28 : decode cX7_init 28 = .ok (.putfield 23, 3) := by decide +kernel
theorem dX7_init_31 : decode cX7_init 31 = .ok (.aload_n 0, 1) := by decide +kernel
theorem dX7_init_32 : decode cX7_init 32 = .ok (.iconst 4, 1) := by decide +kernel
theorem dX7_init_33 : decode cX7_init 33 = .ok (.anewarray 27, 3) := by decide +kernel
theorem dX7_init_36 : decode cX7_init 36 = .ok (.putfield 29, 3) := by decide +kernel
theorem dX7_init_39 : decode cX7_init 39 = .ok (.iconst 0, 1) := by decide +kernel
theorem dX7_init_40 : decode cX7_init 40 = .ok (.istore_n 1, 1) := by decide +kernel
theorem dX7_init_41 : decode cX7_init 41 = .ok (.iload_n 1, 1) := by decide +kernel
theorem dX7_init_42 : decode cX7_init 42 = .ok (.aload_n 0, 1) := by decide +kernel
theorem dX7_init_43 : decode cX7_init 43 = .ok (.getfield 29, 3) := by decide +kernel
theorem dX7_init_46 : decode cX7_init 46 = .ok (.arraylength, 1) := by decide +kernel
theorem dX7_init_47 : decode cX7_init 47 = .ok (.if_icmp .ge 22, 3) := by decide +kernel
theorem dX7_init_50 : decode cX7_init 50 = .ok (.aload_n 0, 1) := by decide +kernel
theorem dX7_init_51 : decode cX7_init 51 = .ok (.getfield 29, 3) := by decide +kernel
theorem dX7_init_54 : decode cX7_init 54 = .ok (.iload_n 1, 1) := by decide +kernel
theorem dX7_init_55 : decode cX7_init 55 = .ok (.new 27, 3) := by decide +kernel
theorem dX7_init_58 : decode cX7_init 58 = .ok (.dup, 1) := by decide +kernel
theorem dX7_init_59 : decode cX7_init 59 = .ok (.invokespecial 33, 3) := by decide +kernel
theorem dX7_init_62 : decode cX7_init 62 = .ok (.aastore, 1) := by decide +kernel
theorem dX7_init_63 : decode cX7_init 63 = .ok (.iinc 1 1, 3) := by decide +kernel
theorem dX7_init_66 : decode cX7_init 66 = .ok (.goto (-25), 3) := by decide +kernel
theorem dX7_init_69 : decode cX7_init 69 = .ok (.return_, 1) := by decide +kernel
theorem dX7_pattern_0 : decode cX7_pattern 0 = .ok (.iload_n 1, 1) := by decide +kernel
theorem dX7_pattern_1 : decode cX7_pattern 1 = .ok (.iconst 1, 1) := by decide +kernel
theorem dX7_pattern_2 : decode cX7_pattern 2 = .ok (.iconst 5, 1) := by decide +kernel
theorem dX7_pattern_3 : decode cX7_pattern 3 = .ok (.invokestatic 34, 3) := by decide +kernel
theorem dX7_pattern_6 : decode cX7_pattern 6 = .ok (.iload_n 2, 1) := by decide +kernel
theorem dX7_pattern_7 : decode cX7_pattern 7 = .ok (.iconst 1, 1) := by decide +kernel
theorem dX7_pattern_8 : decode cX7_pattern 8 = .ok (.iconst 5, 1) := by decide +kernel
theorem dX7_pattern_9 : decode cX7_pattern 9 = .ok (.invokestatic 34, 3) := by decide +kernel
theorem dX7_pattern_12 : decode cX7_pattern 12 = .ok (.iload_n 3, 1) := by decide +kernel
theorem dX7_pattern_13 : decode cX7_pattern 13 = .ok (.iconst 0, 1) := by decide +kernel
theorem dX7_pattern_14 : decode cX7_pattern 14 = .ok (.iconst 5, 1) := by decide +kernel
theorem dX7_pattern_15 : decode cX7_pattern 15 = .ok (.invokestatic 34, 3) := by decide +kernel
theorem dX7_pattern_18 : decode cX7_pattern 18 = .ok (.iload_n 3, 1) := by decide +kernel
theorem dX7_pattern_19 : decode cX7_pattern 19 = .ok (.iconst 5, 1) := by decide +kernel
theorem dX7_pattern_20 : decode cX7_pattern 20 = .ok (.if_icmp .ne 18, 3) := by decide +kernel
theorem dX7_pattern_23 : decode cX7_pattern 23 = .ok (.iload_n 1, 1) := by decide +kernel
theorem dX7_pattern_24 : decode cX7_pattern 24 = .ok (.iload_n 2, 1) := by decide +kernel
theorem dX7_pattern_25 : decode cX7_pattern 25 = .ok (.if_icmp .eq 13, 3) := by decide +kernel
theorem dX7_pattern_28 : decode cX7_pattern 28 = .ok (.new 38, 3) := by decide +kernel
theorem dX7_pattern_31 : decode cX7_pattern 31 = .ok (.dup, 1) := by decide +kernel
theorem dX7_pattern_32 : decode cX7_pattern 32 = .ok (.ldc 40, 2) := by decide +kernel
theorem dX7_pattern_34 : decode cX7_pattern 34 = .ok (.invokespecial 42, 3) := by decide +kernel
theorem dX7_pattern_37 : decode cX7_pattern 37 = .ok (.athrow, 1) := by decide +kernel
theorem dX7_pattern_38 : decode cX7_pattern 38 = .ok (.aload_n 0, 1) := by decide +kernel
theorem dX7_pattern_39 : decode cX7_pattern 39 = .ok (.getfield 45, 3) := by decide +kernel
theorem dX7_pattern_42 : decode cX7_pattern 42 = .ok (.istore 4, 2) := by decide +kernel
theorem dX7_pattern_44 : decode cX7_pattern 44 = .ok (.iload 4, 2) := by decide +kernel
theorem dX7_pattern_46 : decode cX7_pattern 46 = .ok (.ifCond .lt 13, 3) := by decide +kernel
theorem dX7_pattern_49 : decode cX7_pattern 49 = .ok (.iload 4, 2) := by decide +kernel
theorem dX7_pattern_51 : decode cX7_pattern 51 = .ok (.aload_n 0, 1) := by decide +kernel
theorem dX7_pattern_52 : decode cX7_pattern 52 = .ok (.getfield 11, 3) := by decide +kernel
theorem dX7_pattern_55 : decode cX7_pattern 55 = .ok (.arraylength, 1) := by decide +kernel
theorem dX7_pattern_56 : decode cX7_pattern 56 = .ok (.if_icmp .lt 13, 3) := by decide +kernel
theorem dX7_pattern_59 : decode cX7_pattern 59 = .ok (.new 49, 3) := by decide +kernel
theorem dX7_pattern_62 : decode cX7_pattern 62 = .ok (.dup, 1) := by decide +kernel
theorem dX7_pattern_63 : decode cX7_pattern 63 = .ok (.ldc 51, 2) := by decide +kernel
theorem dX7_pattern_65 : decode cX7_pattern 65 = .ok (.invokespecial 53, 3) := by decide +kernel
theorem dX7_pattern_68 : decode cX7_pattern 68 = .ok (.athrow, 1) := by decide +kernel
theorem dX7_pattern_69 : decode cX7_pattern 69 = .ok (.aload_n 0, 1) := by decide +kernel
theorem dX7_pattern_70 : decode cX7_pattern 70 = .ok (.getfield 11, 3) := by decide +kernel
theorem dX7_pattern_73 : decode cX7_pattern 73 = .ok (.iload 4, 2) := by decide +kernel
theorem dX7_pattern_75 : decode cX7_pattern 75 = .ok (.new 9, 3) := by decide +kernel
theorem dX7_pattern_78 : decode cX7_pattern 78 = .ok (.dup, 1) := by decide +kernel
theorem dX7_pattern_79 : decode cX7_pattern 79 = .ok (.iload_n 1, 1) := by decide +kernel
theorem dX7_pattern_80 : decode cX7_pattern 80 = .ok (.iload_n 2, 1) := by decide +kernel
theorem dX7_pattern_81 : decode cX7_pattern 81 = .ok (.iload_n 3, 1) := by decide +kernel
theorem dX7_pattern_82 : decode cX7_pattern 82 = .ok (.invokespecial 54, 3) := by decide +kernel
theorem dX7_pattern_85 : decode cX7_pattern 85 = .ok (.aastore, 1) := by decide +kernel
theorem dX7_pattern_86 : decode cX7_pattern 86 = .ok (.aload_n 0, 1) := by decide +kernel
theorem dX7_pattern_87 : decode cX7_pattern 87 = .ok (.iload 4, 2) := by decide +kernel
theorem dX7_pattern_89 : decode cX7_pattern 89 = .ok (.iconst 1, 1) := by decide +kernel
theorem dX7_pattern_90 : decode cX7_pattern 90 = .ok (.iadd, 1) := by decide +kernel
theorem dX7_pattern_91 : decode cX7_pattern 91 = .ok (.putfield 45, 3) := by decide +kernel
theorem dX7_pattern_94 : decode cX7_pattern 94 = .ok (.iload 4, 2) := by decide +kernel
theorem dX7_pattern_96 : decode cX7_pattern 96 = .ok (.ireturn, 1) := by decide +kernel
theorem dX7_paint_0 : decode cX7_paint 0 = .ok (.aload_n 0, 1) := by decide +kernel
theorem dX7_paint_1 : decode cX7_paint 1 = .ok (.iload_n 1, 1) := by decide +kernel
theorem dX7_paint_2 : decode cX7_paint 2 = .ok (.invokevirtual 56, 3) := by decide +kernel
theorem dX7_paint_5 : decode cX7_paint 5 = .ok (.astore 5, 2) := by decide +kernel
theorem dX7_paint_7 : decode cX7_paint 7 = .ok (.aload 5, 2) := by decide +kernel
theorem dX7_paint_9 : decode cX7_paint 9 = .ok (.getfield 60, 3) := by decide +kernel
theorem dX7_paint_12 : decode cX7_paint 12 = .ok (.iload_n 2, 1) := by decide +kernel
theorem dX7_paint_13 : decode cX7_paint 13 = .ok (.iload_n 3, 1) := by decide +kernel
theorem dX7_paint_14 : decode cX7_paint 14 = .ok (.invokevirtual 64, 3) := by decide +kernel
theorem dX7_paint_17 : decode cX7_paint 17 = .ok (.ifCond .ne 13, 3) := by decide +kernel
theorem dX7_paint_20 : decode cX7_paint 20 = .ok (.new 70, 3) := by decide +kernel
theorem dX7_paint_23 : decode cX7_paint 23 = .ok (.dup, 1) := by decide +kernel
theorem dX7_paint_24 : decode cX7_paint 24 = .ok (.ldc 72, 2) := by decide +kernel
theorem dX7_paint_26 : decode cX7_paint 26 = .ok (.invokespecial 74, 3) := by decide +kernel
theorem dX7_paint_29 : decode cX7_paint 29 = .ok (.athrow, 1) := by decide +kernel
theorem dX7_paint_30 : decode cX7_paint 30 = .ok (.iload 4, 2) := by decide +kernel
theorem dX7_paint_32 : decode cX7_paint 32 = .ok (.iconst 0, 1) := by decide +kernel
theorem dX7_paint_33 : decode cX7_paint 33 = .ok (.bipush 7, 2) := by decide +kernel
theorem dX7_paint_35 : decode cX7_paint 35 = .ok (.invokestatic 34, 3) := by decide +kernel
theorem dX7_paint_38 : decode cX7_paint 38 = .ok (.aload 5, 2) := by decide +kernel
theorem dX7_paint_40 : decode cX7_paint 40 = .ok (.getfield 60, 3) := by decide +kernel
theorem dX7_paint_43 : decode cX7_paint 43 = .ok (.iload_n 2, 1) := by decide +kernel
theorem dX7_paint_44 : decode cX7_paint 44 = .ok (.iload_n 3, 1) := by decide +kernel
theorem dX7_paint_45 : decode cX7_paint 45 = .ok (.invokevirtual 75, 3) := by decide +kernel
theorem dX7_paint_48 : decode cX7_paint 48 = .ok (.istore 6, 2) := by decide +kernel
theorem dX7_paint_50 : decode cX7_paint 50 = .ok (.aload 5, 2) := by decide +kernel
theorem dX7_paint_52 : decode cX7_paint 52 = .ok (.getfield 60, 3) := by decide +kernel
theorem dX7_paint_55 : decode cX7_paint 55 = .ok (.iload_n 2, 1) := by decide +kernel
theorem dX7_paint_56 : decode cX7_paint 56 = .ok (.iload_n 3, 1) := by decide +kernel
theorem dX7_paint_57 : decode cX7_paint 57 = .ok (.iload 4, 2) := by decide +kernel
theorem dX7_paint_59 : decode cX7_paint 59 = .ok (.invokevirtual 79, 3) := by decide +kernel
theorem dX7_paint_62 : decode cX7_paint 62 = .ok (.iload 6, 2) := by decide +kernel
theorem dX7_paint_64 : decode cX7_paint 64 = .ok (.ireturn, 1) := by decide +kernel
theorem dX7_colour_0 : decode cX7_colour 0 = .ok (.aload_n 0, 1) := by decide +kernel
theorem dX7_colour_1 : decode cX7_colour 1 = .ok (.iload_n 1, 1) := by decide +kernel
theorem dX7_colour_2 : decode cX7_colour 2 = .ok (.invokevirtual 56, 3) := by decide +kernel
theorem dX7_colour_5 : decode cX7_colour 5 = .ok (.iload_n 2, 1) := by decide +kernel
theorem dX7_colour_6 : decode cX7_colour 6 = .ok (.iload_n 3, 1) := by decide +kernel
theorem dX7_colour_7 : decode cX7_colour 7 = .ok (.invokevirtual 82, 3) := by decide +kernel
theorem dX7_colour_10 : decode cX7_colour 10 = .ok (.ireturn, 1) := by decide +kernel
theorem dX7_repeat_0 : decode cX7_repeat 0 = .ok (.aload_n 0, 1) := by decide +kernel
theorem dX7_repeat_1 : decode cX7_repeat 1 = .ok (.iload_n 1, 1) := by decide +kernel
theorem dX7_repeat_2 : decode cX7_repeat 2 = .ok (.invokevirtual 56, 3) := by decide +kernel
theorem dX7_repeat_5 : decode cX7_repeat 5 = .ok (.astore_n 3, 1) := by decide +kernel
theorem dX7_repeat_6 : decode cX7_repeat 6 = .ok (.iload_n 2, 1) := by decide +kernel
theorem dX7_repeat_7 : decode cX7_repeat 7 = .ok (.ifCond .eq 10, 3) := by decide +kernel
theorem dX7_repeat_10 : decode cX7_repeat 10 = .ok (.aload_n 3, 1) := by decide +kernel
theorem dX7_repeat_11 : decode cX7_repeat 11 = .ok (.getfield 83, 3) := by decide +kernel
theorem dX7_repeat_14 : decode cX7_repeat 14 = .ok (.goto 7, 3) := by decide +kernel
theorem dX7_repeat_17 : decode cX7_repeat 17 = .ok (.aload_n 3, 1) := by decide +kernel
theorem dX7_repeat_18 : decode cX7_repeat 18 = .ok (.getfield 86, 3) := by decide +kernel
theorem dX7_repeat_21 : decode cX7_repeat 21 = .ok (.ireturn, 1) := by decide +kernel
theorem dX7_repeatAnew_0 : decode cX7_repeatAnew 0 = .ok (.aload_n 0, 1) := by decide +kernel
theorem dX7_repeatAnew_1 : decode cX7_repeatAnew 1 = .ok (.iload_n 1, 1) := by decide +kernel
theorem dX7_repeatAnew_2 : decode cX7_repeatAnew 2 = .ok (.invokevirtual 56, 3) := by decide +kernel
theorem dX7_repeatAnew_5 : decode cX7_repeatAnew 5 = .ok (.iload_n 2, 1) := by decide +kernel
theorem dX7_repeatAnew_6 : decode cX7_repeatAnew 6 = .ok (.invokevirtual 89, 3) := by decide +kernel
theorem dX7_repeatAnew_9 : decode cX7_repeatAnew 9 = .ok (.ireturn, 1) := by decide +kernel
theorem dX7_roller_0 : decode cX7_roller 0 = .ok (.aload_n 0, 1) := by decide +kernel
theorem dX7_roller_1 : decode cX7_roller 1 = .ok (.iload_n 1, 1) := by decide +kernel
theorem dX7_roller_2 : decode cX7_roller 2 = .ok (.invokevirtual 56, 3) := by decide +kernel
theorem dX7_roller_5 : decode cX7_roller 5 = .ok (.astore_n 3, 1) := by decide +kernel
theorem dX7_roller_6 : decode cX7_roller 6 = .ok (.iload_n 2, 1) := by decide +kernel
theorem dX7_roller_7 : decode cX7_roller 7 = .ok (.iconst 1, 1) := by decide +kernel
theorem dX7_roller_8 : decode cX7_roller 8 = .ok (.bipush 60, 2) := by decide +kernel
theorem dX7_roller_10 : decode cX7_roller 10 = .ok (.invokestatic 34, 3) := by decide +kernel
theorem dX7_roller_13 : decode cX7_roller 13 = .ok (.iload_n 2, 1) := by decide +kernel
theorem dX7_roller_14 : decode cX7_roller 14 = .ok (.aload_n 3, 1) := by decide +kernel
theorem dX7_roller_15 : decode cX7_roller 15 = .ok (.getfield 83, 3) := by decide +kernel
theorem dX7_roller_18 : decode cX7_roller 18 = .ok (.invokestatic 93, 3) := by decide +kernel
theorem dX7_roller_21 : decode cX7_roller 21 = .ok (.ifCond .eq 13, 3) := by decide +kernel
theorem dX7_roller_24 : decode cX7_roller 24 = .ok (.new 49, 3) := by decide +kernel
theorem dX7_roller_27 : decode cX7_roller 27 = .ok (.dup, 1) := by decide +kernel
theorem dX7_roller_28 : decode cX7_roller 28 = .ok (.ldc 96, 2) := by decide +kernel
theorem dX7_roller_30 : decode cX7_roller 30 = .ok (.invokespecial 53, 3) := by decide +kernel
theorem dX7_roller_33 : decode cX7_roller 33 = .ok (.athrow, 1) := by decide +kernel
theorem dX7_roller_34 : decode cX7_roller 34 = .ok (.aload_n 0, 1) := by decide +kernel
theorem dX7_roller_35 : decode cX7_roller 35 = .ok (.getfield 98, 3) := by decide +kernel
theorem dX7_roller_38 : decode cX7_roller 38 = .ok (.istore 4, 2) := by decide +kernel
theorem dX7_roller_40 : decode cX7_roller 40 = .ok (.iload 4, 2) := by decide +kernel
theorem dX7_roller_42 : decode cX7_roller 42 = .ok (.ifCond .lt 13, 3) := by decide +kernel
theorem dX7_roller_45 : decode cX7_roller 45 = .ok (.iload 4, 2) := by decide +kernel
theorem dX7_roller_47 : decode cX7_roller 47 = .ok (.aload_n 0, 1) := by decide +kernel
theorem dX7_roller_48 : decode cX7_roller 48 = .ok (.getfield 17, 3) := by decide +kernel
theorem dX7_roller_51 : decode cX7_roller 51 = .ok (.arraylength, 1) := by decide +kernel
theorem dX7_roller_52 : decode cX7_roller 52 = .ok (.if_icmp .lt 13, 3) := by decide +kernel
theorem dX7_roller_55 : decode cX7_roller 55 = .ok (.new 49, 3) := by decide +kernel
theorem dX7_roller_58 : decode cX7_roller 58 = .ok (.dup, 1) := by decide +kernel
theorem dX7_roller_59 : decode cX7_roller 59 = .ok (.ldc 101, 2) := by decide +kernel
theorem dX7_roller_61 : decode cX7_roller 61 = .ok (.invokespecial 53, 3) := by decide +kernel
theorem dX7_roller_64 : decode cX7_roller 64 = .ok (.athrow, 1) := by decide +kernel
theorem dX7_roller_65 : decode cX7_roller 65 = .ok (.aload_n 0, 1) := by decide +kernel
theorem dX7_roller_66 : decode cX7_roller 66 = .ok (.getfield 17, 3) := by decide +kernel
theorem dX7_roller_69 : decode cX7_roller 69 = .ok (.iload 4, 2) := by decide +kernel
theorem dX7_roller_71 : decode cX7_roller 71 = .ok (.new 15, 3) := by decide +kernel
theorem dX7_roller_74 : decode cX7_roller 74 = .ok (.dup, 1) := by decide +kernel
theorem dX7_roller_75 : decode cX7_roller 75 = .ok (.iload_n 2, 1) := by decide +kernel
theorem dX7_roller_76 : decode cX7_roller 76 = .ok (.aload_n 3, 1) := by decide +kernel
theorem dX7_roller_77 : decode cX7_roller 77 = .ok (.invokevirtual 103, 3) := by decide +kernel
theorem dX7_roller_80 : decode cX7_roller 80 = .ok (.invokespecial 107, 3) := by decide +kernel
theorem dX7_roller_83 : decode cX7_roller 83 = .ok (.aastore, 1) := by decide +kernel
theorem dX7_roller_84 : decode cX7_roller 84 = .ok (.aload_n 0, 1) := by decide +kernel
theorem dX7_roller_85 : decode cX7_roller 85 = .ok (.iload 4, 2) := by decide +kernel
theorem dX7_roller_87 : decode cX7_roller 87 = .ok (.iconst 1, 1) := by decide +kernel
theorem dX7_roller_88 : decode cX7_roller 88 = .ok (.iadd, 1) := by decide +kernel
theorem dX7_roller_89 : decode cX7_roller 89 = .ok (.putfield 98, 3) := by decide +kernel
theorem dX7_roller_92 : decode cX7_roller 92 = .ok (.iload 4, 2) := by decide +kernel
theorem dX7_roller_94 : decode cX7_roller 94 = .ok (.ireturn, 1) := by decide +kernel
theorem dX7_lot_0 : decode cX7_lot 0 = .ok (.aload_n 0, 1) := by decide +kernel
theorem dX7_lot_1 : decode cX7_lot 1 = .ok (.iload_n 1, 1) := by decide +kernel
theorem dX7_lot_2 : decode cX7_lot 2 = .ok (.invokevirtual 110, 3) := by decide +kernel
theorem dX7_lot_5 : decode cX7_lot 5 = .ok (.astore 5, 2) := by decide +kernel
theorem dX7_lot_7 : decode cX7_lot 7 = .ok (.iload_n 2, 1) := by decide +kernel
theorem dX7_lot_8 : decode cX7_lot 8 = .ok (.iconst 0, 1) := by decide +kernel
theorem dX7_lot_9 : decode cX7_lot 9 = .ok (.bipush 9, 2) := by decide +kernel
theorem dX7_lot_11 : decode cX7_lot 11 = .ok (.invokestatic 34, 3) := by decide +kernel
theorem dX7_lot_14 : decode cX7_lot 14 = .ok (.iload_n 3, 1) := by decide +kernel
theorem dX7_lot_15 : decode cX7_lot 15 = .ok (.iconst 1, 1) := by decide +kernel
theorem dX7_lot_16 : decode cX7_lot 16 = .ok (.bipush 20, 2) := by decide +kernel
theorem dX7_lot_18 : decode cX7_lot 18 = .ok (.invokestatic 34, 3) := by decide +kernel
theorem dX7_lot_21 : decode cX7_lot 21 = .ok (.iload 4, 2) := by decide +kernel
theorem dX7_lot_23 : decode cX7_lot 23 = .ok (.iconst 1, 1) := by decide +kernel
theorem dX7_lot_24 : decode cX7_lot 24 = .ok (.sipush 200, 3) := by decide +kernel
theorem dX7_lot_27 : decode cX7_lot 27 = .ok (.invokestatic 34, 3) := by decide +kernel
theorem dX7_lot_30 : decode cX7_lot 30 = .ok (.aload_n 0, 1) := by decide +kernel
theorem dX7_lot_31 : decode cX7_lot 31 = .ok (.getfield 114, 3) := by decide +kernel
theorem dX7_lot_34 : decode cX7_lot 34 = .ok (.istore 6, 2) := by decide +kernel
theorem dX7_lot_36 : decode cX7_lot 36 = .ok (.iload 6, 2) := by decide +kernel
theorem dX7_lot_38 : decode cX7_lot 38 = .ok (.ifCond .lt 13, 3) := by decide +kernel
theorem dX7_lot_41 : decode cX7_lot 41 = .ok (.iload 6, 2) := by decide +kernel
theorem dX7_lot_43 : decode cX7_lot 43 = .ok (.aload_n 0, 1) := by decide +kernel
theorem dX7_lot_44 : decode cX7_lot 44 = .ok (.getfield 23, 3) := by decide +kernel
theorem dX7_lot_47 : decode cX7_lot 47 = .ok (.arraylength, 1) := by decide +kernel
theorem dX7_lot_48 : decode cX7_lot 48 = .ok (.if_icmp .lt 13, 3) := by decide +kernel
theorem dX7_lot_51 : decode cX7_lot 51 = .ok (.new 49, 3) := by decide +kernel
theorem dX7_lot_54 : decode cX7_lot 54 = .ok (.dup, 1) := by decide +kernel
theorem dX7_lot_55 : decode cX7_lot 55 = .ok (.ldc 117, 2) := by decide +kernel
theorem dX7_lot_57 : decode cX7_lot 57 = .ok (.invokespecial 53, 3) := by decide +kernel
theorem dX7_lot_60 : decode cX7_lot 60 = .ok (.athrow, 1) := by decide +kernel
theorem dX7_lot_61 : decode cX7_lot 61 = .ok (.aload_n 0, 1) := by decide +kernel
theorem dX7_lot_62 : decode cX7_lot 62 = .ok (.getfield 23, 3) := by decide +kernel
theorem dX7_lot_65 : decode cX7_lot 65 = .ok (.iload 6, 2) := by decide +kernel
theorem dX7_lot_67 : decode cX7_lot 67 = .ok (.new 21, 3) := by decide +kernel
theorem dX7_lot_70 : decode cX7_lot 70 = .ok (.dup, 1) := by decide +kernel
theorem dX7_lot_71 : decode cX7_lot 71 = .ok (.aload 5, 2) := by decide +kernel
theorem dX7_lot_73 : decode cX7_lot 73 = .ok (.iload_n 1, 1) := by decide +kernel
theorem dX7_lot_74 : decode cX7_lot 74 = .ok (.iload_n 2, 1) := by decide +kernel
theorem dX7_lot_75 : decode cX7_lot 75 = .ok (.iload_n 3, 1) := by decide +kernel
theorem dX7_lot_76 : decode cX7_lot 76 = .ok (.iload 4, 2) := by decide +kernel
theorem dX7_lot_78 : decode cX7_lot 78 = .ok (.invokespecial 119, 3) := by decide +kernel
theorem dX7_lot_81 : decode cX7_lot 81 = .ok (.aastore, 1) := by decide +kernel
theorem dX7_lot_82 : decode cX7_lot 82 = .ok (.aload_n 0, 1) := by decide +kernel
theorem dX7_lot_83 : decode cX7_lot 83 = .ok (.iload 6, 2) := by decide +kernel
theorem dX7_lot_85 : decode cX7_lot 85 = .ok (.iconst 1, 1) := by decide +kernel
theorem dX7_lot_86 : decode cX7_lot 86 = .ok (.iadd, 1) := by decide +kernel
theorem dX7_lot_87 : decode cX7_lot 87 = .ok (.putfield 114, 3) := by decide +kernel
theorem dX7_lot_90 : decode cX7_lot 90 = .ok (.iload 6, 2) := by decide +kernel
theorem dX7_lot_92 : decode cX7_lot 92 = .ok (.ireturn, 1) := by decide +kernel
theorem dX7_lotOf_0 : decode cX7_lotOf 0 = .ok (.aload_n 0, 1) := by decide +kernel
theorem dX7_lotOf_1 : decode cX7_lotOf 1 = .ok (.iload_n 1, 1) := by decide +kernel
theorem dX7_lotOf_2 : decode cX7_lotOf 2 = .ok (.invokevirtual 122, 3) := by decide +kernel
theorem dX7_lotOf_5 : decode cX7_lotOf 5 = .ok (.astore_n 3, 1) := by decide +kernel
theorem dX7_lotOf_6 : decode cX7_lotOf 6 = .ok (.iload_n 2, 1) := by decide +kernel
theorem dX7_lotOf_7 : decode cX7_lotOf 7 = .ok (.tableswitch 58 0 4 #[33, 38, 43, 48, 53], 33) := by decide +kernel
theorem dX7_lotOf_40 : decode cX7_lotOf 40 = .ok (.aload_n 3, 1) := by decide +kernel
theorem dX7_lotOf_41 : decode cX7_lotOf 41 = .ok (.getfield 126, 3) := by decide +kernel
theorem dX7_lotOf_44 : decode cX7_lotOf 44 = .ok (.ireturn, 1) := by decide +kernel
theorem dX7_lotOf_45 : decode cX7_lotOf 45 = .ok (.aload_n 3, 1) := by decide +kernel
theorem dX7_lotOf_46 : decode cX7_lotOf 46 = .ok (.getfield 129, 3) := by decide +kernel
theorem dX7_lotOf_49 : decode cX7_lotOf 49 = .ok (.ireturn, 1) := by decide +kernel
theorem dX7_lotOf_50 : decode cX7_lotOf 50 = .ok (.aload_n 3, 1) := by decide +kernel
theorem dX7_lotOf_51 : decode cX7_lotOf 51 = .ok (.getfield 132, 3) := by decide +kernel
theorem dX7_lotOf_54 : decode cX7_lotOf 54 = .ok (.ireturn, 1) := by decide +kernel
theorem dX7_lotOf_55 : decode cX7_lotOf 55 = .ok (.aload_n 3, 1) := by decide +kernel
theorem dX7_lotOf_56 : decode cX7_lotOf 56 = .ok (.getfield 135, 3) := by decide +kernel
theorem dX7_lotOf_59 : decode cX7_lotOf 59 = .ok (.ireturn, 1) := by decide +kernel
theorem dX7_lotOf_60 : decode cX7_lotOf 60 = .ok (.aload_n 3, 1) := by decide +kernel
theorem dX7_lotOf_61 : decode cX7_lotOf 61 = .ok (.invokevirtual 138, 3) := by decide +kernel
theorem dX7_lotOf_64 : decode cX7_lotOf 64 = .ok (.ireturn, 1) := by decide +kernel
theorem dX7_lotOf_65 : decode cX7_lotOf 65 = .ok (.new 38, 3) := by decide +kernel
theorem dX7_lotOf_68 : decode cX7_lotOf 68 = .ok (.dup, 1) := by decide +kernel
theorem dX7_lotOf_69 : decode cX7_lotOf 69 = .ok (.ldc 142, 2) := by decide +kernel
theorem dX7_lotOf_71 : decode cX7_lotOf 71 = .ok (.invokespecial 42, 3) := by decide +kernel
theorem dX7_lotOf_74 : decode cX7_lotOf 74 = .ok (.athrow, 1) := by decide +kernel
theorem dX7_wall_0 : decode cX7_wall 0 = .ok (.aload_n 0, 1) := by decide +kernel
theorem dX7_wall_1 : decode cX7_wall 1 = .ok (.iload_n 1, 1) := by decide +kernel
theorem dX7_wall_2 : decode cX7_wall 2 = .ok (.invokevirtual 144, 3) := by decide +kernel
theorem dX7_wall_5 : decode cX7_wall 5 = .ok (.astore 4, 2) := by decide +kernel
theorem dX7_wall_7 : decode cX7_wall 7 = .ok (.iload_n 2, 1) := by decide +kernel
theorem dX7_wall_8 : decode cX7_wall 8 = .ok (.iconst 1, 1) := by decide +kernel
theorem dX7_wall_9 : decode cX7_wall 9 = .ok (.bipush 12, 2) := by decide +kernel
theorem dX7_wall_11 : decode cX7_wall 11 = .ok (.invokestatic 34, 3) := by decide +kernel
theorem dX7_wall_14 : decode cX7_wall 14 = .ok (.iload_n 3, 1) := by decide +kernel
theorem dX7_wall_15 : decode cX7_wall 15 = .ok (.iconst 1, 1) := by decide +kernel
theorem dX7_wall_16 : decode cX7_wall 16 = .ok (.bipush 60, 2) := by decide +kernel
theorem dX7_wall_18 : decode cX7_wall 18 = .ok (.invokestatic 34, 3) := by decide +kernel
theorem dX7_wall_21 : decode cX7_wall 21 = .ok (.aload 4, 2) := by decide +kernel
theorem dX7_wall_23 : decode cX7_wall 23 = .ok (.invokevirtual 148, 3) := by decide +kernel
theorem dX7_wall_26 : decode cX7_wall 26 = .ok (.ifCond .eq 13, 3) := by decide +kernel
theorem dX7_wall_29 : decode cX7_wall 29 = .ok (.new 49, 3) := by decide +kernel
theorem dX7_wall_32 : decode cX7_wall 32 = .ok (.dup, 1) := by decide +kernel
theorem dX7_wall_33 : decode cX7_wall 33 = .ok (.ldc 152, 2) := by decide +kernel
theorem dX7_wall_35 : decode cX7_wall 35 = .ok (.invokespecial 53, 3) := by decide +kernel
theorem dX7_wall_38 : decode cX7_wall 38 = .ok (.athrow, 1) := by decide +kernel
theorem dX7_wall_39 : decode cX7_wall 39 = .ok (.aload 4, 2) := by decide +kernel
theorem dX7_wall_41 : decode cX7_wall 41 = .ok (.iload_n 2, 1) := by decide +kernel
theorem dX7_wall_42 : decode cX7_wall 42 = .ok (.iload_n 3, 1) := by decide +kernel
theorem dX7_wall_43 : decode cX7_wall 43 = .ok (.invokevirtual 154, 3) := by decide +kernel
theorem dX7_wall_46 : decode cX7_wall 46 = .ok (.istore 5, 2) := by decide +kernel
theorem dX7_wall_48 : decode cX7_wall 48 = .ok (.iload 5, 2) := by decide +kernel
theorem dX7_wall_50 : decode cX7_wall 50 = .ok (.iconst (-1), 1) := by decide +kernel
theorem dX7_wall_51 : decode cX7_wall 51 = .ok (.if_icmp .ne 13, 3) := by decide +kernel
theorem dX7_wall_54 : decode cX7_wall 54 = .ok (.new 49, 3) := by decide +kernel
theorem dX7_wall_57 : decode cX7_wall 57 = .ok (.dup, 1) := by decide +kernel
theorem dX7_wall_58 : decode cX7_wall 58 = .ok (.ldc 157, 2) := by decide +kernel
theorem dX7_wall_60 : decode cX7_wall 60 = .ok (.invokespecial 53, 3) := by decide +kernel
theorem dX7_wall_63 : decode cX7_wall 63 = .ok (.athrow, 1) := by decide +kernel
theorem dX7_wall_64 : decode cX7_wall 64 = .ok (.iload 5, 2) := by decide +kernel
theorem dX7_wall_66 : decode cX7_wall 66 = .ok (.ireturn, 1) := by decide +kernel
theorem dX7_hang_0 : decode cX7_hang 0 = .ok (.aload_n 0, 1) := by decide +kernel
theorem dX7_hang_1 : decode cX7_hang 1 = .ok (.iload_n 1, 1) := by decide +kernel
theorem dX7_hang_2 : decode cX7_hang 2 = .ok (.invokevirtual 144, 3) := by decide +kernel
theorem dX7_hang_5 : decode cX7_hang 5 = .ok (.astore_n 3, 1) := by decide +kernel
theorem dX7_hang_6 : decode cX7_hang 6 = .ok (.aload_n 0, 1) := by decide +kernel
theorem dX7_hang_7 : decode cX7_hang 7 = .ok (.iload_n 2, 1) := by decide +kernel
theorem dX7_hang_8 : decode cX7_hang 8 = .ok (.invokevirtual 122, 3) := by decide +kernel
theorem dX7_hang_11 : decode cX7_hang 11 = .ok (.astore 4, 2) := by decide +kernel
theorem dX7_hang_13 : decode cX7_hang 13 = .ok (.aload_n 3, 1) := by decide +kernel
theorem dX7_hang_14 : decode cX7_hang 14 = .ok (.invokevirtual 148, 3) := by decide +kernel
theorem dX7_hang_17 : decode cX7_hang 17 = .ok (.ifCond .eq 13, 3) := by decide +kernel
theorem dX7_hang_20 : decode cX7_hang 20 = .ok (.new 49, 3) := by decide +kernel
theorem dX7_hang_23 : decode cX7_hang 23 = .ok (.dup, 1) := by decide +kernel
theorem dX7_hang_24 : decode cX7_hang 24 = .ok (.ldc 152, 2) := by decide +kernel
theorem dX7_hang_26 : decode cX7_hang 26 = .ok (.invokespecial 53, 3) := by decide +kernel
theorem dX7_hang_29 : decode cX7_hang 29 = .ok (.athrow, 1) := by decide +kernel
theorem dX7_hang_30 : decode cX7_hang 30 = .ok (.aload_n 3, 1) := by decide +kernel
theorem dX7_hang_31 : decode cX7_hang 31 = .ok (.getfield 159, 3) := by decide +kernel
theorem dX7_hang_34 : decode cX7_hang 34 = .ok (.ifCond .ne 13, 3) := by decide +kernel
theorem dX7_hang_37 : decode cX7_hang 37 = .ok (.new 49, 3) := by decide +kernel
theorem dX7_hang_40 : decode cX7_hang 40 = .ok (.dup, 1) := by decide +kernel
theorem dX7_hang_41 : decode cX7_hang 41 = .ok (.ldc 162, 2) := by decide +kernel
theorem dX7_hang_43 : decode cX7_hang 43 = .ok (.invokespecial 53, 3) := by decide +kernel
theorem dX7_hang_46 : decode cX7_hang 46 = .ok (.athrow, 1) := by decide +kernel
theorem dX7_hang_47 : decode cX7_hang 47 = .ok (.aload_n 3, 1) := by decide +kernel
theorem dX7_hang_48 : decode cX7_hang 48 = .ok (.aload 4, 2) := by decide +kernel
theorem dX7_hang_50 : decode cX7_hang 50 = .ok (.invokevirtual 164, 3) := by decide +kernel
theorem dX7_hang_53 : decode cX7_hang 53 = .ok (.istore 5, 2) := by decide +kernel
theorem dX7_hang_55 : decode cX7_hang 55 = .ok (.iload 5, 2) := by decide +kernel
theorem dX7_hang_57 : decode cX7_hang 57 = .ok (.iconst (-1), 1) := by decide +kernel
theorem dX7_hang_58 : decode cX7_hang 58 = .ok (.if_icmp .ne 13, 3) := by decide +kernel
theorem dX7_hang_61 : decode cX7_hang 61 = .ok (.new 49, 3) := by decide +kernel
theorem dX7_hang_64 : decode cX7_hang 64 = .ok (.dup, 1) := by decide +kernel
theorem dX7_hang_65 : decode cX7_hang 65 = .ok (.ldc 168, 2) := by decide +kernel
theorem dX7_hang_67 : decode cX7_hang 67 = .ok (.invokespecial 53, 3) := by decide +kernel
theorem dX7_hang_70 : decode cX7_hang 70 = .ok (.athrow, 1) := by decide +kernel
theorem dX7_hang_71 : decode cX7_hang 71 = .ok (.aload_n 3, 1) := by decide +kernel
theorem dX7_hang_72 : decode cX7_hang 72 = .ok (.aload 4, 2) := by decide +kernel
theorem dX7_hang_74 : decode cX7_hang 74 = .ok (.iload_n 2, 1) := by decide +kernel
theorem dX7_hang_75 : decode cX7_hang 75 = .ok (.iload 5, 2) := by decide +kernel
theorem dX7_hang_77 : decode cX7_hang 77 = .ok (.invokevirtual 170, 3) := by decide +kernel
theorem dX7_hang_80 : decode cX7_hang 80 = .ok (.ireturn, 1) := by decide +kernel
theorem dX7_lengthen_0 : decode cX7_lengthen 0 = .ok (.aload_n 0, 1) := by decide +kernel
theorem dX7_lengthen_1 : decode cX7_lengthen 1 = .ok (.iload_n 1, 1) := by decide +kernel
theorem dX7_lengthen_2 : decode cX7_lengthen 2 = .ok (.invokevirtual 144, 3) := by decide +kernel
theorem dX7_lengthen_5 : decode cX7_lengthen 5 = .ok (.astore 4, 2) := by decide +kernel
theorem dX7_lengthen_7 : decode cX7_lengthen 7 = .ok (.aload 4, 2) := by decide +kernel
theorem dX7_lengthen_9 : decode cX7_lengthen 9 = .ok (.iload_n 2, 1) := by decide +kernel
theorem dX7_lengthen_10 : decode cX7_lengthen 10 = .ok (.invokestatic 174, 3) := by decide +kernel
theorem dX7_lengthen_13 : decode cX7_lengthen 13 = .ok (.astore 5, 2) := by decide +kernel
theorem dX7_lengthen_15 : decode cX7_lengthen 15 = .ok (.iload_n 3, 1) := by decide +kernel
theorem dX7_lengthen_16 : decode cX7_lengthen 16 = .ok (.iconst 1, 1) := by decide +kernel
theorem dX7_lengthen_17 : decode cX7_lengthen 17 = .ok (.bipush 12, 2) := by decide +kernel
theorem dX7_lengthen_19 : decode cX7_lengthen 19 = .ok (.invokestatic 34, 3) := by decide +kernel
theorem dX7_lengthen_22 : decode cX7_lengthen 22 = .ok (.aload 4, 2) := by decide +kernel
theorem dX7_lengthen_24 : decode cX7_lengthen 24 = .ok (.getfield 178, 3) := by decide +kernel
theorem dX7_lengthen_27 : decode cX7_lengthen 27 = .ok (.astore 6, 2) := by decide +kernel
theorem dX7_lengthen_29 : decode cX7_lengthen 29 = .ok (.aload 6, 2) := by decide +kernel
theorem dX7_lengthen_31 : decode cX7_lengthen 31 = .ok (.ifnonnull 13, 3) := by decide +kernel
theorem dX7_lengthen_34 : decode cX7_lengthen 34 = .ok (.new 49, 3) := by decide +kernel
theorem dX7_lengthen_37 : decode cX7_lengthen 37 = .ok (.dup, 1) := by decide +kernel
theorem dX7_lengthen_38 : decode cX7_lengthen 38 = .ok (.ldc 182, 2) := by decide +kernel
theorem dX7_lengthen_40 : decode cX7_lengthen 40 = .ok (.invokespecial 53, 3) := by decide +kernel
theorem dX7_lengthen_43 : decode cX7_lengthen 43 = .ok (.athrow, 1) := by decide +kernel
theorem dX7_lengthen_44 : decode cX7_lengthen 44 = .ok (.aload 5, 2) := by decide +kernel
theorem dX7_lengthen_46 : decode cX7_lengthen 46 = .ok (.getfield 184, 3) := by decide +kernel
theorem dX7_lengthen_49 : decode cX7_lengthen 49 = .ok (.iload_n 3, 1) := by decide +kernel
theorem dX7_lengthen_50 : decode cX7_lengthen 50 = .ok (.iadd, 1) := by decide +kernel
theorem dX7_lengthen_51 : decode cX7_lengthen 51 = .ok (.bipush 24, 2) := by decide +kernel
theorem dX7_lengthen_53 : decode cX7_lengthen 53 = .ok (.if_icmp .le 13, 3) := by decide +kernel
theorem dX7_lengthen_56 : decode cX7_lengthen 56 = .ok (.new 49, 3) := by decide +kernel
theorem dX7_lengthen_59 : decode cX7_lengthen 59 = .ok (.dup, 1) := by decide +kernel
theorem dX7_lengthen_60 : decode cX7_lengthen 60 = .ok (.ldc 189, 2) := by decide +kernel
theorem dX7_lengthen_62 : decode cX7_lengthen 62 = .ok (.invokespecial 53, 3) := by decide +kernel
theorem dX7_lengthen_65 : decode cX7_lengthen 65 = .ok (.athrow, 1) := by decide +kernel
theorem dX7_lengthen_66 : decode cX7_lengthen 66 = .ok (.aload 4, 2) := by decide +kernel
theorem dX7_lengthen_68 : decode cX7_lengthen 68 = .ok (.getfield 191, 3) := by decide +kernel
theorem dX7_lengthen_71 : decode cX7_lengthen 71 = .ok (.getfield 195, 3) := by decide +kernel
theorem dX7_lengthen_74 : decode cX7_lengthen 74 = .ok (.istore 7, 2) := by decide +kernel
theorem dX7_lengthen_76 : decode cX7_lengthen 76 = .ok (.aload 4, 2) := by decide +kernel
theorem dX7_lengthen_78 : decode cX7_lengthen 78 = .ok (.aload 6, 2) := by decide +kernel
theorem dX7_lengthen_80 : decode cX7_lengthen 80 = .ok (.aload 5, 2) := by decide +kernel
theorem dX7_lengthen_82 : decode cX7_lengthen 82 = .ok (.iload_n 3, 1) := by decide +kernel
theorem dX7_lengthen_83 : decode cX7_lengthen 83 = .ok (.invokevirtual 200, 3) := by decide +kernel
theorem dX7_lengthen_86 : decode cX7_lengthen 86 = .ok (.ifCond .eq 15, 3) := by decide +kernel
theorem dX7_lengthen_89 : decode cX7_lengthen 89 = .ok (.aload 4, 2) := by decide +kernel
theorem dX7_lengthen_91 : decode cX7_lengthen 91 = .ok (.getfield 191, 3) := by decide +kernel
theorem dX7_lengthen_94 : decode cX7_lengthen 94 = .ok (.getfield 195, 3) := by decide +kernel
theorem dX7_lengthen_97 : decode cX7_lengthen 97 = .ok (.iload 7, 2) := by decide +kernel
theorem dX7_lengthen_99 : decode cX7_lengthen 99 = .ok (.isub, 1) := by decide +kernel
theorem dX7_lengthen_100 : decode cX7_lengthen 100 = .ok (.ireturn, 1) := by decide +kernel
theorem dX7_lengthen_101 : decode cX7_lengthen 101 = .ok (.aload_n 0, 1) := by decide +kernel
theorem dX7_lengthen_102 : decode cX7_lengthen 102 = .ok (.aload 6, 2) := by decide +kernel
theorem dX7_lengthen_104 : decode cX7_lengthen 104 = .ok (.iload 7, 2) := by decide +kernel
theorem dX7_lengthen_106 : decode cX7_lengthen 106 = .ok (.invokevirtual 204, 3) := by decide +kernel
theorem dX7_lengthen_109 : decode cX7_lengthen 109 = .ok (.aload 4, 2) := by decide +kernel
theorem dX7_lengthen_111 : decode cX7_lengthen 111 = .ok (.invokevirtual 208, 3) := by decide +kernel
theorem dX7_lengthen_114 : decode cX7_lengthen 114 = .ok (.iconst (-1), 1) := by decide +kernel
theorem dX7_lengthen_115 : decode cX7_lengthen 115 = .ok (.ireturn, 1) := by decide +kernel
theorem dX7_strip_0 : decode cX7_strip 0 = .ok (.aload_n 0, 1) := by decide +kernel
theorem dX7_strip_1 : decode cX7_strip 1 = .ok (.iload_n 1, 1) := by decide +kernel
theorem dX7_strip_2 : decode cX7_strip 2 = .ok (.invokevirtual 144, 3) := by decide +kernel
theorem dX7_strip_5 : decode cX7_strip 5 = .ok (.astore_n 2, 1) := by decide +kernel
theorem dX7_strip_6 : decode cX7_strip 6 = .ok (.aload_n 2, 1) := by decide +kernel
theorem dX7_strip_7 : decode cX7_strip 7 = .ok (.getfield 178, 3) := by decide +kernel
theorem dX7_strip_10 : decode cX7_strip 10 = .ok (.astore_n 3, 1) := by decide +kernel
theorem dX7_strip_11 : decode cX7_strip 11 = .ok (.aload_n 3, 1) := by decide +kernel
theorem dX7_strip_12 : decode cX7_strip 12 = .ok (.ifnonnull 13, 3) := by decide +kernel
theorem dX7_strip_15 : decode cX7_strip 15 = .ok (.new 49, 3) := by decide +kernel
theorem dX7_strip_18 : decode cX7_strip 18 = .ok (.dup, 1) := by decide +kernel
theorem dX7_strip_19 : decode cX7_strip 19 = .ok (.ldc 182, 2) := by decide +kernel
theorem dX7_strip_21 : decode cX7_strip 21 = .ok (.invokespecial 53, 3) := by decide +kernel
theorem dX7_strip_24 : decode cX7_strip 24 = .ok (.athrow, 1) := by decide +kernel
theorem dX7_strip_25 : decode cX7_strip 25 = .ok (.aload_n 2, 1) := by decide +kernel
theorem dX7_strip_26 : decode cX7_strip 26 = .ok (.getfield 191, 3) := by decide +kernel
theorem dX7_strip_29 : decode cX7_strip 29 = .ok (.getfield 195, 3) := by decide +kernel
theorem dX7_strip_32 : decode cX7_strip 32 = .ok (.istore 4, 2) := by decide +kernel
theorem dX7_strip_34 : decode cX7_strip 34 = .ok (.aload_n 0, 1) := by decide +kernel
theorem dX7_strip_35 : decode cX7_strip 35 = .ok (.aload_n 3, 1) := by decide +kernel
theorem dX7_strip_36 : decode cX7_strip 36 = .ok (.iload 4, 2) := by decide +kernel
theorem dX7_strip_38 : decode cX7_strip 38 = .ok (.invokevirtual 204, 3) := by decide +kernel
theorem dX7_strip_41 : decode cX7_strip 41 = .ok (.aload_n 2, 1) := by decide +kernel
theorem dX7_strip_42 : decode cX7_strip 42 = .ok (.invokevirtual 208, 3) := by decide +kernel
theorem dX7_strip_45 : decode cX7_strip 45 = .ok (.iload 4, 2) := by decide +kernel
theorem dX7_strip_47 : decode cX7_strip 47 = .ok (.ireturn, 1) := by decide +kernel
theorem dX7_room_0 : decode cX7_room 0 = .ok (.aload_n 0, 1) := by decide +kernel
theorem dX7_room_1 : decode cX7_room 1 = .ok (.iload_n 1, 1) := by decide +kernel
theorem dX7_room_2 : decode cX7_room 2 = .ok (.invokevirtual 144, 3) := by decide +kernel
theorem dX7_room_5 : decode cX7_room 5 = .ok (.astore_n 3, 1) := by decide +kernel
theorem dX7_room_6 : decode cX7_room 6 = .ok (.iload_n 2, 1) := by decide +kernel
theorem dX7_room_7 : decode cX7_room 7 = .ok (.tableswitch 106 0 5 #[37, 42, 47, 63, 82, 101], 37) := by decide +kernel
theorem dX7_room_44 : decode cX7_room 44 = .ok (.aload_n 3, 1) := by decide +kernel
theorem dX7_room_45 : decode cX7_room 45 = .ok (.getfield 159, 3) := by decide +kernel
theorem dX7_room_48 : decode cX7_room 48 = .ok (.ireturn, 1) := by decide +kernel
theorem dX7_room_49 : decode cX7_room 49 = .ok (.aload_n 3, 1) := by decide +kernel
theorem dX7_room_50 : decode cX7_room 50 = .ok (.invokevirtual 211, 3) := by decide +kernel
theorem dX7_room_53 : decode cX7_room 53 = .ok (.ireturn, 1) := by decide +kernel
theorem dX7_room_54 : decode cX7_room 54 = .ok (.aload_n 3, 1) := by decide +kernel
theorem dX7_room_55 : decode cX7_room 55 = .ok (.invokevirtual 148, 3) := by decide +kernel
theorem dX7_room_58 : decode cX7_room 58 = .ok (.ifCond .eq 10, 3) := by decide +kernel
theorem dX7_room_61 : decode cX7_room 61 = .ok (.aload_n 3, 1) := by decide +kernel
theorem dX7_room_62 : decode cX7_room 62 = .ok (.getfield 214, 3) := by decide +kernel
theorem dX7_room_65 : decode cX7_room 65 = .ok (.goto 4, 3) := by decide +kernel
theorem dX7_room_68 : decode cX7_room 68 = .ok (.iconst (-1), 1) := by decide +kernel
theorem dX7_room_69 : decode cX7_room 69 = .ok (.ireturn, 1) := by decide +kernel
theorem dX7_room_70 : decode cX7_room 70 = .ok (.aload_n 3, 1) := by decide +kernel
theorem dX7_room_71 : decode cX7_room 71 = .ok (.invokevirtual 148, 3) := by decide +kernel
theorem dX7_room_74 : decode cX7_room 74 = .ok (.ifCond .eq 13, 3) := by decide +kernel
theorem dX7_room_77 : decode cX7_room 77 = .ok (.aload_n 3, 1) := by decide +kernel
theorem dX7_room_78 : decode cX7_room 78 = .ok (.getfield 191, 3) := by decide +kernel
theorem dX7_room_81 : decode cX7_room 81 = .ok (.getfield 217, 3) := by decide +kernel
theorem dX7_room_84 : decode cX7_room 84 = .ok (.goto 4, 3) := by decide +kernel
theorem dX7_room_87 : decode cX7_room 87 = .ok (.iconst (-1), 1) := by decide +kernel
theorem dX7_room_88 : decode cX7_room 88 = .ok (.ireturn, 1) := by decide +kernel
theorem dX7_room_89 : decode cX7_room 89 = .ok (.aload_n 3, 1) := by decide +kernel
theorem dX7_room_90 : decode cX7_room 90 = .ok (.invokevirtual 148, 3) := by decide +kernel
theorem dX7_room_93 : decode cX7_room 93 = .ok (.ifCond .eq 13, 3) := by decide +kernel
theorem dX7_room_96 : decode cX7_room 96 = .ok (.aload_n 3, 1) := by decide +kernel
theorem dX7_room_97 : decode cX7_room 97 = .ok (.getfield 191, 3) := by decide +kernel
theorem dX7_room_100 : decode cX7_room 100 = .ok (.getfield 195, 3) := by decide +kernel
theorem dX7_room_103 : decode cX7_room 103 = .ok (.goto 4, 3) := by decide +kernel
theorem dX7_room_106 : decode cX7_room 106 = .ok (.iconst (-1), 1) := by decide +kernel
theorem dX7_room_107 : decode cX7_room 107 = .ok (.ireturn, 1) := by decide +kernel
theorem dX7_room_108 : decode cX7_room 108 = .ok (.aload_n 3, 1) := by decide +kernel
theorem dX7_room_109 : decode cX7_room 109 = .ok (.invokevirtual 220, 3) := by decide +kernel
theorem dX7_room_112 : decode cX7_room 112 = .ok (.ireturn, 1) := by decide +kernel
theorem dX7_room_113 : decode cX7_room 113 = .ok (.new 38, 3) := by decide +kernel
theorem dX7_room_116 : decode cX7_room 116 = .ok (.dup, 1) := by decide +kernel
theorem dX7_room_117 : decode cX7_room 117 = .ok (.ldc 223, 2) := by decide +kernel
theorem dX7_room_119 : decode cX7_room 119 = .ok (.invokespecial 42, 3) := by decide +kernel
theorem dX7_room_122 : decode cX7_room 122 = .ok (.athrow, 1) := by decide +kernel
theorem dX7_cut_0 : decode cX7_cut 0 = .ok (.aload_n 0, 1) := by decide +kernel
theorem dX7_cut_1 : decode cX7_cut 1 = .ok (.iload_n 1, 1) := by decide +kernel
theorem dX7_cut_2 : decode cX7_cut 2 = .ok (.invokevirtual 144, 3) := by decide +kernel
theorem dX7_cut_5 : decode cX7_cut 5 = .ok (.astore 4, 2) := by decide +kernel
theorem dX7_cut_7 : decode cX7_cut 7 = .ok (.aload 4, 2) := by decide +kernel
theorem dX7_cut_9 : decode cX7_cut 9 = .ok (.iload_n 2, 1) := by decide +kernel
theorem dX7_cut_10 : decode cX7_cut 10 = .ok (.invokestatic 174, 3) := by decide +kernel
theorem dX7_cut_13 : decode cX7_cut 13 = .ok (.astore 5, 2) := by decide +kernel
theorem dX7_cut_15 : decode cX7_cut 15 = .ok (.iload_n 3, 1) := by decide +kernel
theorem dX7_cut_16 : decode cX7_cut 16 = .ok (.ifCond .lt 22, 3) := by decide +kernel
theorem dX7_cut_19 : decode cX7_cut 19 = .ok (.iload_n 3, 1) := by decide +kernel
theorem dX7_cut_20 : decode cX7_cut 20 = .ok (.aload 5, 2) := by decide +kernel
theorem dX7_cut_22 : decode cX7_cut 22 = .ok (.getfield 184, 3) := by decide +kernel
theorem dX7_cut_25 : decode cX7_cut 25 = .ok (.if_icmp .ge 13, 3) := by decide +kernel
theorem dX7_cut_28 : decode cX7_cut 28 = .ok (.iload_n 3, 1) := by decide +kernel
theorem dX7_cut_29 : decode cX7_cut 29 = .ok (.aload 5, 2) := by decide +kernel
theorem dX7_cut_31 : decode cX7_cut 31 = .ok (.getfield 225, 3) := by decide +kernel
theorem dX7_cut_34 : decode cX7_cut 34 = .ok (.arraylength, 1) := by decide +kernel
theorem dX7_cut_35 : decode cX7_cut 35 = .ok (.if_icmp .lt 13, 3) := by decide +kernel
theorem dX7_cut_38 : decode cX7_cut 38 = .ok (.new 70, 3) := by decide +kernel
theorem dX7_cut_41 : decode cX7_cut 41 = .ok (.dup, 1) := by decide +kernel
theorem dX7_cut_42 : decode cX7_cut 42 = .ok (.ldc 229, 2) := by decide +kernel
theorem dX7_cut_44 : decode cX7_cut 44 = .ok (.invokespecial 74, 3) := by decide +kernel
theorem dX7_cut_47 : decode cX7_cut 47 = .ok (.athrow, 1) := by decide +kernel
theorem dX7_cut_48 : decode cX7_cut 48 = .ok (.aload 4, 2) := by decide +kernel
theorem dX7_cut_50 : decode cX7_cut 50 = .ok (.invokevirtual 148, 3) := by decide +kernel
theorem dX7_cut_53 : decode cX7_cut 53 = .ok (.ifCond .eq 13, 3) := by decide +kernel
theorem dX7_cut_56 : decode cX7_cut 56 = .ok (.aload 5, 2) := by decide +kernel
theorem dX7_cut_58 : decode cX7_cut 58 = .ok (.getfield 225, 3) := by decide +kernel
theorem dX7_cut_61 : decode cX7_cut 61 = .ok (.iload_n 3, 1) := by decide +kernel
theorem dX7_cut_62 : decode cX7_cut 62 = .ok (.iaload, 1) := by decide +kernel
theorem dX7_cut_63 : decode cX7_cut 63 = .ok (.goto 4, 3) := by decide +kernel
theorem dX7_cut_66 : decode cX7_cut 66 = .ok (.iconst (-1), 1) := by decide +kernel
theorem dX7_cut_67 : decode cX7_cut 67 = .ok (.ireturn, 1) := by decide +kernel
theorem dX7_seen_0 : decode cX7_seen 0 = .ok (.aload_n 0, 1) := by decide +kernel
theorem dX7_seen_1 : decode cX7_seen 1 = .ok (.iload_n 1, 1) := by decide +kernel
theorem dX7_seen_2 : decode cX7_seen 2 = .ok (.invokevirtual 144, 3) := by decide +kernel
theorem dX7_seen_5 : decode cX7_seen 5 = .ok (.astore 5, 2) := by decide +kernel
theorem dX7_seen_7 : decode cX7_seen 7 = .ok (.aload 5, 2) := by decide +kernel
theorem dX7_seen_9 : decode cX7_seen 9 = .ok (.iload_n 2, 1) := by decide +kernel
theorem dX7_seen_10 : decode cX7_seen 10 = .ok (.invokestatic 174, 3) := by decide +kernel
theorem dX7_seen_13 : decode cX7_seen 13 = .ok (.astore 6, 2) := by decide +kernel
theorem dX7_seen_15 : decode cX7_seen 15 = .ok (.aload 5, 2) := by decide +kernel
theorem dX7_seen_17 : decode cX7_seen 17 = .ok (.getfield 178, 3) := by decide +kernel
theorem dX7_seen_20 : decode cX7_seen 20 = .ok (.astore 7, 2) := by decide +kernel
theorem dX7_seen_22 : decode cX7_seen 22 = .ok (.aload 7, 2) := by decide +kernel
theorem dX7_seen_24 : decode cX7_seen 24 = .ok (.ifnonnull 5, 3) := by decide +kernel
theorem dX7_seen_27 : decode cX7_seen 27 = .ok (.iconst (-1), 1) := by decide +kernel
theorem dX7_seen_28 : decode cX7_seen 28 = .ok (.ireturn, 1) := by decide +kernel
theorem dX7_seen_29 : decode cX7_seen 29 = .ok (.aload 7, 2) := by decide +kernel
theorem dX7_seen_31 : decode cX7_seen 31 = .ok (.getfield 231, 3) := by decide +kernel
theorem dX7_seen_34 : decode cX7_seen 34 = .ok (.getfield 235, 3) := by decide +kernel
theorem dX7_seen_37 : decode cX7_seen 37 = .ok (.astore 8, 2) := by decide +kernel
theorem dX7_seen_39 : decode cX7_seen 39 = .ok (.iload_n 3, 1) := by decide +kernel
theorem dX7_seen_40 : decode cX7_seen 40 = .ok (.ifCond .lt 33, 3) := by decide +kernel
theorem dX7_seen_43 : decode cX7_seen 43 = .ok (.iload_n 3, 1) := by decide +kernel
theorem dX7_seen_44 : decode cX7_seen 44 = .ok (.aload 6, 2) := by decide +kernel
theorem dX7_seen_46 : decode cX7_seen 46 = .ok (.getfield 184, 3) := by decide +kernel
theorem dX7_seen_49 : decode cX7_seen 49 = .ok (.aload 8, 2) := by decide +kernel
theorem dX7_seen_51 : decode cX7_seen 51 = .ok (.getfield 238, 3) := by decide +kernel
theorem dX7_seen_54 : decode cX7_seen 54 = .ok (.imul, 1) := by decide +kernel
theorem dX7_seen_55 : decode cX7_seen 55 = .ok (.if_icmp .ge 18, 3) := by decide +kernel
theorem dX7_seen_58 : decode cX7_seen 58 = .ok (.iload 4, 2) := by decide +kernel
theorem dX7_seen_60 : decode cX7_seen 60 = .ok (.ifCond .lt 13, 3) := by decide +kernel
theorem dX7_seen_63 : decode cX7_seen 63 = .ok (.iload 4, 2) := by decide +kernel
theorem dX7_seen_65 : decode cX7_seen 65 = .ok (.aload 6, 2) := by decide +kernel
theorem dX7_seen_67 : decode cX7_seen 67 = .ok (.getfield 241, 3) := by decide +kernel
theorem dX7_seen_70 : decode cX7_seen 70 = .ok (.if_icmp .lt 13, 3) := by decide +kernel
theorem dX7_seen_73 : decode cX7_seen 73 = .ok (.new 70, 3) := by decide +kernel
theorem dX7_seen_76 : decode cX7_seen 76 = .ok (.dup, 1) := by decide +kernel
theorem dX7_seen_77 : decode cX7_seen 77 = .ok (.ldc 244, 2) := by decide +kernel
theorem dX7_seen_79 : decode cX7_seen 79 = .ok (.invokespecial 74, 3) := by decide +kernel
theorem dX7_seen_82 : decode cX7_seen 82 = .ok (.athrow, 1) := by decide +kernel
theorem dX7_seen_83 : decode cX7_seen 83 = .ok (.aload 8, 2) := by decide +kernel
theorem dX7_seen_85 : decode cX7_seen 85 = .ok (.iload_n 3, 1) := by decide +kernel
theorem dX7_seen_86 : decode cX7_seen 86 = .ok (.aload 5, 2) := by decide +kernel
theorem dX7_seen_88 : decode cX7_seen 88 = .ok (.getfield 191, 3) := by decide +kernel
theorem dX7_seen_91 : decode cX7_seen 91 = .ok (.getfield 217, 3) := by decide +kernel
theorem dX7_seen_94 : decode cX7_seen 94 = .ok (.iload 4, 2) := by decide +kernel
theorem dX7_seen_96 : decode cX7_seen 96 = .ok (.iadd, 1) := by decide +kernel
theorem dX7_seen_97 : decode cX7_seen 97 = .ok (.invokevirtual 75, 3) := by decide +kernel
theorem dX7_seen_100 : decode cX7_seen 100 = .ok (.ireturn, 1) := by decide +kernel
theorem dX7_lost_0 : decode cX7_lost 0 = .ok (.aload_n 0, 1) := by decide +kernel
theorem dX7_lost_1 : decode cX7_lost 1 = .ok (.getfield 246, 3) := by decide +kernel
theorem dX7_lost_4 : decode cX7_lost 4 = .ok (.ireturn, 1) := by decide +kernel
theorem dX7_patternAt_0 : decode cX7_patternAt 0 = .ok (.iload_n 1, 1) := by decide +kernel
theorem dX7_patternAt_1 : decode cX7_patternAt 1 = .ok (.ifCond .lt 12, 3) := by decide +kernel
theorem dX7_patternAt_4 : decode cX7_patternAt 4 = .ok (.iload_n 1, 1) := by decide +kernel
theorem dX7_patternAt_5 : decode cX7_patternAt 5 = .ok (.aload_n 0, 1) := by decide +kernel
theorem dX7_patternAt_6 : decode cX7_patternAt 6 = .ok (.getfield 11, 3) := by decide +kernel
theorem dX7_patternAt_9 : decode cX7_patternAt 9 = .ok (.arraylength, 1) := by decide +kernel
theorem dX7_patternAt_10 : decode cX7_patternAt 10 = .ok (.if_icmp .lt 7, 3) := by decide +kernel
theorem dX7_patternAt_13 : decode cX7_patternAt 13 = .ok (.aconst_null, 1) := by decide +kernel
theorem dX7_patternAt_14 : decode cX7_patternAt 14 = .ok (.goto 9, 3) := by decide +kernel
theorem dX7_patternAt_17 : decode cX7_patternAt 17 = .ok (.aload_n 0, 1) := by decide +kernel
theorem dX7_patternAt_18 : decode cX7_patternAt 18 = .ok (.getfield 11, 3) := by decide +kernel
theorem dX7_patternAt_21 : decode cX7_patternAt 21 = .ok (.iload_n 1, 1) := by decide +kernel
theorem dX7_patternAt_22 : decode cX7_patternAt 22 = .ok (.aaload, 1) := by decide +kernel
theorem dX7_patternAt_23 : decode cX7_patternAt 23 = .ok (.astore_n 2, 1) := by decide +kernel
theorem dX7_patternAt_24 : decode cX7_patternAt 24 = .ok (.aload_n 2, 1) := by decide +kernel
theorem dX7_patternAt_25 : decode cX7_patternAt 25 = .ok (.ifnonnull 13, 3) := by decide +kernel
theorem dX7_patternAt_28 : decode cX7_patternAt 28 = .ok (.new 70, 3) := by decide +kernel
theorem dX7_patternAt_31 : decode cX7_patternAt 31 = .ok (.dup, 1) := by decide +kernel
theorem dX7_patternAt_32 : decode cX7_patternAt 32 = .ok (.ldc 249, 2) := by decide +kernel
theorem dX7_patternAt_34 : decode cX7_patternAt 34 = .ok (.invokespecial 74, 3) := by decide +kernel
theorem dX7_patternAt_37 : decode cX7_patternAt 37 = .ok (.athrow, 1) := by decide +kernel
theorem dX7_patternAt_38 : decode cX7_patternAt 38 = .ok (.aload_n 2, 1) := by decide +kernel
theorem dX7_patternAt_39 : decode cX7_patternAt 39 = .ok (.areturn, 1) := by decide +kernel
theorem dX7_rollerAt_0 : decode cX7_rollerAt 0 = .ok (.iload_n 1, 1) := by decide +kernel
theorem dX7_rollerAt_1 : decode cX7_rollerAt 1 = .ok (.ifCond .lt 12, 3) := by decide +kernel
theorem dX7_rollerAt_4 : decode cX7_rollerAt 4 = .ok (.iload_n 1, 1) := by decide +kernel
theorem dX7_rollerAt_5 : decode cX7_rollerAt 5 = .ok (.aload_n 0, 1) := by decide +kernel
theorem dX7_rollerAt_6 : decode cX7_rollerAt 6 = .ok (.getfield 17, 3) := by decide +kernel
theorem dX7_rollerAt_9 : decode cX7_rollerAt 9 = .ok (.arraylength, 1) := by decide +kernel
theorem dX7_rollerAt_10 : decode cX7_rollerAt 10 = .ok (.if_icmp .lt 7, 3) := by decide +kernel
theorem dX7_rollerAt_13 : decode cX7_rollerAt 13 = .ok (.aconst_null, 1) := by decide +kernel
theorem dX7_rollerAt_14 : decode cX7_rollerAt 14 = .ok (.goto 9, 3) := by decide +kernel
theorem dX7_rollerAt_17 : decode cX7_rollerAt 17 = .ok (.aload_n 0, 1) := by decide +kernel
theorem dX7_rollerAt_18 : decode cX7_rollerAt 18 = .ok (.getfield 17, 3) := by decide +kernel
theorem dX7_rollerAt_21 : decode cX7_rollerAt 21 = .ok (.iload_n 1, 1) := by decide +kernel
theorem dX7_rollerAt_22 : decode cX7_rollerAt 22 = .ok (.aaload, 1) := by decide +kernel
theorem dX7_rollerAt_23 : decode cX7_rollerAt 23 = .ok (.astore_n 2, 1) := by decide +kernel
theorem dX7_rollerAt_24 : decode cX7_rollerAt 24 = .ok (.aload_n 2, 1) := by decide +kernel
theorem dX7_rollerAt_25 : decode cX7_rollerAt 25 = .ok (.ifnonnull 13, 3) := by decide +kernel
theorem dX7_rollerAt_28 : decode cX7_rollerAt 28 = .ok (.new 70, 3) := by decide +kernel
theorem dX7_rollerAt_31 : decode cX7_rollerAt 31 = .ok (.dup, 1) := by decide +kernel
theorem dX7_rollerAt_32 : decode cX7_rollerAt 32 = .ok (.ldc 251, 2) := by decide +kernel
theorem dX7_rollerAt_34 : decode cX7_rollerAt 34 = .ok (.invokespecial 74, 3) := by decide +kernel
theorem dX7_rollerAt_37 : decode cX7_rollerAt 37 = .ok (.athrow, 1) := by decide +kernel
theorem dX7_rollerAt_38 : decode cX7_rollerAt 38 = .ok (.aload_n 2, 1) := by decide +kernel
theorem dX7_rollerAt_39 : decode cX7_rollerAt 39 = .ok (.areturn, 1) := by decide +kernel
theorem dX7_lotAt_0 : decode cX7_lotAt 0 = .ok (.iload_n 1, 1) := by decide +kernel
theorem dX7_lotAt_1 : decode cX7_lotAt 1 = .ok (.ifCond .lt 12, 3) := by decide +kernel
theorem dX7_lotAt_4 : decode cX7_lotAt 4 = .ok (.iload_n 1, 1) := by decide +kernel
theorem dX7_lotAt_5 : decode cX7_lotAt 5 = .ok (.aload_n 0, 1) := by decide +kernel
theorem dX7_lotAt_6 : decode cX7_lotAt 6 = .ok (.getfield 23, 3) := by decide +kernel
theorem dX7_lotAt_9 : decode cX7_lotAt 9 = .ok (.arraylength, 1) := by decide +kernel
theorem dX7_lotAt_10 : decode cX7_lotAt 10 = .ok (.if_icmp .lt 7, 3) := by decide +kernel
theorem dX7_lotAt_13 : decode cX7_lotAt 13 = .ok (.aconst_null, 1) := by decide +kernel
theorem dX7_lotAt_14 : decode cX7_lotAt 14 = .ok (.goto 9, 3) := by decide +kernel
theorem dX7_lotAt_17 : decode cX7_lotAt 17 = .ok (.aload_n 0, 1) := by decide +kernel
theorem dX7_lotAt_18 : decode cX7_lotAt 18 = .ok (.getfield 23, 3) := by decide +kernel
theorem dX7_lotAt_21 : decode cX7_lotAt 21 = .ok (.iload_n 1, 1) := by decide +kernel
theorem dX7_lotAt_22 : decode cX7_lotAt 22 = .ok (.aaload, 1) := by decide +kernel
theorem dX7_lotAt_23 : decode cX7_lotAt 23 = .ok (.astore_n 2, 1) := by decide +kernel
theorem dX7_lotAt_24 : decode cX7_lotAt 24 = .ok (.aload_n 2, 1) := by decide +kernel
theorem dX7_lotAt_25 : decode cX7_lotAt 25 = .ok (.ifnonnull 13, 3) := by decide +kernel
theorem dX7_lotAt_28 : decode cX7_lotAt 28 = .ok (.new 70, 3) := by decide +kernel
theorem dX7_lotAt_31 : decode cX7_lotAt 31 = .ok (.dup, 1) := by decide +kernel
theorem dX7_lotAt_32 : decode cX7_lotAt 32 = .ok (.ldc 253, 2) := by decide +kernel
theorem dX7_lotAt_34 : decode cX7_lotAt 34 = .ok (.invokespecial 74, 3) := by decide +kernel
theorem dX7_lotAt_37 : decode cX7_lotAt 37 = .ok (.athrow, 1) := by decide +kernel
theorem dX7_lotAt_38 : decode cX7_lotAt 38 = .ok (.aload_n 2, 1) := by decide +kernel
theorem dX7_lotAt_39 : decode cX7_lotAt 39 = .ok (.areturn, 1) := by decide +kernel
theorem dX7_roomAt_0 : decode cX7_roomAt 0 = .ok (.iload_n 1, 1) := by decide +kernel
theorem dX7_roomAt_1 : decode cX7_roomAt 1 = .ok (.ifCond .lt 12, 3) := by decide +kernel
theorem dX7_roomAt_4 : decode cX7_roomAt 4 = .ok (.iload_n 1, 1) := by decide +kernel
theorem dX7_roomAt_5 : decode cX7_roomAt 5 = .ok (.aload_n 0, 1) := by decide +kernel
theorem dX7_roomAt_6 : decode cX7_roomAt 6 = .ok (.getfield 29, 3) := by decide +kernel
theorem dX7_roomAt_9 : decode cX7_roomAt 9 = .ok (.arraylength, 1) := by decide +kernel
theorem dX7_roomAt_10 : decode cX7_roomAt 10 = .ok (.if_icmp .lt 7, 3) := by decide +kernel
theorem dX7_roomAt_13 : decode cX7_roomAt 13 = .ok (.aconst_null, 1) := by decide +kernel
theorem dX7_roomAt_14 : decode cX7_roomAt 14 = .ok (.goto 9, 3) := by decide +kernel
theorem dX7_roomAt_17 : decode cX7_roomAt 17 = .ok (.aload_n 0, 1) := by decide +kernel
theorem dX7_roomAt_18 : decode cX7_roomAt 18 = .ok (.getfield 29, 3) := by decide +kernel
theorem dX7_roomAt_21 : decode cX7_roomAt 21 = .ok (.iload_n 1, 1) := by decide +kernel
theorem dX7_roomAt_22 : decode cX7_roomAt 22 = .ok (.aaload, 1) := by decide +kernel
theorem dX7_roomAt_23 : decode cX7_roomAt 23 = .ok (.astore_n 2, 1) := by decide +kernel
theorem dX7_roomAt_24 : decode cX7_roomAt 24 = .ok (.aload_n 2, 1) := by decide +kernel
theorem dX7_roomAt_25 : decode cX7_roomAt 25 = .ok (.ifnonnull 13, 3) := by decide +kernel
theorem dX7_roomAt_28 : decode cX7_roomAt 28 = .ok (.new 70, 3) := by decide +kernel
theorem dX7_roomAt_31 : decode cX7_roomAt 31 = .ok (.dup, 1) := by decide +kernel
theorem dX7_roomAt_32 : decode cX7_roomAt 32 = .ok (.ldc 255, 2) := by decide +kernel
theorem dX7_roomAt_34 : decode cX7_roomAt 34 = .ok (.invokespecial 74, 3) := by decide +kernel
theorem dX7_roomAt_37 : decode cX7_roomAt 37 = .ok (.athrow, 1) := by decide +kernel
theorem dX7_roomAt_38 : decode cX7_roomAt 38 = .ok (.aload_n 2, 1) := by decide +kernel
theorem dX7_roomAt_39 : decode cX7_roomAt 39 = .ok (.areturn, 1) := by decide +kernel
theorem dX7_wallAt_0 : decode cX7_wallAt 0 = .ok (.iload_n 1, 1) := by decide +kernel
theorem dX7_wallAt_1 : decode cX7_wallAt 1 = .ok (.ifCond .lt 12, 3) := by decide +kernel
theorem dX7_wallAt_4 : decode cX7_wallAt 4 = .ok (.iload_n 1, 1) := by decide +kernel
theorem dX7_wallAt_5 : decode cX7_wallAt 5 = .ok (.aload_n 0, 1) := by decide +kernel
theorem dX7_wallAt_6 : decode cX7_wallAt 6 = .ok (.getfield 257, 3) := by decide +kernel
theorem dX7_wallAt_9 : decode cX7_wallAt 9 = .ok (.arraylength, 1) := by decide +kernel
theorem dX7_wallAt_10 : decode cX7_wallAt 10 = .ok (.if_icmp .lt 7, 3) := by decide +kernel
theorem dX7_wallAt_13 : decode cX7_wallAt 13 = .ok (.aconst_null, 1) := by decide +kernel
theorem dX7_wallAt_14 : decode cX7_wallAt 14 = .ok (.goto 9, 3) := by decide +kernel
theorem dX7_wallAt_17 : decode cX7_wallAt 17 = .ok (.aload_n 0, 1) := by decide +kernel
theorem dX7_wallAt_18 : decode cX7_wallAt 18 = .ok (.getfield 257, 3) := by decide +kernel
theorem dX7_wallAt_21 : decode cX7_wallAt 21 = .ok (.iload_n 1, 1) := by decide +kernel
theorem dX7_wallAt_22 : decode cX7_wallAt 22 = .ok (.aaload, 1) := by decide +kernel
theorem dX7_wallAt_23 : decode cX7_wallAt 23 = .ok (.astore_n 2, 1) := by decide +kernel
theorem dX7_wallAt_24 : decode cX7_wallAt 24 = .ok (.aload_n 2, 1) := by decide +kernel
theorem dX7_wallAt_25 : decode cX7_wallAt 25 = .ok (.ifnonnull 14, 3) := by decide +kernel
theorem dX7_wallAt_28 : decode cX7_wallAt 28 = .ok (.new 70, 3) := by decide +kernel
theorem dX7_wallAt_31 : decode cX7_wallAt 31 = .ok (.dup, 1) := by decide +kernel
theorem dX7_wallAt_32 : decode cX7_wallAt 32 = .ok (.ldc_w 261, 3) := by decide +kernel
theorem dX7_wallAt_35 : decode cX7_wallAt 35 = .ok (.invokespecial 74, 3) := by decide +kernel
theorem dX7_wallAt_38 : decode cX7_wallAt 38 = .ok (.athrow, 1) := by decide +kernel
theorem dX7_wallAt_39 : decode cX7_wallAt 39 = .ok (.aload_n 2, 1) := by decide +kernel
theorem dX7_wallAt_40 : decode cX7_wallAt 40 = .ok (.areturn, 1) := by decide +kernel
theorem dX7_requireWithin_0 : decode cX7_requireWithin 0 = .ok (.iload_n 0, 1) := by decide +kernel
theorem dX7_requireWithin_1 : decode cX7_requireWithin 1 = .ok (.iload_n 1, 1) := by decide +kernel
theorem dX7_requireWithin_2 : decode cX7_requireWithin 2 = .ok (.if_icmp .lt 8, 3) := by decide +kernel
theorem dX7_requireWithin_5 : decode cX7_requireWithin 5 = .ok (.iload_n 0, 1) := by decide +kernel
theorem dX7_requireWithin_6 : decode cX7_requireWithin 6 = .ok (.iload_n 2, 1) := by decide +kernel
theorem dX7_requireWithin_7 : decode cX7_requireWithin 7 = .ok (.if_icmp .le 14, 3) := by decide +kernel
theorem dX7_requireWithin_10 : decode cX7_requireWithin 10 = .ok (.new 38, 3) := by decide +kernel
theorem dX7_requireWithin_13 : decode cX7_requireWithin 13 = .ok (.dup, 1) := by decide +kernel
theorem dX7_requireWithin_14 : decode cX7_requireWithin 14 = .ok (.ldc_w 263, 3) := by decide +kernel
theorem dX7_requireWithin_17 : decode cX7_requireWithin 17 = .ok (.invokespecial 42, 3) := by decide +kernel
theorem dX7_requireWithin_20 : decode cX7_requireWithin 20 = .ok (.athrow, 1) := by decide +kernel
theorem dX7_requireWithin_21 : decode cX7_requireWithin 21 = .ok (.return_, 1) := by decide +kernel
theorem dX7_lose_0 : decode cX7_lose 0 = .ok (.aload_n 0, 1) := by decide +kernel
theorem dX7_lose_1 : decode cX7_lose 1 = .ok (.dup, 1) := by decide +kernel
theorem dX7_lose_2 : decode cX7_lose 2 = .ok (.getfield 246, 3) := by decide +kernel
theorem dX7_lose_5 : decode cX7_lose 5 = .ok (.iload_n 2, 1) := by decide +kernel
theorem dX7_lose_6 : decode cX7_lose 6 = .ok (.aload_n 1, 1) := by decide +kernel
theorem dX7_lose_7 : decode cX7_lose 7 = .ok (.getfield 135, 3) := by decide +kernel
theorem dX7_lose_10 : decode cX7_lose 10 = .ok (.imul, 1) := by decide +kernel
theorem dX7_lose_11 : decode cX7_lose 11 = .ok (.iadd, 1) := by decide +kernel
theorem dX7_lose_12 : decode cX7_lose 12 = .ok (.putfield 246, 3) := by decide +kernel
theorem dX7_lose_15 : decode cX7_lose 15 = .ok (.return_, 1) := by decide +kernel
theorem dX7_wrapped_0 : decode cX7_wrapped 0 = .ok (.iload_n 1, 1) := by decide +kernel
theorem dX7_wrapped_1 : decode cX7_wrapped 1 = .ok (.iconst 1, 1) := by decide +kernel
theorem dX7_wrapped_2 : decode cX7_wrapped 2 = .ok (.if_icmp .ge 5, 3) := by decide +kernel
theorem dX7_wrapped_5 : decode cX7_wrapped 5 = .ok (.iconst 0, 1) := by decide +kernel
theorem dX7_wrapped_6 : decode cX7_wrapped 6 = .ok (.ireturn, 1) := by decide +kernel
theorem dX7_wrapped_7 : decode cX7_wrapped 7 = .ok (.iload_n 0, 1) := by decide +kernel
theorem dX7_wrapped_8 : decode cX7_wrapped 8 = .ok (.iload_n 1, 1) := by decide +kernel
theorem dX7_wrapped_9 : decode cX7_wrapped 9 = .ok (.irem, 1) := by decide +kernel
theorem dX7_wrapped_10 : decode cX7_wrapped 10 = .ok (.istore_n 2, 1) := by decide +kernel
theorem dX7_wrapped_11 : decode cX7_wrapped 11 = .ok (.iload_n 2, 1) := by decide +kernel
theorem dX7_wrapped_12 : decode cX7_wrapped 12 = .ok (.ifCond .ge 9, 3) := by decide +kernel
theorem dX7_wrapped_15 : decode cX7_wrapped 15 = .ok (.iload_n 2, 1) := by decide +kernel
theorem dX7_wrapped_16 : decode cX7_wrapped 16 = .ok (.iload_n 1, 1) := by decide +kernel
theorem dX7_wrapped_17 : decode cX7_wrapped 17 = .ok (.iadd, 1) := by decide +kernel
theorem dX7_wrapped_18 : decode cX7_wrapped 18 = .ok (.goto 4, 3) := by decide +kernel
theorem dX7_wrapped_21 : decode cX7_wrapped 21 = .ok (.iload_n 2, 1) := by decide +kernel
theorem dX7_wrapped_22 : decode cX7_wrapped 22 = .ok (.ireturn, 1) := by decide +kernel
theorem dJ9_max_7cf53_0 : decode cJ9_max_7cf53 0 = .ok (.iload_n 0, 1) := by decide +kernel
theorem dJ9_max_7cf53_1 : decode cJ9_max_7cf53 1 = .ok (.iload_n 1, 1) := by decide +kernel
theorem dJ9_max_7cf53_2 : decode cJ9_max_7cf53 2 = .ok (.if_icmp .lt 7, 3) := by decide +kernel
theorem dJ9_max_7cf53_5 : decode cJ9_max_7cf53 5 = .ok (.iload_n 0, 1) := by decide +kernel
theorem dJ9_max_7cf53_6 : decode cJ9_max_7cf53 6 = .ok (.goto 4, 3) := by decide +kernel
theorem dJ9_max_7cf53_9 : decode cJ9_max_7cf53 9 = .ok (.iload_n 1, 1) := by decide +kernel
theorem dJ9_max_7cf53_10 : decode cJ9_max_7cf53 10 = .ok (.ireturn, 1) := by decide +kernel
theorem dL_draw_0 : decode cL_draw 0 = .ok (.iload_n 1, 1) := by decide +kernel
theorem dL_draw_1 : decode cL_draw 1 = .ok (.aload_n 0, 1) := by decide +kernel
theorem dL_draw_2 : decode cL_draw 2 = .ok (.arraylength, 1) := by decide +kernel
theorem dL_draw_3 : decode cL_draw 3 = .ok (.if_icmp .ge 9, 3) := by decide +kernel
theorem dL_draw_6 : decode cL_draw 6 = .ok (.aload_n 0, 1) := by decide +kernel
theorem dL_draw_7 : decode cL_draw 7 = .ok (.iload_n 1, 1) := by decide +kernel
theorem dL_draw_8 : decode cL_draw 8 = .ok (.iaload, 1) := by decide +kernel
theorem dL_draw_9 : decode cL_draw 9 = .ok (.goto 11, 3) := by decide +kernel
theorem dL_draw_12 : decode cL_draw 12 = .ok (.ldc 7, 2) := by decide +kernel
theorem dL_draw_14 : decode cL_draw 14 = .ok (.iload_n 1, 1) := by decide +kernel
theorem dL_draw_15 : decode cL_draw 15 = .ok (.imul, 1) := by decide +kernel
theorem dL_draw_16 : decode cL_draw 16 = .ok (.sipush 11783, 3) := by decide +kernel
theorem dL_draw_19 : decode cL_draw 19 = .ok (.iadd, 1) := by decide +kernel
theorem dL_draw_20 : decode cL_draw 20 = .ok (.ldc 8, 2) := by decide +kernel
theorem dL_draw_22 : decode cL_draw 22 = .ok (.iand, 1) := by decide +kernel
theorem dL_draw_23 : decode cL_draw 23 = .ok (.ireturn, 1) := by decide +kernel
theorem dL_pattern_0 : decode cL_pattern 0 = .ok (.aload_n 0, 1) := by decide +kernel
theorem dL_pattern_1 : decode cL_pattern 1 = .ok (.iload_n 1, 1) := by decide +kernel
theorem dL_pattern_2 : decode cL_pattern 2 = .ok (.iload_n 2, 1) := by decide +kernel
theorem dL_pattern_3 : decode cL_pattern 3 = .ok (.iload_n 3, 1) := by decide +kernel
theorem dL_pattern_4 : decode cL_pattern 4 = .ok (.invokevirtual 9, 3) := by decide +kernel
theorem dL_pattern_7 : decode cL_pattern 7 = .ok (.i2l, 1) := by decide +kernel
theorem dL_pattern_8 : decode cL_pattern 8 = .ok (.lreturn, 1) := by decide +kernel
theorem dL_pattern_9 : decode cL_pattern 9 = .ok (.astore 4, 2) := by decide +kernel
theorem dL_pattern_11 : decode cL_pattern 11 = .ok (.ldc2_w 17, 3) := by decide +kernel
theorem dL_pattern_14 : decode cL_pattern 14 = .ok (.lreturn, 1) := by decide +kernel
theorem dL_pattern_15 : decode cL_pattern 15 = .ok (.astore 4, 2) := by decide +kernel
theorem dL_pattern_17 : decode cL_pattern 17 = .ok (.ldc2_w 21, 3) := by decide +kernel
theorem dL_pattern_20 : decode cL_pattern 20 = .ok (.lreturn, 1) := by decide +kernel
theorem dL_paint_0 : decode cL_paint 0 = .ok (.aload_n 0, 1) := by decide +kernel
theorem dL_paint_1 : decode cL_paint 1 = .ok (.iload_n 1, 1) := by decide +kernel
theorem dL_paint_2 : decode cL_paint 2 = .ok (.iload_n 2, 1) := by decide +kernel
theorem dL_paint_3 : decode cL_paint 3 = .ok (.iload_n 3, 1) := by decide +kernel
theorem dL_paint_4 : decode cL_paint 4 = .ok (.iload 4, 2) := by decide +kernel
theorem dL_paint_6 : decode cL_paint 6 = .ok (.invokevirtual 23, 3) := by decide +kernel
theorem dL_paint_9 : decode cL_paint 9 = .ok (.i2l, 1) := by decide +kernel
theorem dL_paint_10 : decode cL_paint 10 = .ok (.lreturn, 1) := by decide +kernel
theorem dL_paint_11 : decode cL_paint 11 = .ok (.astore 5, 2) := by decide +kernel
theorem dL_paint_13 : decode cL_paint 13 = .ok (.ldc2_w 29, 3) := by decide +kernel
theorem dL_paint_16 : decode cL_paint 16 = .ok (.lreturn, 1) := by decide +kernel
theorem dL_paint_17 : decode cL_paint 17 = .ok (.astore 5, 2) := by decide +kernel
theorem dL_paint_19 : decode cL_paint 19 = .ok (.ldc2_w 17, 3) := by decide +kernel
theorem dL_paint_22 : decode cL_paint 22 = .ok (.lreturn, 1) := by decide +kernel
theorem dL_colour_0 : decode cL_colour 0 = .ok (.aload_n 0, 1) := by decide +kernel
theorem dL_colour_1 : decode cL_colour 1 = .ok (.iload_n 1, 1) := by decide +kernel
theorem dL_colour_2 : decode cL_colour 2 = .ok (.iload_n 2, 1) := by decide +kernel
theorem dL_colour_3 : decode cL_colour 3 = .ok (.iload_n 3, 1) := by decide +kernel
theorem dL_colour_4 : decode cL_colour 4 = .ok (.invokevirtual 31, 3) := by decide +kernel
theorem dL_colour_7 : decode cL_colour 7 = .ok (.i2l, 1) := by decide +kernel
theorem dL_colour_8 : decode cL_colour 8 = .ok (.lreturn, 1) := by decide +kernel
theorem dL_colour_9 : decode cL_colour 9 = .ok (.astore 4, 2) := by decide +kernel
theorem dL_colour_11 : decode cL_colour 11 = .ok (.ldc2_w 29, 3) := by decide +kernel
theorem dL_colour_14 : decode cL_colour 14 = .ok (.lreturn, 1) := by decide +kernel
theorem dL_repeat_0 : decode cL_repeat 0 = .ok (.aload_n 0, 1) := by decide +kernel
theorem dL_repeat_1 : decode cL_repeat 1 = .ok (.iload_n 1, 1) := by decide +kernel
theorem dL_repeat_2 : decode cL_repeat 2 = .ok (.iload_n 2, 1) := by decide +kernel
theorem dL_repeat_3 : decode cL_repeat 3 = .ok (.invokevirtual 34, 3) := by decide +kernel
theorem dL_repeat_6 : decode cL_repeat 6 = .ok (.i2l, 1) := by decide +kernel
theorem dL_repeat_7 : decode cL_repeat 7 = .ok (.lreturn, 1) := by decide +kernel
theorem dL_repeat_8 : decode cL_repeat 8 = .ok (.astore_n 3, 1) := by decide +kernel
theorem dL_repeat_9 : decode cL_repeat 9 = .ok (.ldc2_w 29, 3) := by decide +kernel
theorem dL_repeat_12 : decode cL_repeat 12 = .ok (.lreturn, 1) := by decide +kernel
theorem dL_repeatAnew_0 : decode cL_repeatAnew 0 = .ok (.aload_n 0, 1) := by decide +kernel
theorem dL_repeatAnew_1 : decode cL_repeatAnew 1 = .ok (.iload_n 1, 1) := by decide +kernel
theorem dL_repeatAnew_2 : decode cL_repeatAnew 2 = .ok (.iload_n 2, 1) := by decide +kernel
theorem dL_repeatAnew_3 : decode cL_repeatAnew 3 = .ok (.invokevirtual 38, 3) := by decide +kernel
theorem dL_repeatAnew_6 : decode cL_repeatAnew 6 = .ok (.i2l, 1) := by decide +kernel
theorem dL_repeatAnew_7 : decode cL_repeatAnew 7 = .ok (.lreturn, 1) := by decide +kernel
theorem dL_repeatAnew_8 : decode cL_repeatAnew 8 = .ok (.astore_n 3, 1) := by decide +kernel
theorem dL_repeatAnew_9 : decode cL_repeatAnew 9 = .ok (.ldc2_w 29, 3) := by decide +kernel
theorem dL_repeatAnew_12 : decode cL_repeatAnew 12 = .ok (.lreturn, 1) := by decide +kernel
theorem dL_roller_0 : decode cL_roller 0 = .ok (.aload_n 0, 1) := by decide +kernel
theorem dL_roller_1 : decode cL_roller 1 = .ok (.iload_n 1, 1) := by decide +kernel
theorem dL_roller_2 : decode cL_roller 2 = .ok (.iload_n 2, 1) := by decide +kernel
theorem dL_roller_3 : decode cL_roller 3 = .ok (.invokevirtual 41, 3) := by decide +kernel
theorem dL_roller_6 : decode cL_roller 6 = .ok (.i2l, 1) := by decide +kernel
theorem dL_roller_7 : decode cL_roller 7 = .ok (.lreturn, 1) := by decide +kernel
theorem dL_roller_8 : decode cL_roller 8 = .ok (.astore_n 3, 1) := by decide +kernel
theorem dL_roller_9 : decode cL_roller 9 = .ok (.ldc2_w 29, 3) := by decide +kernel
theorem dL_roller_12 : decode cL_roller 12 = .ok (.lreturn, 1) := by decide +kernel
theorem dL_roller_13 : decode cL_roller 13 = .ok (.astore_n 3, 1) := by decide +kernel
theorem dL_roller_14 : decode cL_roller 14 = .ok (.ldc2_w 17, 3) := by decide +kernel
theorem dL_roller_17 : decode cL_roller 17 = .ok (.lreturn, 1) := by decide +kernel
theorem dL_roller_18 : decode cL_roller 18 = .ok (.astore_n 3, 1) := by decide +kernel
theorem dL_roller_19 : decode cL_roller 19 = .ok (.ldc2_w 21, 3) := by decide +kernel
theorem dL_roller_22 : decode cL_roller 22 = .ok (.lreturn, 1) := by decide +kernel
theorem dL_lot_0 : decode cL_lot 0 = .ok (.aload_n 0, 1) := by decide +kernel
theorem dL_lot_1 : decode cL_lot 1 = .ok (.iload_n 1, 1) := by decide +kernel
theorem dL_lot_2 : decode cL_lot 2 = .ok (.iload_n 2, 1) := by decide +kernel
theorem dL_lot_3 : decode cL_lot 3 = .ok (.iload_n 3, 1) := by decide +kernel
theorem dL_lot_4 : decode cL_lot 4 = .ok (.iload 4, 2) := by decide +kernel
theorem dL_lot_6 : decode cL_lot 6 = .ok (.invokevirtual 45, 3) := by decide +kernel
theorem dL_lot_9 : decode cL_lot 9 = .ok (.i2l, 1) := by decide +kernel
theorem dL_lot_10 : decode cL_lot 10 = .ok (.lreturn, 1) := by decide +kernel
theorem dL_lot_11 : decode cL_lot 11 = .ok (.astore 5, 2) := by decide +kernel
theorem dL_lot_13 : decode cL_lot 13 = .ok (.ldc2_w 29, 3) := by decide +kernel
theorem dL_lot_16 : decode cL_lot 16 = .ok (.lreturn, 1) := by decide +kernel
theorem dL_lot_17 : decode cL_lot 17 = .ok (.astore 5, 2) := by decide +kernel
theorem dL_lot_19 : decode cL_lot 19 = .ok (.ldc2_w 17, 3) := by decide +kernel
theorem dL_lot_22 : decode cL_lot 22 = .ok (.lreturn, 1) := by decide +kernel
theorem dL_lot_23 : decode cL_lot 23 = .ok (.astore 5, 2) := by decide +kernel
theorem dL_lot_25 : decode cL_lot 25 = .ok (.ldc2_w 21, 3) := by decide +kernel
theorem dL_lot_28 : decode cL_lot 28 = .ok (.lreturn, 1) := by decide +kernel
theorem dL_lotOf_0 : decode cL_lotOf 0 = .ok (.aload_n 0, 1) := by decide +kernel
theorem dL_lotOf_1 : decode cL_lotOf 1 = .ok (.iload_n 1, 1) := by decide +kernel
theorem dL_lotOf_2 : decode cL_lotOf 2 = .ok (.iload_n 2, 1) := by decide +kernel
theorem dL_lotOf_3 : decode cL_lotOf 3 = .ok (.invokevirtual 48, 3) := by decide +kernel
theorem dL_lotOf_6 : decode cL_lotOf 6 = .ok (.i2l, 1) := by decide +kernel
theorem dL_lotOf_7 : decode cL_lotOf 7 = .ok (.lreturn, 1) := by decide +kernel
theorem dL_lotOf_8 : decode cL_lotOf 8 = .ok (.astore_n 3, 1) := by decide +kernel
theorem dL_lotOf_9 : decode cL_lotOf 9 = .ok (.ldc2_w 29, 3) := by decide +kernel
theorem dL_lotOf_12 : decode cL_lotOf 12 = .ok (.lreturn, 1) := by decide +kernel
theorem dL_lotOf_13 : decode cL_lotOf 13 = .ok (.astore_n 3, 1) := by decide +kernel
theorem dL_lotOf_14 : decode cL_lotOf 14 = .ok (.ldc2_w 17, 3) := by decide +kernel
theorem dL_lotOf_17 : decode cL_lotOf 17 = .ok (.lreturn, 1) := by decide +kernel
theorem dL_wall_0 : decode cL_wall 0 = .ok (.aload_n 0, 1) := by decide +kernel
theorem dL_wall_1 : decode cL_wall 1 = .ok (.iload_n 1, 1) := by decide +kernel
theorem dL_wall_2 : decode cL_wall 2 = .ok (.iload_n 2, 1) := by decide +kernel
theorem dL_wall_3 : decode cL_wall 3 = .ok (.iload_n 3, 1) := by decide +kernel
theorem dL_wall_4 : decode cL_wall 4 = .ok (.invokevirtual 51, 3) := by decide +kernel
theorem dL_wall_7 : decode cL_wall 7 = .ok (.i2l, 1) := by decide +kernel
theorem dL_wall_8 : decode cL_wall 8 = .ok (.lreturn, 1) := by decide +kernel
theorem dL_wall_9 : decode cL_wall 9 = .ok (.astore 4, 2) := by decide +kernel
theorem dL_wall_11 : decode cL_wall 11 = .ok (.ldc2_w 29, 3) := by decide +kernel
theorem dL_wall_14 : decode cL_wall 14 = .ok (.lreturn, 1) := by decide +kernel
theorem dL_wall_15 : decode cL_wall 15 = .ok (.astore 4, 2) := by decide +kernel
theorem dL_wall_17 : decode cL_wall 17 = .ok (.ldc2_w 17, 3) := by decide +kernel
theorem dL_wall_20 : decode cL_wall 20 = .ok (.lreturn, 1) := by decide +kernel
theorem dL_wall_21 : decode cL_wall 21 = .ok (.astore 4, 2) := by decide +kernel
theorem dL_wall_23 : decode cL_wall 23 = .ok (.ldc2_w 21, 3) := by decide +kernel
theorem dL_wall_26 : decode cL_wall 26 = .ok (.lreturn, 1) := by decide +kernel
theorem dL_hang_0 : decode cL_hang 0 = .ok (.aload_n 0, 1) := by decide +kernel
theorem dL_hang_1 : decode cL_hang 1 = .ok (.iload_n 1, 1) := by decide +kernel
theorem dL_hang_2 : decode cL_hang 2 = .ok (.iload_n 2, 1) := by decide +kernel
theorem dL_hang_3 : decode cL_hang 3 = .ok (.invokevirtual 54, 3) := by decide +kernel
theorem dL_hang_6 : decode cL_hang 6 = .ok (.i2l, 1) := by decide +kernel
theorem dL_hang_7 : decode cL_hang 7 = .ok (.lreturn, 1) := by decide +kernel
theorem dL_hang_8 : decode cL_hang 8 = .ok (.astore_n 3, 1) := by decide +kernel
theorem dL_hang_9 : decode cL_hang 9 = .ok (.ldc2_w 29, 3) := by decide +kernel
theorem dL_hang_12 : decode cL_hang 12 = .ok (.lreturn, 1) := by decide +kernel
theorem dL_hang_13 : decode cL_hang 13 = .ok (.astore_n 3, 1) := by decide +kernel
theorem dL_hang_14 : decode cL_hang 14 = .ok (.ldc2_w 21, 3) := by decide +kernel
theorem dL_hang_17 : decode cL_hang 17 = .ok (.lreturn, 1) := by decide +kernel
theorem dL_lengthen_0 : decode cL_lengthen 0 = .ok (.aload_n 0, 1) := by decide +kernel
theorem dL_lengthen_1 : decode cL_lengthen 1 = .ok (.iload_n 1, 1) := by decide +kernel
theorem dL_lengthen_2 : decode cL_lengthen 2 = .ok (.iload_n 2, 1) := by decide +kernel
theorem dL_lengthen_3 : decode cL_lengthen 3 = .ok (.iload_n 3, 1) := by decide +kernel
theorem dL_lengthen_4 : decode cL_lengthen 4 = .ok (.invokevirtual 57, 3) := by decide +kernel
theorem dL_lengthen_7 : decode cL_lengthen 7 = .ok (.i2l, 1) := by decide +kernel
theorem dL_lengthen_8 : decode cL_lengthen 8 = .ok (.lreturn, 1) := by decide +kernel
theorem dL_lengthen_9 : decode cL_lengthen 9 = .ok (.astore 4, 2) := by decide +kernel
theorem dL_lengthen_11 : decode cL_lengthen 11 = .ok (.ldc2_w 29, 3) := by decide +kernel
theorem dL_lengthen_14 : decode cL_lengthen 14 = .ok (.lreturn, 1) := by decide +kernel
theorem dL_lengthen_15 : decode cL_lengthen 15 = .ok (.astore 4, 2) := by decide +kernel
theorem dL_lengthen_17 : decode cL_lengthen 17 = .ok (.ldc2_w 17, 3) := by decide +kernel
theorem dL_lengthen_20 : decode cL_lengthen 20 = .ok (.lreturn, 1) := by decide +kernel
theorem dL_lengthen_21 : decode cL_lengthen 21 = .ok (.astore 4, 2) := by decide +kernel
theorem dL_lengthen_23 : decode cL_lengthen 23 = .ok (.ldc2_w 21, 3) := by decide +kernel
theorem dL_lengthen_26 : decode cL_lengthen 26 = .ok (.lreturn, 1) := by decide +kernel
theorem dL_strip_0 : decode cL_strip 0 = .ok (.aload_n 0, 1) := by decide +kernel
theorem dL_strip_1 : decode cL_strip 1 = .ok (.iload_n 1, 1) := by decide +kernel
theorem dL_strip_2 : decode cL_strip 2 = .ok (.invokevirtual 60, 3) := by decide +kernel
theorem dL_strip_5 : decode cL_strip 5 = .ok (.i2l, 1) := by decide +kernel
theorem dL_strip_6 : decode cL_strip 6 = .ok (.lreturn, 1) := by decide +kernel
theorem dL_strip_7 : decode cL_strip 7 = .ok (.astore_n 2, 1) := by decide +kernel
theorem dL_strip_8 : decode cL_strip 8 = .ok (.ldc2_w 29, 3) := by decide +kernel
theorem dL_strip_11 : decode cL_strip 11 = .ok (.lreturn, 1) := by decide +kernel
theorem dL_strip_12 : decode cL_strip 12 = .ok (.astore_n 2, 1) := by decide +kernel
theorem dL_strip_13 : decode cL_strip 13 = .ok (.ldc2_w 21, 3) := by decide +kernel
theorem dL_strip_16 : decode cL_strip 16 = .ok (.lreturn, 1) := by decide +kernel
theorem dL_room_0 : decode cL_room 0 = .ok (.aload_n 0, 1) := by decide +kernel
theorem dL_room_1 : decode cL_room 1 = .ok (.iload_n 1, 1) := by decide +kernel
theorem dL_room_2 : decode cL_room 2 = .ok (.iload_n 2, 1) := by decide +kernel
theorem dL_room_3 : decode cL_room 3 = .ok (.invokevirtual 64, 3) := by decide +kernel
theorem dL_room_6 : decode cL_room 6 = .ok (.i2l, 1) := by decide +kernel
theorem dL_room_7 : decode cL_room 7 = .ok (.lreturn, 1) := by decide +kernel
theorem dL_room_8 : decode cL_room 8 = .ok (.astore_n 3, 1) := by decide +kernel
theorem dL_room_9 : decode cL_room 9 = .ok (.ldc2_w 29, 3) := by decide +kernel
theorem dL_room_12 : decode cL_room 12 = .ok (.lreturn, 1) := by decide +kernel
theorem dL_room_13 : decode cL_room 13 = .ok (.astore_n 3, 1) := by decide +kernel
theorem dL_room_14 : decode cL_room 14 = .ok (.ldc2_w 17, 3) := by decide +kernel
theorem dL_room_17 : decode cL_room 17 = .ok (.lreturn, 1) := by decide +kernel
theorem dL_cut_0 : decode cL_cut 0 = .ok (.aload_n 0, 1) := by decide +kernel
theorem dL_cut_1 : decode cL_cut 1 = .ok (.iload_n 1, 1) := by decide +kernel
theorem dL_cut_2 : decode cL_cut 2 = .ok (.iload_n 2, 1) := by decide +kernel
theorem dL_cut_3 : decode cL_cut 3 = .ok (.iload_n 3, 1) := by decide +kernel
theorem dL_cut_4 : decode cL_cut 4 = .ok (.invokevirtual 67, 3) := by decide +kernel
theorem dL_cut_7 : decode cL_cut 7 = .ok (.i2l, 1) := by decide +kernel
theorem dL_cut_8 : decode cL_cut 8 = .ok (.lreturn, 1) := by decide +kernel
theorem dL_cut_9 : decode cL_cut 9 = .ok (.astore 4, 2) := by decide +kernel
theorem dL_cut_11 : decode cL_cut 11 = .ok (.ldc2_w 29, 3) := by decide +kernel
theorem dL_cut_14 : decode cL_cut 14 = .ok (.lreturn, 1) := by decide +kernel
theorem dL_seen_0 : decode cL_seen 0 = .ok (.aload_n 0, 1) := by decide +kernel
theorem dL_seen_1 : decode cL_seen 1 = .ok (.iload_n 1, 1) := by decide +kernel
theorem dL_seen_2 : decode cL_seen 2 = .ok (.iload_n 2, 1) := by decide +kernel
theorem dL_seen_3 : decode cL_seen 3 = .ok (.iload_n 3, 1) := by decide +kernel
theorem dL_seen_4 : decode cL_seen 4 = .ok (.iload 4, 2) := by decide +kernel
theorem dL_seen_6 : decode cL_seen 6 = .ok (.invokevirtual 70, 3) := by decide +kernel
theorem dL_seen_9 : decode cL_seen 9 = .ok (.i2l, 1) := by decide +kernel
theorem dL_seen_10 : decode cL_seen 10 = .ok (.lreturn, 1) := by decide +kernel
theorem dL_seen_11 : decode cL_seen 11 = .ok (.astore 5, 2) := by decide +kernel
theorem dL_seen_13 : decode cL_seen 13 = .ok (.ldc2_w 29, 3) := by decide +kernel
theorem dL_seen_16 : decode cL_seen 16 = .ok (.lreturn, 1) := by decide +kernel
theorem dL_patternHolds_0 : decode cL_patternHolds 0 = .ok (.aload_n 0, 1) := by decide +kernel
theorem dL_patternHolds_1 : decode cL_patternHolds 1 = .ok (.iload_n 1, 1) := by decide +kernel
theorem dL_patternHolds_2 : decode cL_patternHolds 2 = .ok (.iconst 0, 1) := by decide +kernel
theorem dL_patternHolds_3 : decode cL_patternHolds 3 = .ok (.invokestatic 73, 3) := by decide +kernel
theorem dL_patternHolds_6 : decode cL_patternHolds 6 = .ok (.l2i, 1) := by decide +kernel
theorem dL_patternHolds_7 : decode cL_patternHolds 7 = .ok (.istore 4, 2) := by decide +kernel
theorem dL_patternHolds_9 : decode cL_patternHolds 9 = .ok (.aload_n 0, 1) := by decide +kernel
theorem dL_patternHolds_10 : decode cL_patternHolds 10 = .ok (.iload_n 1, 1) := by decide +kernel
theorem dL_patternHolds_11 : decode cL_patternHolds 11 = .ok (.iconst 1, 1) := by decide +kernel
theorem dL_patternHolds_12 : decode cL_patternHolds 12 = .ok (.invokestatic 73, 3) := by decide +kernel
theorem dL_patternHolds_15 : decode cL_patternHolds 15 = .ok (.l2i, 1) := by decide +kernel
theorem dL_patternHolds_16 : decode cL_patternHolds 16 = .ok (.istore 5, 2) := by decide +kernel
theorem dL_patternHolds_18 : decode cL_patternHolds 18 = .ok (.aload_n 0, 1) := by decide +kernel
theorem dL_patternHolds_19 : decode cL_patternHolds 19 = .ok (.iload_n 1, 1) := by decide +kernel
theorem dL_patternHolds_20 : decode cL_patternHolds 20 = .ok (.iconst 0, 1) := by decide +kernel
theorem dL_patternHolds_21 : decode cL_patternHolds 21 = .ok (.invokestatic 78, 3) := by decide +kernel
theorem dL_patternHolds_24 : decode cL_patternHolds 24 = .ok (.lstore 6, 2) := by decide +kernel
theorem dL_patternHolds_26 : decode cL_patternHolds 26 = .ok (.aload_n 0, 1) := by decide +kernel
theorem dL_patternHolds_27 : decode cL_patternHolds 27 = .ok (.iload_n 1, 1) := by decide +kernel
theorem dL_patternHolds_28 : decode cL_patternHolds 28 = .ok (.iconst 1, 1) := by decide +kernel
theorem dL_patternHolds_29 : decode cL_patternHolds 29 = .ok (.invokestatic 78, 3) := by decide +kernel
theorem dL_patternHolds_32 : decode cL_patternHolds 32 = .ok (.lstore 8, 2) := by decide +kernel
theorem dL_patternHolds_34 : decode cL_patternHolds 34 = .ok (.iload 4, 2) := by decide +kernel
theorem dL_patternHolds_36 : decode cL_patternHolds 36 = .ok (.iconst 1, 1) := by decide +kernel
theorem dL_patternHolds_37 : decode cL_patternHolds 37 = .ok (.if_icmp .lt 49, 3) := by decide +kernel
theorem dL_patternHolds_40 : decode cL_patternHolds 40 = .ok (.iload 5, 2) := by decide +kernel
theorem dL_patternHolds_42 : decode cL_patternHolds 42 = .ok (.iconst 1, 1) := by decide +kernel
theorem dL_patternHolds_43 : decode cL_patternHolds 43 = .ok (.if_icmp .lt 43, 3) := by decide +kernel
theorem dL_patternHolds_46 : decode cL_patternHolds 46 = .ok (.lload 6, 2) := by decide +kernel
theorem dL_patternHolds_48 : decode cL_patternHolds 48 = .ok (.lconst 1, 1) := by decide +kernel
theorem dL_patternHolds_49 : decode cL_patternHolds 49 = .ok (.lcmp, 1) := by decide +kernel
theorem dL_patternHolds_50 : decode cL_patternHolds 50 = .ok (.ifCond .lt 36, 3) := by decide +kernel
theorem dL_patternHolds_53 : decode cL_patternHolds 53 = .ok (.lload 8, 2) := by decide +kernel
theorem dL_patternHolds_55 : decode cL_patternHolds 55 = .ok (.lconst 1, 1) := by decide +kernel
theorem dL_patternHolds_56 : decode cL_patternHolds 56 = .ok (.lcmp, 1) := by decide +kernel
theorem dL_patternHolds_57 : decode cL_patternHolds 57 = .ok (.ifCond .lt 29, 3) := by decide +kernel
theorem dL_patternHolds_60 : decode cL_patternHolds 60 = .ok (.iload 4, 2) := by decide +kernel
theorem dL_patternHolds_62 : decode cL_patternHolds 62 = .ok (.i2l, 1) := by decide +kernel
theorem dL_patternHolds_63 : decode cL_patternHolds 63 = .ok (.lload 6, 2) := by decide +kernel
theorem dL_patternHolds_65 : decode cL_patternHolds 65 = .ok (.lrem, 1) := by decide +kernel
theorem dL_patternHolds_66 : decode cL_patternHolds 66 = .ok (.lconst 0, 1) := by decide +kernel
theorem dL_patternHolds_67 : decode cL_patternHolds 67 = .ok (.lcmp, 1) := by decide +kernel
theorem dL_patternHolds_68 : decode cL_patternHolds 68 = .ok (.ifCond .ne 18, 3) := by decide +kernel
theorem dL_patternHolds_71 : decode cL_patternHolds 71 = .ok (.iload 5, 2) := by decide +kernel
theorem dL_patternHolds_73 : decode cL_patternHolds 73 = .ok (.i2l, 1) := by decide +kernel
theorem dL_patternHolds_74 : decode cL_patternHolds 74 = .ok (.lload 8, 2) := by decide +kernel
theorem dL_patternHolds_76 : decode cL_patternHolds 76 = .ok (.lrem, 1) := by decide +kernel
theorem dL_patternHolds_77 : decode cL_patternHolds 77 = .ok (.lconst 0, 1) := by decide +kernel
theorem dL_patternHolds_78 : decode cL_patternHolds 78 = .ok (.lcmp, 1) := by decide +kernel
theorem dL_patternHolds_79 : decode cL_patternHolds 79 = .ok (.ifCond .ne 7, 3) := by decide +kernel
theorem dL_patternHolds_82 : decode cL_patternHolds 82 = .ok (.iconst 1, 1) := by decide +kernel
theorem dL_patternHolds_83 : decode cL_patternHolds 83 = .ok (.goto 4, 3) := by decide +kernel
theorem dL_patternHolds_86 : decode cL_patternHolds 86 = .ok (.iconst 0, 1) := by decide +kernel
theorem dL_patternHolds_87 : decode cL_patternHolds 87 = .ok (.istore 10, 2) := by decide +kernel
theorem dL_patternHolds_89 : decode cL_patternHolds 89 = .ok (.iconst 0, 1) := by decide +kernel
theorem dL_patternHolds_90 : decode cL_patternHolds 90 = .ok (.istore 11, 2) := by decide +kernel
theorem dL_patternHolds_92 : decode cL_patternHolds 92 = .ok (.iload 11, 2) := by decide +kernel
theorem dL_patternHolds_94 : decode cL_patternHolds 94 = .ok (.bipush 8, 2) := by decide +kernel
theorem dL_patternHolds_96 : decode cL_patternHolds 96 = .ok (.if_icmp .ge 150, 3) := by decide +kernel
theorem dL_patternHolds_99 : decode cL_patternHolds 99 = .ok (.iload 10, 2) := by decide +kernel
theorem dL_patternHolds_101 : decode cL_patternHolds 101 = .ok (.ifCond .eq 145, 3) := by decide +kernel
theorem dL_patternHolds_104 : decode cL_patternHolds 104 = .ok (.iload_n 2, 1) := by decide +kernel
theorem dL_patternHolds_105 : decode cL_patternHolds 105 = .ok (.iconst 1, 1) := by decide +kernel
theorem dL_patternHolds_106 : decode cL_patternHolds 106 = .ok (.iload 11, 2) := by decide +kernel
theorem dL_patternHolds_108 : decode cL_patternHolds 108 = .ok (.iadd, 1) := by decide +kernel
theorem dL_patternHolds_109 : decode cL_patternHolds 109 = .ok (.idiv, 1) := by decide +kernel
theorem dL_patternHolds_110 : decode cL_patternHolds 110 = .ok (.bipush 50, 2) := by decide +kernel
theorem dL_patternHolds_112 : decode cL_patternHolds 112 = .ok (.irem, 1) := by decide +kernel
theorem dL_patternHolds_113 : decode cL_patternHolds 113 = .ok (.bipush 25, 2) := by decide +kernel
theorem dL_patternHolds_115 : decode cL_patternHolds 115 = .ok (.isub, 1) := by decide +kernel
theorem dL_patternHolds_116 : decode cL_patternHolds 116 = .ok (.istore 12, 2) := by decide +kernel
theorem dL_patternHolds_118 : decode cL_patternHolds 118 = .ok (.iload_n 3, 1) := by decide +kernel
theorem dL_patternHolds_119 : decode cL_patternHolds 119 = .ok (.iconst 1, 1) := by decide +kernel
theorem dL_patternHolds_120 : decode cL_patternHolds 120 = .ok (.iload 11, 2) := by decide +kernel
theorem dL_patternHolds_122 : decode cL_patternHolds 122 = .ok (.iadd, 1) := by decide +kernel
theorem dL_patternHolds_123 : decode cL_patternHolds 123 = .ok (.idiv, 1) := by decide +kernel
theorem dL_patternHolds_124 : decode cL_patternHolds 124 = .ok (.bipush 50, 2) := by decide +kernel
theorem dL_patternHolds_126 : decode cL_patternHolds 126 = .ok (.irem, 1) := by decide +kernel
theorem dL_patternHolds_127 : decode cL_patternHolds 127 = .ok (.bipush 25, 2) := by decide +kernel
theorem dL_patternHolds_129 : decode cL_patternHolds 129 = .ok (.isub, 1) := by decide +kernel
theorem dL_patternHolds_130 : decode cL_patternHolds 130 = .ok (.istore 13, 2) := by decide +kernel
theorem dL_patternHolds_132 : decode cL_patternHolds 132 = .ok (.aload_n 0, 1) := by decide +kernel
theorem dL_patternHolds_133 : decode cL_patternHolds 133 = .ok (.iload_n 1, 1) := by decide +kernel
theorem dL_patternHolds_134 : decode cL_patternHolds 134 = .ok (.iload 12, 2) := by decide +kernel
theorem dL_patternHolds_136 : decode cL_patternHolds 136 = .ok (.iload 13, 2) := by decide +kernel
theorem dL_patternHolds_138 : decode cL_patternHolds 138 = .ok (.invokestatic 80, 3) := by decide +kernel
theorem dL_patternHolds_141 : decode cL_patternHolds 141 = .ok (.lstore 14, 2) := by decide +kernel
theorem dL_patternHolds_143 : decode cL_patternHolds 143 = .ok (.lload 14, 2) := by decide +kernel
theorem dL_patternHolds_145 : decode cL_patternHolds 145 = .ok (.lconst 0, 1) := by decide +kernel
theorem dL_patternHolds_146 : decode cL_patternHolds 146 = .ok (.lcmp, 1) := by decide +kernel
theorem dL_patternHolds_147 : decode cL_patternHolds 147 = .ok (.ifCond .lt 90, 3) := by decide +kernel
theorem dL_patternHolds_150 : decode cL_patternHolds 150 = .ok (.lload 14, 2) := by decide +kernel
theorem dL_patternHolds_152 : decode cL_patternHolds 152 = .ok (.ldc2_w 83, 3) := by decide +kernel
theorem dL_patternHolds_155 : decode cL_patternHolds 155 = .ok (.lcmp, 1) := by decide +kernel
theorem dL_patternHolds_156 : decode cL_patternHolds 156 = .ok (.ifCond .gt 81, 3) := by decide +kernel
theorem dL_patternHolds_159 : decode cL_patternHolds 159 = .ok (.lload 14, 2) := by decide +kernel
theorem dL_patternHolds_161 : decode cL_patternHolds 161 = .ok (.aload_n 0, 1) := by decide +kernel
theorem dL_patternHolds_162 : decode cL_patternHolds 162 = .ok (.iload_n 1, 1) := by decide +kernel
theorem dL_patternHolds_163 : decode cL_patternHolds 163 = .ok (.iload 12, 2) := by decide +kernel
theorem dL_patternHolds_165 : decode cL_patternHolds 165 = .ok (.iload 4, 2) := by decide +kernel
theorem dL_patternHolds_167 : decode cL_patternHolds 167 = .ok (.iadd, 1) := by decide +kernel
theorem dL_patternHolds_168 : decode cL_patternHolds 168 = .ok (.iload 13, 2) := by decide +kernel
theorem dL_patternHolds_170 : decode cL_patternHolds 170 = .ok (.invokestatic 80, 3) := by decide +kernel
theorem dL_patternHolds_173 : decode cL_patternHolds 173 = .ok (.lcmp, 1) := by decide +kernel
theorem dL_patternHolds_174 : decode cL_patternHolds 174 = .ok (.ifCond .ne 63, 3) := by decide +kernel
theorem dL_patternHolds_177 : decode cL_patternHolds 177 = .ok (.lload 14, 2) := by decide +kernel
theorem dL_patternHolds_179 : decode cL_patternHolds 179 = .ok (.aload_n 0, 1) := by decide +kernel
theorem dL_patternHolds_180 : decode cL_patternHolds 180 = .ok (.iload_n 1, 1) := by decide +kernel
theorem dL_patternHolds_181 : decode cL_patternHolds 181 = .ok (.iload 12, 2) := by decide +kernel
theorem dL_patternHolds_183 : decode cL_patternHolds 183 = .ok (.iload 13, 2) := by decide +kernel
theorem dL_patternHolds_185 : decode cL_patternHolds 185 = .ok (.iload 5, 2) := by decide +kernel
theorem dL_patternHolds_187 : decode cL_patternHolds 187 = .ok (.isub, 1) := by decide +kernel
theorem dL_patternHolds_188 : decode cL_patternHolds 188 = .ok (.invokestatic 80, 3) := by decide +kernel
theorem dL_patternHolds_191 : decode cL_patternHolds 191 = .ok (.lcmp, 1) := by decide +kernel
theorem dL_patternHolds_192 : decode cL_patternHolds 192 = .ok (.ifCond .ne 45, 3) := by decide +kernel
theorem dL_patternHolds_195 : decode cL_patternHolds 195 = .ok (.lload 14, 2) := by decide +kernel
theorem dL_patternHolds_197 : decode cL_patternHolds 197 = .ok (.aload_n 0, 1) := by decide +kernel
theorem dL_patternHolds_198 : decode cL_patternHolds 198 = .ok (.iload_n 1, 1) := by decide +kernel
theorem dL_patternHolds_199 : decode cL_patternHolds 199 = .ok (.iload 12, 2) := by decide +kernel
theorem dL_patternHolds_201 : decode cL_patternHolds 201 = .ok (.lload 6, 2) := by decide +kernel
theorem dL_patternHolds_203 : decode cL_patternHolds 203 = .ok (.l2i, 1) := by decide +kernel
theorem dL_patternHolds_204 : decode cL_patternHolds 204 = .ok (.isub, 1) := by decide +kernel
theorem dL_patternHolds_205 : decode cL_patternHolds 205 = .ok (.iload 13, 2) := by decide +kernel
theorem dL_patternHolds_207 : decode cL_patternHolds 207 = .ok (.invokestatic 80, 3) := by decide +kernel
theorem dL_patternHolds_210 : decode cL_patternHolds 210 = .ok (.lcmp, 1) := by decide +kernel
theorem dL_patternHolds_211 : decode cL_patternHolds 211 = .ok (.ifCond .ne 26, 3) := by decide +kernel
theorem dL_patternHolds_214 : decode cL_patternHolds 214 = .ok (.lload 14, 2) := by decide +kernel
theorem dL_patternHolds_216 : decode cL_patternHolds 216 = .ok (.aload_n 0, 1) := by decide +kernel
theorem dL_patternHolds_217 : decode cL_patternHolds 217 = .ok (.iload_n 1, 1) := by decide +kernel
theorem dL_patternHolds_218 : decode cL_patternHolds 218 = .ok (.iload 12, 2) := by decide +kernel
theorem dL_patternHolds_220 : decode cL_patternHolds 220 = .ok (.iload 13, 2) := by decide +kernel
theorem dL_patternHolds_222 : decode cL_patternHolds 222 = .ok (.lload 8, 2) := by decide +kernel
theorem dL_patternHolds_224 : decode cL_patternHolds 224 = .ok (.l2i, 1) := by decide +kernel
theorem dL_patternHolds_225 : decode cL_patternHolds 225 = .ok (.iadd, 1) := by decide +kernel
theorem dL_patternHolds_226 : decode cL_patternHolds 226 = .ok (.invokestatic 80, 3) := by decide +kernel
theorem dL_patternHolds_229 : decode cL_patternHolds 229 = .ok (.lcmp, 1) := by decide +kernel
theorem dL_patternHolds_230 : decode cL_patternHolds 230 = .ok (.ifCond .ne 7, 3) := by decide +kernel
theorem dL_patternHolds_233 : decode cL_patternHolds 233 = .ok (.iconst 1, 1) := by decide +kernel
theorem dL_patternHolds_234 : decode cL_patternHolds 234 = .ok (.goto 4, 3) := by decide +kernel
theorem dL_patternHolds_237 : decode cL_patternHolds 237 = .ok (.iconst 0, 1) := by decide +kernel
theorem dL_patternHolds_238 : decode cL_patternHolds 238 = .ok (.istore 10, 2) := by decide +kernel
theorem dL_patternHolds_240 : decode cL_patternHolds 240 = .ok (.iinc 11 1, 3) := by decide +kernel
theorem dL_patternHolds_243 : decode cL_patternHolds 243 = .ok (.goto (-151), 3) := by decide +kernel
theorem dL_patternHolds_246 : decode cL_patternHolds 246 = .ok (.iload 10, 2) := by decide +kernel
theorem dL_patternHolds_248 : decode cL_patternHolds 248 = .ok (.ireturn, 1) := by decide +kernel
theorem dL_roomHolds_0 : decode cL_roomHolds 0 = .ok (.aload_n 0, 1) := by decide +kernel
theorem dL_roomHolds_1 : decode cL_roomHolds 1 = .ok (.iload_n 1, 1) := by decide +kernel
theorem dL_roomHolds_2 : decode cL_roomHolds 2 = .ok (.iconst 0, 1) := by decide +kernel
theorem dL_roomHolds_3 : decode cL_roomHolds 3 = .ok (.invokestatic 85, 3) := by decide +kernel
theorem dL_roomHolds_6 : decode cL_roomHolds 6 = .ok (.l2i, 1) := by decide +kernel
theorem dL_roomHolds_7 : decode cL_roomHolds 7 = .ok (.istore_n 3, 1) := by decide +kernel
theorem dL_roomHolds_8 : decode cL_roomHolds 8 = .ok (.aload_n 0, 1) := by decide +kernel
theorem dL_roomHolds_9 : decode cL_roomHolds 9 = .ok (.iload_n 1, 1) := by decide +kernel
theorem dL_roomHolds_10 : decode cL_roomHolds 10 = .ok (.iconst 2, 1) := by decide +kernel
theorem dL_roomHolds_11 : decode cL_roomHolds 11 = .ok (.invokestatic 85, 3) := by decide +kernel
theorem dL_roomHolds_14 : decode cL_roomHolds 14 = .ok (.lstore 4, 2) := by decide +kernel
theorem dL_roomHolds_16 : decode cL_roomHolds 16 = .ok (.lload 4, 2) := by decide +kernel
theorem dL_roomHolds_18 : decode cL_roomHolds 18 = .ok (.lconst 0, 1) := by decide +kernel
theorem dL_roomHolds_19 : decode cL_roomHolds 19 = .ok (.lcmp, 1) := by decide +kernel
theorem dL_roomHolds_20 : decode cL_roomHolds 20 = .ok (.ifCond .ge 83, 3) := by decide +kernel
theorem dL_roomHolds_23 : decode cL_roomHolds 23 = .ok (.aload_n 0, 1) := by decide +kernel
theorem dL_roomHolds_24 : decode cL_roomHolds 24 = .ok (.iload_n 1, 1) := by decide +kernel
theorem dL_roomHolds_25 : decode cL_roomHolds 25 = .ok (.iconst 3, 1) := by decide +kernel
theorem dL_roomHolds_26 : decode cL_roomHolds 26 = .ok (.invokestatic 85, 3) := by decide +kernel
theorem dL_roomHolds_29 : decode cL_roomHolds 29 = .ok (.ldc2_w 88, 3) := by decide +kernel
theorem dL_roomHolds_32 : decode cL_roomHolds 32 = .ok (.lcmp, 1) := by decide +kernel
theorem dL_roomHolds_33 : decode cL_roomHolds 33 = .ok (.ifCond .ne 68, 3) := by decide +kernel
theorem dL_roomHolds_36 : decode cL_roomHolds 36 = .ok (.aload_n 0, 1) := by decide +kernel
theorem dL_roomHolds_37 : decode cL_roomHolds 37 = .ok (.iload_n 1, 1) := by decide +kernel
theorem dL_roomHolds_38 : decode cL_roomHolds 38 = .ok (.iconst 4, 1) := by decide +kernel
theorem dL_roomHolds_39 : decode cL_roomHolds 39 = .ok (.invokestatic 85, 3) := by decide +kernel
theorem dL_roomHolds_42 : decode cL_roomHolds 42 = .ok (.ldc2_w 88, 3) := by decide +kernel
theorem dL_roomHolds_45 : decode cL_roomHolds 45 = .ok (.lcmp, 1) := by decide +kernel
theorem dL_roomHolds_46 : decode cL_roomHolds 46 = .ok (.ifCond .ne 55, 3) := by decide +kernel
theorem dL_roomHolds_49 : decode cL_roomHolds 49 = .ok (.aload_n 0, 1) := by decide +kernel
theorem dL_roomHolds_50 : decode cL_roomHolds 50 = .ok (.iload_n 1, 1) := by decide +kernel
theorem dL_roomHolds_51 : decode cL_roomHolds 51 = .ok (.iconst 5, 1) := by decide +kernel
theorem dL_roomHolds_52 : decode cL_roomHolds 52 = .ok (.invokestatic 85, 3) := by decide +kernel
theorem dL_roomHolds_55 : decode cL_roomHolds 55 = .ok (.ldc2_w 88, 3) := by decide +kernel
theorem dL_roomHolds_58 : decode cL_roomHolds 58 = .ok (.lcmp, 1) := by decide +kernel
theorem dL_roomHolds_59 : decode cL_roomHolds 59 = .ok (.ifCond .ne 42, 3) := by decide +kernel
theorem dL_roomHolds_62 : decode cL_roomHolds 62 = .ok (.iload_n 3, 1) := by decide +kernel
theorem dL_roomHolds_63 : decode cL_roomHolds 63 = .ok (.ifCond .eq 34, 3) := by decide +kernel
theorem dL_roomHolds_66 : decode cL_roomHolds 66 = .ok (.aload_n 0, 1) := by decide +kernel
theorem dL_roomHolds_67 : decode cL_roomHolds 67 = .ok (.iload_n 1, 1) := by decide +kernel
theorem dL_roomHolds_68 : decode cL_roomHolds 68 = .ok (.iconst 0, 1) := by decide +kernel
theorem dL_roomHolds_69 : decode cL_roomHolds 69 = .ok (.iconst 0, 1) := by decide +kernel
theorem dL_roomHolds_70 : decode cL_roomHolds 70 = .ok (.invokestatic 90, 3) := by decide +kernel
theorem dL_roomHolds_73 : decode cL_roomHolds 73 = .ok (.ldc2_w 88, 3) := by decide +kernel
theorem dL_roomHolds_76 : decode cL_roomHolds 76 = .ok (.lcmp, 1) := by decide +kernel
theorem dL_roomHolds_77 : decode cL_roomHolds 77 = .ok (.ifCond .ne 24, 3) := by decide +kernel
theorem dL_roomHolds_80 : decode cL_roomHolds 80 = .ok (.aload_n 0, 1) := by decide +kernel
theorem dL_roomHolds_81 : decode cL_roomHolds 81 = .ok (.iload_n 1, 1) := by decide +kernel
theorem dL_roomHolds_82 : decode cL_roomHolds 82 = .ok (.iconst 0, 1) := by decide +kernel
theorem dL_roomHolds_83 : decode cL_roomHolds 83 = .ok (.bipush (-5), 2) := by decide +kernel
theorem dL_roomHolds_85 : decode cL_roomHolds 85 = .ok (.bipush 99, 2) := by decide +kernel
theorem dL_roomHolds_87 : decode cL_roomHolds 87 = .ok (.invokestatic 92, 3) := by decide +kernel
theorem dL_roomHolds_90 : decode cL_roomHolds 90 = .ok (.ldc2_w 88, 3) := by decide +kernel
theorem dL_roomHolds_93 : decode cL_roomHolds 93 = .ok (.lcmp, 1) := by decide +kernel
theorem dL_roomHolds_94 : decode cL_roomHolds 94 = .ok (.ifCond .ne 7, 3) := by decide +kernel
theorem dL_roomHolds_97 : decode cL_roomHolds 97 = .ok (.iconst 1, 1) := by decide +kernel
theorem dL_roomHolds_98 : decode cL_roomHolds 98 = .ok (.goto 4, 3) := by decide +kernel
theorem dL_roomHolds_101 : decode cL_roomHolds 101 = .ok (.iconst 0, 1) := by decide +kernel
theorem dL_roomHolds_102 : decode cL_roomHolds 102 = .ok (.ireturn, 1) := by decide +kernel
theorem dL_roomHolds_103 : decode cL_roomHolds 103 = .ok (.aload_n 0, 1) := by decide +kernel
theorem dL_roomHolds_104 : decode cL_roomHolds 104 = .ok (.lload 4, 2) := by decide +kernel
theorem dL_roomHolds_106 : decode cL_roomHolds 106 = .ok (.l2i, 1) := by decide +kernel
theorem dL_roomHolds_107 : decode cL_roomHolds 107 = .ok (.invokestatic 95, 3) := by decide +kernel
theorem dL_roomHolds_110 : decode cL_roomHolds 110 = .ok (.lstore 6, 2) := by decide +kernel
theorem dL_roomHolds_112 : decode cL_roomHolds 112 = .ok (.aload_n 0, 1) := by decide +kernel
theorem dL_roomHolds_113 : decode cL_roomHolds 113 = .ok (.lload 4, 2) := by decide +kernel
theorem dL_roomHolds_115 : decode cL_roomHolds 115 = .ok (.l2i, 1) := by decide +kernel
theorem dL_roomHolds_116 : decode cL_roomHolds 116 = .ok (.iconst 3, 1) := by decide +kernel
theorem dL_roomHolds_117 : decode cL_roomHolds 117 = .ok (.invokestatic 99, 3) := by decide +kernel
theorem dL_roomHolds_120 : decode cL_roomHolds 120 = .ok (.lstore 8, 2) := by decide +kernel
theorem dL_roomHolds_122 : decode cL_roomHolds 122 = .ok (.aload_n 0, 1) := by decide +kernel
theorem dL_roomHolds_123 : decode cL_roomHolds 123 = .ok (.iload_n 1, 1) := by decide +kernel
theorem dL_roomHolds_124 : decode cL_roomHolds 124 = .ok (.iconst 3, 1) := by decide +kernel
theorem dL_roomHolds_125 : decode cL_roomHolds 125 = .ok (.invokestatic 85, 3) := by decide +kernel
theorem dL_roomHolds_128 : decode cL_roomHolds 128 = .ok (.lstore 10, 2) := by decide +kernel
theorem dL_roomHolds_130 : decode cL_roomHolds 130 = .ok (.aload_n 0, 1) := by decide +kernel
theorem dL_roomHolds_131 : decode cL_roomHolds 131 = .ok (.iload_n 1, 1) := by decide +kernel
theorem dL_roomHolds_132 : decode cL_roomHolds 132 = .ok (.iconst 4, 1) := by decide +kernel
theorem dL_roomHolds_133 : decode cL_roomHolds 133 = .ok (.invokestatic 85, 3) := by decide +kernel
theorem dL_roomHolds_136 : decode cL_roomHolds 136 = .ok (.lstore 12, 2) := by decide +kernel
theorem dL_roomHolds_138 : decode cL_roomHolds 138 = .ok (.lconst 0, 1) := by decide +kernel
theorem dL_roomHolds_139 : decode cL_roomHolds 139 = .ok (.lstore 14, 2) := by decide +kernel
theorem dL_roomHolds_141 : decode cL_roomHolds 141 = .ok (.iconst 0, 1) := by decide +kernel
theorem dL_roomHolds_142 : decode cL_roomHolds 142 = .ok (.istore 16, 2) := by decide +kernel
theorem dL_roomHolds_144 : decode cL_roomHolds 144 = .ok (.lload 10, 2) := by decide +kernel
theorem dL_roomHolds_146 : decode cL_roomHolds 146 = .ok (.lconst 0, 1) := by decide +kernel
theorem dL_roomHolds_147 : decode cL_roomHolds 147 = .ok (.lcmp, 1) := by decide +kernel
theorem dL_roomHolds_148 : decode cL_roomHolds 148 = .ok (.ifCond .lt 22, 3) := by decide +kernel
theorem dL_roomHolds_151 : decode cL_roomHolds 151 = .ok (.lload 10, 2) := by decide +kernel
theorem dL_roomHolds_153 : decode cL_roomHolds 153 = .ok (.lload 6, 2) := by decide +kernel
theorem dL_roomHolds_155 : decode cL_roomHolds 155 = .ok (.lcmp, 1) := by decide +kernel
theorem dL_roomHolds_156 : decode cL_roomHolds 156 = .ok (.ifCond .ge 14, 3) := by decide +kernel
theorem dL_roomHolds_159 : decode cL_roomHolds 159 = .ok (.lload 12, 2) := by decide +kernel
theorem dL_roomHolds_161 : decode cL_roomHolds 161 = .ok (.lconst 1, 1) := by decide +kernel
theorem dL_roomHolds_162 : decode cL_roomHolds 162 = .ok (.lcmp, 1) := by decide +kernel
theorem dL_roomHolds_163 : decode cL_roomHolds 163 = .ok (.ifCond .lt 7, 3) := by decide +kernel
theorem dL_roomHolds_166 : decode cL_roomHolds 166 = .ok (.iconst 1, 1) := by decide +kernel
theorem dL_roomHolds_167 : decode cL_roomHolds 167 = .ok (.goto 4, 3) := by decide +kernel
theorem dL_roomHolds_170 : decode cL_roomHolds 170 = .ok (.iconst 0, 1) := by decide +kernel
theorem dL_roomHolds_171 : decode cL_roomHolds 171 = .ok (.istore 17, 2) := by decide +kernel
theorem dL_roomHolds_173 : decode cL_roomHolds 173 = .ok (.iconst 0, 1) := by decide +kernel
theorem dL_roomHolds_174 : decode cL_roomHolds 174 = .ok (.istore 18, 2) := by decide +kernel
theorem dL_roomHolds_176 : decode cL_roomHolds 176 = .ok (.iload 18, 2) := by decide +kernel
theorem dL_roomHolds_178 : decode cL_roomHolds 178 = .ok (.iload_n 3, 1) := by decide +kernel
theorem dL_roomHolds_179 : decode cL_roomHolds 179 = .ok (.if_icmp .ge 161, 3) := by decide +kernel
theorem dL_roomHolds_182 : decode cL_roomHolds 182 = .ok (.iload 17, 2) := by decide +kernel
theorem dL_roomHolds_184 : decode cL_roomHolds 184 = .ok (.ifCond .eq 156, 3) := by decide +kernel
theorem dL_roomHolds_187 : decode cL_roomHolds 187 = .ok (.iconst 0, 1) := by decide +kernel
theorem dL_roomHolds_188 : decode cL_roomHolds 188 = .ok (.istore 19, 2) := by decide +kernel
theorem dL_roomHolds_190 : decode cL_roomHolds 190 = .ok (.iload 19, 2) := by decide +kernel
theorem dL_roomHolds_192 : decode cL_roomHolds 192 = .ok (.bipush 24, 2) := by decide +kernel
theorem dL_roomHolds_194 : decode cL_roomHolds 194 = .ok (.if_icmp .ge 112, 3) := by decide +kernel
theorem dL_roomHolds_197 : decode cL_roomHolds 197 = .ok (.iload 17, 2) := by decide +kernel
theorem dL_roomHolds_199 : decode cL_roomHolds 199 = .ok (.ifCond .eq 107, 3) := by decide +kernel
theorem dL_roomHolds_202 : decode cL_roomHolds 202 = .ok (.aload_n 0, 1) := by decide +kernel
theorem dL_roomHolds_203 : decode cL_roomHolds 203 = .ok (.iload_n 1, 1) := by decide +kernel
theorem dL_roomHolds_204 : decode cL_roomHolds 204 = .ok (.iload 18, 2) := by decide +kernel
theorem dL_roomHolds_206 : decode cL_roomHolds 206 = .ok (.iload 19, 2) := by decide +kernel
theorem dL_roomHolds_208 : decode cL_roomHolds 208 = .ok (.invokestatic 90, 3) := by decide +kernel
theorem dL_roomHolds_211 : decode cL_roomHolds 211 = .ok (.lconst 0, 1) := by decide +kernel
theorem dL_roomHolds_212 : decode cL_roomHolds 212 = .ok (.lcmp, 1) := by decide +kernel
theorem dL_roomHolds_213 : decode cL_roomHolds 213 = .ok (.ifCond .lt 93, 3) := by decide +kernel
theorem dL_roomHolds_216 : decode cL_roomHolds 216 = .ok (.aload_n 0, 1) := by decide +kernel
theorem dL_roomHolds_217 : decode cL_roomHolds 217 = .ok (.iload_n 1, 1) := by decide +kernel
theorem dL_roomHolds_218 : decode cL_roomHolds 218 = .ok (.iload 18, 2) := by decide +kernel
theorem dL_roomHolds_220 : decode cL_roomHolds 220 = .ok (.iload 19, 2) := by decide +kernel
theorem dL_roomHolds_222 : decode cL_roomHolds 222 = .ok (.invokestatic 90, 3) := by decide +kernel
theorem dL_roomHolds_225 : decode cL_roomHolds 225 = .ok (.lstore 20, 2) := by decide +kernel
theorem dL_roomHolds_227 : decode cL_roomHolds 227 = .ok (.lload 20, 2) := by decide +kernel
theorem dL_roomHolds_229 : decode cL_roomHolds 229 = .ok (.ldc2_w 101, 3) := by decide +kernel
theorem dL_roomHolds_232 : decode cL_roomHolds 232 = .ok (.lrem, 1) := by decide +kernel
theorem dL_roomHolds_233 : decode cL_roomHolds 233 = .ok (.lload 6, 2) := by decide +kernel
theorem dL_roomHolds_235 : decode cL_roomHolds 235 = .ok (.lrem, 1) := by decide +kernel
theorem dL_roomHolds_236 : decode cL_roomHolds 236 = .ok (.lload 10, 2) := by decide +kernel
theorem dL_roomHolds_238 : decode cL_roomHolds 238 = .ok (.lcmp, 1) := by decide +kernel
theorem dL_roomHolds_239 : decode cL_roomHolds 239 = .ok (.ifCond .ne 41, 3) := by decide +kernel
theorem dL_roomHolds_242 : decode cL_roomHolds 242 = .ok (.lload 20, 2) := by decide +kernel
theorem dL_roomHolds_244 : decode cL_roomHolds 244 = .ok (.ldc2_w 101, 3) := by decide +kernel
theorem dL_roomHolds_247 : decode cL_roomHolds 247 = .ok (.lrem, 1) := by decide +kernel
theorem dL_roomHolds_248 : decode cL_roomHolds 248 = .ok (.aload_n 2, 1) := by decide +kernel
theorem dL_roomHolds_249 : decode cL_roomHolds 249 = .ok (.iconst 4, 1) := by decide +kernel
theorem dL_roomHolds_250 : decode cL_roomHolds 250 = .ok (.iload_n 1, 1) := by decide +kernel
theorem dL_roomHolds_251 : decode cL_roomHolds 251 = .ok (.imul, 1) := by decide +kernel
theorem dL_roomHolds_252 : decode cL_roomHolds 252 = .ok (.iload 18, 2) := by decide +kernel
theorem dL_roomHolds_254 : decode cL_roomHolds 254 = .ok (.iadd, 1) := by decide +kernel
theorem dL_roomHolds_255 : decode cL_roomHolds 255 = .ok (.iaload, 1) := by decide +kernel
theorem dL_roomHolds_256 : decode cL_roomHolds 256 = .ok (.i2l, 1) := by decide +kernel
theorem dL_roomHolds_257 : decode cL_roomHolds 257 = .ok (.ladd, 1) := by decide +kernel
theorem dL_roomHolds_258 : decode cL_roomHolds 258 = .ok (.lload 8, 2) := by decide +kernel
theorem dL_roomHolds_260 : decode cL_roomHolds 260 = .ok (.lcmp, 1) := by decide +kernel
theorem dL_roomHolds_261 : decode cL_roomHolds 261 = .ok (.ifCond .gt 19, 3) := by decide +kernel
theorem dL_roomHolds_264 : decode cL_roomHolds 264 = .ok (.lload 20, 2) := by decide +kernel
theorem dL_roomHolds_266 : decode cL_roomHolds 266 = .ok (.ldc2_w 101, 3) := by decide +kernel
theorem dL_roomHolds_269 : decode cL_roomHolds 269 = .ok (.ldiv, 1) := by decide +kernel
theorem dL_roomHolds_270 : decode cL_roomHolds 270 = .ok (.lload 12, 2) := by decide +kernel
theorem dL_roomHolds_272 : decode cL_roomHolds 272 = .ok (.lcmp, 1) := by decide +kernel
theorem dL_roomHolds_273 : decode cL_roomHolds 273 = .ok (.ifCond .ge 7, 3) := by decide +kernel
theorem dL_roomHolds_276 : decode cL_roomHolds 276 = .ok (.iconst 1, 1) := by decide +kernel
theorem dL_roomHolds_277 : decode cL_roomHolds 277 = .ok (.goto 4, 3) := by decide +kernel
theorem dL_roomHolds_280 : decode cL_roomHolds 280 = .ok (.iconst 0, 1) := by decide +kernel
theorem dL_roomHolds_281 : decode cL_roomHolds 281 = .ok (.istore 17, 2) := by decide +kernel
theorem dL_roomHolds_283 : decode cL_roomHolds 283 = .ok (.lload 14, 2) := by decide +kernel
theorem dL_roomHolds_285 : decode cL_roomHolds 285 = .ok (.aload_n 2, 1) := by decide +kernel
theorem dL_roomHolds_286 : decode cL_roomHolds 286 = .ok (.iconst 4, 1) := by decide +kernel
theorem dL_roomHolds_287 : decode cL_roomHolds 287 = .ok (.iload_n 1, 1) := by decide +kernel
theorem dL_roomHolds_288 : decode cL_roomHolds 288 = .ok (.imul, 1) := by decide +kernel
theorem dL_roomHolds_289 : decode cL_roomHolds 289 = .ok (.iload 18, 2) := by decide +kernel
theorem dL_roomHolds_291 : decode cL_roomHolds 291 = .ok (.iadd, 1) := by decide +kernel
theorem dL_roomHolds_292 : decode cL_roomHolds 292 = .ok (.iaload, 1) := by decide +kernel
theorem dL_roomHolds_293 : decode cL_roomHolds 293 = .ok (.i2l, 1) := by decide +kernel
theorem dL_roomHolds_294 : decode cL_roomHolds 294 = .ok (.ladd, 1) := by decide +kernel
theorem dL_roomHolds_295 : decode cL_roomHolds 295 = .ok (.lstore 14, 2) := by decide +kernel
theorem dL_roomHolds_297 : decode cL_roomHolds 297 = .ok (.iinc 16 1, 3) := by decide +kernel
theorem dL_roomHolds_300 : decode cL_roomHolds 300 = .ok (.iinc 19 1, 3) := by decide +kernel
theorem dL_roomHolds_303 : decode cL_roomHolds 303 = .ok (.goto (-113), 3) := by decide +kernel
theorem dL_roomHolds_306 : decode cL_roomHolds 306 = .ok (.iload 17, 2) := by decide +kernel
theorem dL_roomHolds_308 : decode cL_roomHolds 308 = .ok (.ifCond .eq 23, 3) := by decide +kernel
theorem dL_roomHolds_311 : decode cL_roomHolds 311 = .ok (.aload_n 0, 1) := by decide +kernel
theorem dL_roomHolds_312 : decode cL_roomHolds 312 = .ok (.iload_n 1, 1) := by decide +kernel
theorem dL_roomHolds_313 : decode cL_roomHolds 313 = .ok (.iload 18, 2) := by decide +kernel
theorem dL_roomHolds_315 : decode cL_roomHolds 315 = .ok (.iload 19, 2) := by decide +kernel
theorem dL_roomHolds_317 : decode cL_roomHolds 317 = .ok (.invokestatic 90, 3) := by decide +kernel
theorem dL_roomHolds_320 : decode cL_roomHolds 320 = .ok (.ldc2_w 29, 3) := by decide +kernel
theorem dL_roomHolds_323 : decode cL_roomHolds 323 = .ok (.lcmp, 1) := by decide +kernel
theorem dL_roomHolds_324 : decode cL_roomHolds 324 = .ok (.ifCond .ne 7, 3) := by decide +kernel
theorem dL_roomHolds_327 : decode cL_roomHolds 327 = .ok (.iconst 1, 1) := by decide +kernel
theorem dL_roomHolds_328 : decode cL_roomHolds 328 = .ok (.goto 4, 3) := by decide +kernel
theorem dL_roomHolds_331 : decode cL_roomHolds 331 = .ok (.iconst 0, 1) := by decide +kernel
theorem dL_roomHolds_332 : decode cL_roomHolds 332 = .ok (.istore 17, 2) := by decide +kernel
theorem dL_roomHolds_334 : decode cL_roomHolds 334 = .ok (.iinc 18 1, 3) := by decide +kernel
theorem dL_roomHolds_337 : decode cL_roomHolds 337 = .ok (.goto (-161), 3) := by decide +kernel
theorem dL_roomHolds_340 : decode cL_roomHolds 340 = .ok (.iload 17, 2) := by decide +kernel
theorem dL_roomHolds_342 : decode cL_roomHolds 342 = .ok (.ifCond .eq 49, 3) := by decide +kernel
theorem dL_roomHolds_345 : decode cL_roomHolds 345 = .ok (.iload 16, 2) := by decide +kernel
theorem dL_roomHolds_347 : decode cL_roomHolds 347 = .ok (.i2l, 1) := by decide +kernel
theorem dL_roomHolds_348 : decode cL_roomHolds 348 = .ok (.aload_n 0, 1) := by decide +kernel
theorem dL_roomHolds_349 : decode cL_roomHolds 349 = .ok (.iload_n 1, 1) := by decide +kernel
theorem dL_roomHolds_350 : decode cL_roomHolds 350 = .ok (.iconst 1, 1) := by decide +kernel
theorem dL_roomHolds_351 : decode cL_roomHolds 351 = .ok (.invokestatic 85, 3) := by decide +kernel
theorem dL_roomHolds_354 : decode cL_roomHolds 354 = .ok (.lcmp, 1) := by decide +kernel
theorem dL_roomHolds_355 : decode cL_roomHolds 355 = .ok (.ifCond .ne 36, 3) := by decide +kernel
theorem dL_roomHolds_358 : decode cL_roomHolds 358 = .ok (.aload_n 0, 1) := by decide +kernel
theorem dL_roomHolds_359 : decode cL_roomHolds 359 = .ok (.iload_n 1, 1) := by decide +kernel
theorem dL_roomHolds_360 : decode cL_roomHolds 360 = .ok (.iconst 5, 1) := by decide +kernel
theorem dL_roomHolds_361 : decode cL_roomHolds 361 = .ok (.invokestatic 85, 3) := by decide +kernel
theorem dL_roomHolds_364 : decode cL_roomHolds 364 = .ok (.lload 12, 2) := by decide +kernel
theorem dL_roomHolds_366 : decode cL_roomHolds 366 = .ok (.lload 8, 2) := by decide +kernel
theorem dL_roomHolds_368 : decode cL_roomHolds 368 = .ok (.lmul, 1) := by decide +kernel
theorem dL_roomHolds_369 : decode cL_roomHolds 369 = .ok (.lload 14, 2) := by decide +kernel
theorem dL_roomHolds_371 : decode cL_roomHolds 371 = .ok (.lsub, 1) := by decide +kernel
theorem dL_roomHolds_372 : decode cL_roomHolds 372 = .ok (.lcmp, 1) := by decide +kernel
theorem dL_roomHolds_373 : decode cL_roomHolds 373 = .ok (.ifCond .ne 18, 3) := by decide +kernel
theorem dL_roomHolds_376 : decode cL_roomHolds 376 = .ok (.aload_n 0, 1) := by decide +kernel
theorem dL_roomHolds_377 : decode cL_roomHolds 377 = .ok (.iload_n 1, 1) := by decide +kernel
theorem dL_roomHolds_378 : decode cL_roomHolds 378 = .ok (.iconst 5, 1) := by decide +kernel
theorem dL_roomHolds_379 : decode cL_roomHolds 379 = .ok (.invokestatic 85, 3) := by decide +kernel
theorem dL_roomHolds_382 : decode cL_roomHolds 382 = .ok (.lconst 0, 1) := by decide +kernel
theorem dL_roomHolds_383 : decode cL_roomHolds 383 = .ok (.lcmp, 1) := by decide +kernel
theorem dL_roomHolds_384 : decode cL_roomHolds 384 = .ok (.ifCond .lt 7, 3) := by decide +kernel
theorem dL_roomHolds_387 : decode cL_roomHolds 387 = .ok (.iconst 1, 1) := by decide +kernel
theorem dL_roomHolds_388 : decode cL_roomHolds 388 = .ok (.goto 4, 3) := by decide +kernel
theorem dL_roomHolds_391 : decode cL_roomHolds 391 = .ok (.iconst 0, 1) := by decide +kernel
theorem dL_roomHolds_392 : decode cL_roomHolds 392 = .ok (.ireturn, 1) := by decide +kernel
theorem dL_lotHigh_0 : decode cL_lotHigh 0 = .ok (.aload_n 0, 1) := by decide +kernel
theorem dL_lotHigh_1 : decode cL_lotHigh 1 = .ok (.aload_n 0, 1) := by decide +kernel
theorem dL_lotHigh_2 : decode cL_lotHigh 2 = .ok (.iload_n 1, 1) := by decide +kernel
theorem dL_lotHigh_3 : decode cL_lotHigh 3 = .ok (.iconst 0, 1) := by decide +kernel
theorem dL_lotHigh_4 : decode cL_lotHigh 4 = .ok (.invokestatic 99, 3) := by decide +kernel
theorem dL_lotHigh_7 : decode cL_lotHigh 7 = .ok (.l2i, 1) := by decide +kernel
theorem dL_lotHigh_8 : decode cL_lotHigh 8 = .ok (.iconst 3, 1) := by decide +kernel
theorem dL_lotHigh_9 : decode cL_lotHigh 9 = .ok (.irem, 1) := by decide +kernel
theorem dL_lotHigh_10 : decode cL_lotHigh 10 = .ok (.iconst 1, 1) := by decide +kernel
theorem dL_lotHigh_11 : decode cL_lotHigh 11 = .ok (.invokestatic 73, 3) := by decide +kernel
theorem dL_lotHigh_14 : decode cL_lotHigh 14 = .ok (.lreturn, 1) := by decide +kernel
theorem dL_refuses_0 : decode cL_refuses 0 = .ok (.aload_n 0, 1) := by decide +kernel
theorem dL_refuses_1 : decode cL_refuses 1 = .ok (.invokevirtual 103, 3) := by decide +kernel
theorem dL_refuses_4 : decode cL_refuses 4 = .ok (.istore_n 1, 1) := by decide +kernel
theorem dL_refuses_5 : decode cL_refuses 5 = .ok (.aload_n 0, 1) := by decide +kernel
theorem dL_refuses_6 : decode cL_refuses 6 = .ok (.iconst 0, 1) := by decide +kernel
theorem dL_refuses_7 : decode cL_refuses 7 = .ok (.iconst 1, 1) := by decide +kernel
theorem dL_refuses_8 : decode cL_refuses 8 = .ok (.iconst 0, 1) := by decide +kernel
theorem dL_refuses_9 : decode cL_refuses 9 = .ok (.invokestatic 107, 3) := by decide +kernel
theorem dL_refuses_12 : decode cL_refuses 12 = .ok (.ldc2_w 17, 3) := by decide +kernel
theorem dL_refuses_15 : decode cL_refuses 15 = .ok (.lcmp, 1) := by decide +kernel
theorem dL_refuses_16 : decode cL_refuses 16 = .ok (.ifCond .ne 247, 3) := by decide +kernel
theorem dL_refuses_19 : decode cL_refuses 19 = .ok (.aload_n 0, 1) := by decide +kernel
theorem dL_refuses_20 : decode cL_refuses 20 = .ok (.iconst 1, 1) := by decide +kernel
theorem dL_refuses_21 : decode cL_refuses 21 = .ok (.bipush 6, 2) := by decide +kernel
theorem dL_refuses_23 : decode cL_refuses 23 = .ok (.iconst 0, 1) := by decide +kernel
theorem dL_refuses_24 : decode cL_refuses 24 = .ok (.invokestatic 107, 3) := by decide +kernel
theorem dL_refuses_27 : decode cL_refuses 27 = .ok (.ldc2_w 17, 3) := by decide +kernel
theorem dL_refuses_30 : decode cL_refuses 30 = .ok (.lcmp, 1) := by decide +kernel
theorem dL_refuses_31 : decode cL_refuses 31 = .ok (.ifCond .ne 232, 3) := by decide +kernel
theorem dL_refuses_34 : decode cL_refuses 34 = .ok (.aload_n 0, 1) := by decide +kernel
theorem dL_refuses_35 : decode cL_refuses 35 = .ok (.iconst 1, 1) := by decide +kernel
theorem dL_refuses_36 : decode cL_refuses 36 = .ok (.iconst 1, 1) := by decide +kernel
theorem dL_refuses_37 : decode cL_refuses 37 = .ok (.bipush 6, 2) := by decide +kernel
theorem dL_refuses_39 : decode cL_refuses 39 = .ok (.invokestatic 107, 3) := by decide +kernel
theorem dL_refuses_42 : decode cL_refuses 42 = .ok (.ldc2_w 17, 3) := by decide +kernel
theorem dL_refuses_45 : decode cL_refuses 45 = .ok (.lcmp, 1) := by decide +kernel
theorem dL_refuses_46 : decode cL_refuses 46 = .ok (.ifCond .ne 217, 3) := by decide +kernel
theorem dL_refuses_49 : decode cL_refuses 49 = .ok (.aload_n 0, 1) := by decide +kernel
theorem dL_refuses_50 : decode cL_refuses 50 = .ok (.iconst 2, 1) := by decide +kernel
theorem dL_refuses_51 : decode cL_refuses 51 = .ok (.iconst 3, 1) := by decide +kernel
theorem dL_refuses_52 : decode cL_refuses 52 = .ok (.iconst 5, 1) := by decide +kernel
theorem dL_refuses_53 : decode cL_refuses 53 = .ok (.invokestatic 107, 3) := by decide +kernel
theorem dL_refuses_56 : decode cL_refuses 56 = .ok (.ldc2_w 17, 3) := by decide +kernel
theorem dL_refuses_59 : decode cL_refuses 59 = .ok (.lcmp, 1) := by decide +kernel
theorem dL_refuses_60 : decode cL_refuses 60 = .ok (.ifCond .ne 203, 3) := by decide +kernel
theorem dL_refuses_63 : decode cL_refuses 63 = .ok (.aload_n 0, 1) := by decide +kernel
theorem dL_refuses_64 : decode cL_refuses 64 = .ok (.bipush 6, 2) := by decide +kernel
theorem dL_refuses_66 : decode cL_refuses 66 = .ok (.iconst 0, 1) := by decide +kernel
theorem dL_refuses_67 : decode cL_refuses 67 = .ok (.iconst 0, 1) := by decide +kernel
theorem dL_refuses_68 : decode cL_refuses 68 = .ok (.iconst 0, 1) := by decide +kernel
theorem dL_refuses_69 : decode cL_refuses 69 = .ok (.invokestatic 109, 3) := by decide +kernel
theorem dL_refuses_72 : decode cL_refuses 72 = .ok (.ldc2_w 29, 3) := by decide +kernel
theorem dL_refuses_75 : decode cL_refuses 75 = .ok (.lcmp, 1) := by decide +kernel
theorem dL_refuses_76 : decode cL_refuses 76 = .ok (.ifCond .ne 187, 3) := by decide +kernel
theorem dL_refuses_79 : decode cL_refuses 79 = .ok (.aload_n 0, 1) := by decide +kernel
theorem dL_refuses_80 : decode cL_refuses 80 = .ok (.iconst 0, 1) := by decide +kernel
theorem dL_refuses_81 : decode cL_refuses 81 = .ok (.iconst 5, 1) := by decide +kernel
theorem dL_refuses_82 : decode cL_refuses 82 = .ok (.iconst 0, 1) := by decide +kernel
theorem dL_refuses_83 : decode cL_refuses 83 = .ok (.iconst 0, 1) := by decide +kernel
theorem dL_refuses_84 : decode cL_refuses 84 = .ok (.invokestatic 109, 3) := by decide +kernel
theorem dL_refuses_87 : decode cL_refuses 87 = .ok (.ldc2_w 29, 3) := by decide +kernel
theorem dL_refuses_90 : decode cL_refuses 90 = .ok (.lcmp, 1) := by decide +kernel
theorem dL_refuses_91 : decode cL_refuses 91 = .ok (.ifCond .ne 172, 3) := by decide +kernel
theorem dL_refuses_94 : decode cL_refuses 94 = .ok (.aload_n 0, 1) := by decide +kernel
theorem dL_refuses_95 : decode cL_refuses 95 = .ok (.iconst 0, 1) := by decide +kernel
theorem dL_refuses_96 : decode cL_refuses 96 = .ok (.iconst 0, 1) := by decide +kernel
theorem dL_refuses_97 : decode cL_refuses 97 = .ok (.iconst (-1), 1) := by decide +kernel
theorem dL_refuses_98 : decode cL_refuses 98 = .ok (.iconst 0, 1) := by decide +kernel
theorem dL_refuses_99 : decode cL_refuses 99 = .ok (.invokestatic 109, 3) := by decide +kernel
theorem dL_refuses_102 : decode cL_refuses 102 = .ok (.ldc2_w 29, 3) := by decide +kernel
theorem dL_refuses_105 : decode cL_refuses 105 = .ok (.lcmp, 1) := by decide +kernel
theorem dL_refuses_106 : decode cL_refuses 106 = .ok (.ifCond .ne 157, 3) := by decide +kernel
theorem dL_refuses_109 : decode cL_refuses 109 = .ok (.aload_n 0, 1) := by decide +kernel
theorem dL_refuses_110 : decode cL_refuses 110 = .ok (.iconst 0, 1) := by decide +kernel
theorem dL_refuses_111 : decode cL_refuses 111 = .ok (.iconst 0, 1) := by decide +kernel
theorem dL_refuses_112 : decode cL_refuses 112 = .ok (.iconst 0, 1) := by decide +kernel
theorem dL_refuses_113 : decode cL_refuses 113 = .ok (.bipush 8, 2) := by decide +kernel
theorem dL_refuses_115 : decode cL_refuses 115 = .ok (.invokestatic 109, 3) := by decide +kernel
theorem dL_refuses_118 : decode cL_refuses 118 = .ok (.ldc2_w 17, 3) := by decide +kernel
theorem dL_refuses_121 : decode cL_refuses 121 = .ok (.lcmp, 1) := by decide +kernel
theorem dL_refuses_122 : decode cL_refuses 122 = .ok (.ifCond .ne 141, 3) := by decide +kernel
theorem dL_refuses_125 : decode cL_refuses 125 = .ok (.aload_n 0, 1) := by decide +kernel
theorem dL_refuses_126 : decode cL_refuses 126 = .ok (.iconst (-1), 1) := by decide +kernel
theorem dL_refuses_127 : decode cL_refuses 127 = .ok (.iconst 0, 1) := by decide +kernel
theorem dL_refuses_128 : decode cL_refuses 128 = .ok (.iconst 0, 1) := by decide +kernel
theorem dL_refuses_129 : decode cL_refuses 129 = .ok (.invokestatic 80, 3) := by decide +kernel
theorem dL_refuses_132 : decode cL_refuses 132 = .ok (.ldc2_w 29, 3) := by decide +kernel
theorem dL_refuses_135 : decode cL_refuses 135 = .ok (.lcmp, 1) := by decide +kernel
theorem dL_refuses_136 : decode cL_refuses 136 = .ok (.ifCond .ne 127, 3) := by decide +kernel
theorem dL_refuses_139 : decode cL_refuses 139 = .ok (.aload_n 0, 1) := by decide +kernel
theorem dL_refuses_140 : decode cL_refuses 140 = .ok (.bipush 6, 2) := by decide +kernel
theorem dL_refuses_142 : decode cL_refuses 142 = .ok (.iconst 1, 1) := by decide +kernel
theorem dL_refuses_143 : decode cL_refuses 143 = .ok (.invokestatic 73, 3) := by decide +kernel
theorem dL_refuses_146 : decode cL_refuses 146 = .ok (.ldc2_w 29, 3) := by decide +kernel
theorem dL_refuses_149 : decode cL_refuses 149 = .ok (.lcmp, 1) := by decide +kernel
theorem dL_refuses_150 : decode cL_refuses 150 = .ok (.ifCond .ne 113, 3) := by decide +kernel
theorem dL_refuses_153 : decode cL_refuses 153 = .ok (.aload_n 0, 1) := by decide +kernel
theorem dL_refuses_154 : decode cL_refuses 154 = .ok (.iconst (-1), 1) := by decide +kernel
theorem dL_refuses_155 : decode cL_refuses 155 = .ok (.iconst 1, 1) := by decide +kernel
theorem dL_refuses_156 : decode cL_refuses 156 = .ok (.invokestatic 78, 3) := by decide +kernel
theorem dL_refuses_159 : decode cL_refuses 159 = .ok (.ldc2_w 29, 3) := by decide +kernel
theorem dL_refuses_162 : decode cL_refuses 162 = .ok (.lcmp, 1) := by decide +kernel
theorem dL_refuses_163 : decode cL_refuses 163 = .ok (.ifCond .ne 100, 3) := by decide +kernel
theorem dL_refuses_166 : decode cL_refuses 166 = .ok (.aload_n 0, 1) := by decide +kernel
theorem dL_refuses_167 : decode cL_refuses 167 = .ok (.bipush 6, 2) := by decide +kernel
theorem dL_refuses_169 : decode cL_refuses 169 = .ok (.iconst 1, 1) := by decide +kernel
theorem dL_refuses_170 : decode cL_refuses 170 = .ok (.invokestatic 111, 3) := by decide +kernel
theorem dL_refuses_173 : decode cL_refuses 173 = .ok (.ldc2_w 29, 3) := by decide +kernel
theorem dL_refuses_176 : decode cL_refuses 176 = .ok (.lcmp, 1) := by decide +kernel
theorem dL_refuses_177 : decode cL_refuses 177 = .ok (.ifCond .ne 86, 3) := by decide +kernel
theorem dL_refuses_180 : decode cL_refuses 180 = .ok (.aload_n 0, 1) := by decide +kernel
theorem dL_refuses_181 : decode cL_refuses 181 = .ok (.iconst 0, 1) := by decide +kernel
theorem dL_refuses_182 : decode cL_refuses 182 = .ok (.bipush 61, 2) := by decide +kernel
theorem dL_refuses_184 : decode cL_refuses 184 = .ok (.invokestatic 111, 3) := by decide +kernel
theorem dL_refuses_187 : decode cL_refuses 187 = .ok (.ldc2_w 17, 3) := by decide +kernel
theorem dL_refuses_190 : decode cL_refuses 190 = .ok (.lcmp, 1) := by decide +kernel
theorem dL_refuses_191 : decode cL_refuses 191 = .ok (.ifCond .ne 72, 3) := by decide +kernel
theorem dL_refuses_194 : decode cL_refuses 194 = .ok (.aload_n 0, 1) := by decide +kernel
theorem dL_refuses_195 : decode cL_refuses 195 = .ok (.bipush 8, 2) := by decide +kernel
theorem dL_refuses_197 : decode cL_refuses 197 = .ok (.iconst 0, 1) := by decide +kernel
theorem dL_refuses_198 : decode cL_refuses 198 = .ok (.iconst 1, 1) := by decide +kernel
theorem dL_refuses_199 : decode cL_refuses 199 = .ok (.iconst 1, 1) := by decide +kernel
theorem dL_refuses_200 : decode cL_refuses 200 = .ok (.invokestatic 113, 3) := by decide +kernel
theorem dL_refuses_203 : decode cL_refuses 203 = .ok (.ldc2_w 29, 3) := by decide +kernel
theorem dL_refuses_206 : decode cL_refuses 206 = .ok (.lcmp, 1) := by decide +kernel
theorem dL_refuses_207 : decode cL_refuses 207 = .ok (.ifCond .ne 56, 3) := by decide +kernel
theorem dL_refuses_210 : decode cL_refuses 210 = .ok (.aload_n 0, 1) := by decide +kernel
theorem dL_refuses_211 : decode cL_refuses 211 = .ok (.iconst 0, 1) := by decide +kernel
theorem dL_refuses_212 : decode cL_refuses 212 = .ok (.bipush 10, 2) := by decide +kernel
theorem dL_refuses_214 : decode cL_refuses 214 = .ok (.iconst 1, 1) := by decide +kernel
theorem dL_refuses_215 : decode cL_refuses 215 = .ok (.iconst 1, 1) := by decide +kernel
theorem dL_refuses_216 : decode cL_refuses 216 = .ok (.invokestatic 113, 3) := by decide +kernel
theorem dL_refuses_219 : decode cL_refuses 219 = .ok (.ldc2_w 17, 3) := by decide +kernel
theorem dL_refuses_222 : decode cL_refuses 222 = .ok (.lcmp, 1) := by decide +kernel
theorem dL_refuses_223 : decode cL_refuses 223 = .ok (.ifCond .ne 40, 3) := by decide +kernel
theorem dL_refuses_226 : decode cL_refuses 226 = .ok (.aload_n 0, 1) := by decide +kernel
theorem dL_refuses_227 : decode cL_refuses 227 = .ok (.iconst 0, 1) := by decide +kernel
theorem dL_refuses_228 : decode cL_refuses 228 = .ok (.iconst 0, 1) := by decide +kernel
theorem dL_refuses_229 : decode cL_refuses 229 = .ok (.bipush 21, 2) := by decide +kernel
theorem dL_refuses_231 : decode cL_refuses 231 = .ok (.iconst 1, 1) := by decide +kernel
theorem dL_refuses_232 : decode cL_refuses 232 = .ok (.invokestatic 113, 3) := by decide +kernel
theorem dL_refuses_235 : decode cL_refuses 235 = .ok (.ldc2_w 17, 3) := by decide +kernel
theorem dL_refuses_238 : decode cL_refuses 238 = .ok (.lcmp, 1) := by decide +kernel
theorem dL_refuses_239 : decode cL_refuses 239 = .ok (.ifCond .ne 24, 3) := by decide +kernel
theorem dL_refuses_242 : decode cL_refuses 242 = .ok (.aload_n 0, 1) := by decide +kernel
theorem dL_refuses_243 : decode cL_refuses 243 = .ok (.iconst 0, 1) := by decide +kernel
theorem dL_refuses_244 : decode cL_refuses 244 = .ok (.iconst 0, 1) := by decide +kernel
theorem dL_refuses_245 : decode cL_refuses 245 = .ok (.iconst 1, 1) := by decide +kernel
theorem dL_refuses_246 : decode cL_refuses 246 = .ok (.sipush 201, 3) := by decide +kernel
theorem dL_refuses_249 : decode cL_refuses 249 = .ok (.invokestatic 113, 3) := by decide +kernel
theorem dL_refuses_252 : decode cL_refuses 252 = .ok (.ldc2_w 17, 3) := by decide +kernel
theorem dL_refuses_255 : decode cL_refuses 255 = .ok (.lcmp, 1) := by decide +kernel
theorem dL_refuses_256 : decode cL_refuses 256 = .ok (.ifCond .ne 7, 3) := by decide +kernel
theorem dL_refuses_259 : decode cL_refuses 259 = .ok (.iconst 1, 1) := by decide +kernel
theorem dL_refuses_260 : decode cL_refuses 260 = .ok (.goto 4, 3) := by decide +kernel
theorem dL_refuses_263 : decode cL_refuses 263 = .ok (.iconst 0, 1) := by decide +kernel
theorem dL_refuses_264 : decode cL_refuses 264 = .ok (.istore_n 2, 1) := by decide +kernel
theorem dL_refuses_265 : decode cL_refuses 265 = .ok (.iload_n 2, 1) := by decide +kernel
theorem dL_refuses_266 : decode cL_refuses 266 = .ok (.ifCond .eq 208, 3) := by decide +kernel
theorem dL_refuses_269 : decode cL_refuses 269 = .ok (.aload_n 0, 1) := by decide +kernel
theorem dL_refuses_270 : decode cL_refuses 270 = .ok (.bipush 10, 2) := by decide +kernel
theorem dL_refuses_272 : decode cL_refuses 272 = .ok (.iconst 0, 1) := by decide +kernel
theorem dL_refuses_273 : decode cL_refuses 273 = .ok (.invokestatic 99, 3) := by decide +kernel
theorem dL_refuses_276 : decode cL_refuses 276 = .ok (.ldc2_w 29, 3) := by decide +kernel
theorem dL_refuses_279 : decode cL_refuses 279 = .ok (.lcmp, 1) := by decide +kernel
theorem dL_refuses_280 : decode cL_refuses 280 = .ok (.ifCond .ne 194, 3) := by decide +kernel
theorem dL_refuses_283 : decode cL_refuses 283 = .ok (.aload_n 0, 1) := by decide +kernel
theorem dL_refuses_284 : decode cL_refuses 284 = .ok (.iconst 0, 1) := by decide +kernel
theorem dL_refuses_285 : decode cL_refuses 285 = .ok (.iconst 5, 1) := by decide +kernel
theorem dL_refuses_286 : decode cL_refuses 286 = .ok (.invokestatic 99, 3) := by decide +kernel
theorem dL_refuses_289 : decode cL_refuses 289 = .ok (.ldc2_w 17, 3) := by decide +kernel
theorem dL_refuses_292 : decode cL_refuses 292 = .ok (.lcmp, 1) := by decide +kernel
theorem dL_refuses_293 : decode cL_refuses 293 = .ok (.ifCond .eq 16, 3) := by decide +kernel
theorem dL_refuses_296 : decode cL_refuses 296 = .ok (.aload_n 0, 1) := by decide +kernel
theorem dL_refuses_297 : decode cL_refuses 297 = .ok (.iconst 0, 1) := by decide +kernel
theorem dL_refuses_298 : decode cL_refuses 298 = .ok (.iconst 0, 1) := by decide +kernel
theorem dL_refuses_299 : decode cL_refuses 299 = .ok (.invokestatic 99, 3) := by decide +kernel
theorem dL_refuses_302 : decode cL_refuses 302 = .ok (.ldc2_w 29, 3) := by decide +kernel
theorem dL_refuses_305 : decode cL_refuses 305 = .ok (.lcmp, 1) := by decide +kernel
theorem dL_refuses_306 : decode cL_refuses 306 = .ok (.ifCond .ne 168, 3) := by decide +kernel
theorem dL_refuses_309 : decode cL_refuses 309 = .ok (.aload_n 0, 1) := by decide +kernel
theorem dL_refuses_310 : decode cL_refuses 310 = .ok (.iconst 4, 1) := by decide +kernel
theorem dL_refuses_311 : decode cL_refuses 311 = .ok (.iconst 1, 1) := by decide +kernel
theorem dL_refuses_312 : decode cL_refuses 312 = .ok (.iconst 1, 1) := by decide +kernel
theorem dL_refuses_313 : decode cL_refuses 313 = .ok (.invokestatic 115, 3) := by decide +kernel
theorem dL_refuses_316 : decode cL_refuses 316 = .ok (.ldc2_w 29, 3) := by decide +kernel
theorem dL_refuses_319 : decode cL_refuses 319 = .ok (.lcmp, 1) := by decide +kernel
theorem dL_refuses_320 : decode cL_refuses 320 = .ok (.ifCond .ne 154, 3) := by decide +kernel
theorem dL_refuses_323 : decode cL_refuses 323 = .ok (.aload_n 0, 1) := by decide +kernel
theorem dL_refuses_324 : decode cL_refuses 324 = .ok (.iconst 0, 1) := by decide +kernel
theorem dL_refuses_325 : decode cL_refuses 325 = .ok (.bipush 13, 2) := by decide +kernel
theorem dL_refuses_327 : decode cL_refuses 327 = .ok (.iconst 1, 1) := by decide +kernel
theorem dL_refuses_328 : decode cL_refuses 328 = .ok (.invokestatic 115, 3) := by decide +kernel
theorem dL_refuses_331 : decode cL_refuses 331 = .ok (.ldc2_w 17, 3) := by decide +kernel
theorem dL_refuses_334 : decode cL_refuses 334 = .ok (.lcmp, 1) := by decide +kernel
theorem dL_refuses_335 : decode cL_refuses 335 = .ok (.ifCond .ne 139, 3) := by decide +kernel
theorem dL_refuses_338 : decode cL_refuses 338 = .ok (.aload_n 0, 1) := by decide +kernel
theorem dL_refuses_339 : decode cL_refuses 339 = .ok (.iconst 0, 1) := by decide +kernel
theorem dL_refuses_340 : decode cL_refuses 340 = .ok (.iconst 1, 1) := by decide +kernel
theorem dL_refuses_341 : decode cL_refuses 341 = .ok (.bipush 61, 2) := by decide +kernel
theorem dL_refuses_343 : decode cL_refuses 343 = .ok (.invokestatic 115, 3) := by decide +kernel
theorem dL_refuses_346 : decode cL_refuses 346 = .ok (.ldc2_w 17, 3) := by decide +kernel
theorem dL_refuses_349 : decode cL_refuses 349 = .ok (.lcmp, 1) := by decide +kernel
theorem dL_refuses_350 : decode cL_refuses 350 = .ok (.ifCond .ne 124, 3) := by decide +kernel
theorem dL_refuses_353 : decode cL_refuses 353 = .ok (.aload_n 0, 1) := by decide +kernel
theorem dL_refuses_354 : decode cL_refuses 354 = .ok (.iconst 0, 1) := by decide +kernel
theorem dL_refuses_355 : decode cL_refuses 355 = .ok (.bipush 10, 2) := by decide +kernel
theorem dL_refuses_357 : decode cL_refuses 357 = .ok (.invokestatic 117, 3) := by decide +kernel
theorem dL_refuses_360 : decode cL_refuses 360 = .ok (.ldc2_w 29, 3) := by decide +kernel
theorem dL_refuses_363 : decode cL_refuses 363 = .ok (.lcmp, 1) := by decide +kernel
theorem dL_refuses_364 : decode cL_refuses 364 = .ok (.ifCond .ne 110, 3) := by decide +kernel
theorem dL_refuses_367 : decode cL_refuses 367 = .ok (.aload_n 0, 1) := by decide +kernel
theorem dL_refuses_368 : decode cL_refuses 368 = .ok (.iconst (-1), 1) := by decide +kernel
theorem dL_refuses_369 : decode cL_refuses 369 = .ok (.iconst 0, 1) := by decide +kernel
theorem dL_refuses_370 : decode cL_refuses 370 = .ok (.invokestatic 117, 3) := by decide +kernel
theorem dL_refuses_373 : decode cL_refuses 373 = .ok (.ldc2_w 29, 3) := by decide +kernel
theorem dL_refuses_376 : decode cL_refuses 376 = .ok (.lcmp, 1) := by decide +kernel
theorem dL_refuses_377 : decode cL_refuses 377 = .ok (.ifCond .ne 97, 3) := by decide +kernel
theorem dL_refuses_380 : decode cL_refuses 380 = .ok (.aload_n 0, 1) := by decide +kernel
theorem dL_refuses_381 : decode cL_refuses 381 = .ok (.iconst 0, 1) := by decide +kernel
theorem dL_refuses_382 : decode cL_refuses 382 = .ok (.iconst 4, 1) := by decide +kernel
theorem dL_refuses_383 : decode cL_refuses 383 = .ok (.iconst 1, 1) := by decide +kernel
theorem dL_refuses_384 : decode cL_refuses 384 = .ok (.invokestatic 119, 3) := by decide +kernel
theorem dL_refuses_387 : decode cL_refuses 387 = .ok (.ldc2_w 29, 3) := by decide +kernel
theorem dL_refuses_390 : decode cL_refuses 390 = .ok (.lcmp, 1) := by decide +kernel
theorem dL_refuses_391 : decode cL_refuses 391 = .ok (.ifCond .ne 83, 3) := by decide +kernel
theorem dL_refuses_394 : decode cL_refuses 394 = .ok (.aload_n 0, 1) := by decide +kernel
theorem dL_refuses_395 : decode cL_refuses 395 = .ok (.iconst 4, 1) := by decide +kernel
theorem dL_refuses_396 : decode cL_refuses 396 = .ok (.invokestatic 121, 3) := by decide +kernel
theorem dL_refuses_399 : decode cL_refuses 399 = .ok (.ldc2_w 29, 3) := by decide +kernel
theorem dL_refuses_402 : decode cL_refuses 402 = .ok (.lcmp, 1) := by decide +kernel
theorem dL_refuses_403 : decode cL_refuses 403 = .ok (.ifCond .ne 71, 3) := by decide +kernel
theorem dL_refuses_406 : decode cL_refuses 406 = .ok (.aload_n 0, 1) := by decide +kernel
theorem dL_refuses_407 : decode cL_refuses 407 = .ok (.iconst 4, 1) := by decide +kernel
theorem dL_refuses_408 : decode cL_refuses 408 = .ok (.iconst 0, 1) := by decide +kernel
theorem dL_refuses_409 : decode cL_refuses 409 = .ok (.invokestatic 85, 3) := by decide +kernel
theorem dL_refuses_412 : decode cL_refuses 412 = .ok (.ldc2_w 29, 3) := by decide +kernel
theorem dL_refuses_415 : decode cL_refuses 415 = .ok (.lcmp, 1) := by decide +kernel
theorem dL_refuses_416 : decode cL_refuses 416 = .ok (.ifCond .ne 58, 3) := by decide +kernel
theorem dL_refuses_419 : decode cL_refuses 419 = .ok (.aload_n 0, 1) := by decide +kernel
theorem dL_refuses_420 : decode cL_refuses 420 = .ok (.iconst 0, 1) := by decide +kernel
theorem dL_refuses_421 : decode cL_refuses 421 = .ok (.bipush 6, 2) := by decide +kernel
theorem dL_refuses_423 : decode cL_refuses 423 = .ok (.invokestatic 85, 3) := by decide +kernel
theorem dL_refuses_426 : decode cL_refuses 426 = .ok (.ldc2_w 17, 3) := by decide +kernel
theorem dL_refuses_429 : decode cL_refuses 429 = .ok (.lcmp, 1) := by decide +kernel
theorem dL_refuses_430 : decode cL_refuses 430 = .ok (.ifCond .ne 44, 3) := by decide +kernel
theorem dL_refuses_433 : decode cL_refuses 433 = .ok (.aload_n 0, 1) := by decide +kernel
theorem dL_refuses_434 : decode cL_refuses 434 = .ok (.iconst 0, 1) := by decide +kernel
theorem dL_refuses_435 : decode cL_refuses 435 = .ok (.iconst 4, 1) := by decide +kernel
theorem dL_refuses_436 : decode cL_refuses 436 = .ok (.iconst 0, 1) := by decide +kernel
theorem dL_refuses_437 : decode cL_refuses 437 = .ok (.invokestatic 90, 3) := by decide +kernel
theorem dL_refuses_440 : decode cL_refuses 440 = .ok (.ldc2_w 29, 3) := by decide +kernel
theorem dL_refuses_443 : decode cL_refuses 443 = .ok (.lcmp, 1) := by decide +kernel
theorem dL_refuses_444 : decode cL_refuses 444 = .ok (.ifCond .ne 30, 3) := by decide +kernel
theorem dL_refuses_447 : decode cL_refuses 447 = .ok (.aload_n 0, 1) := by decide +kernel
theorem dL_refuses_448 : decode cL_refuses 448 = .ok (.iconst 0, 1) := by decide +kernel
theorem dL_refuses_449 : decode cL_refuses 449 = .ok (.iconst 4, 1) := by decide +kernel
theorem dL_refuses_450 : decode cL_refuses 450 = .ok (.iconst 0, 1) := by decide +kernel
theorem dL_refuses_451 : decode cL_refuses 451 = .ok (.iconst 0, 1) := by decide +kernel
theorem dL_refuses_452 : decode cL_refuses 452 = .ok (.invokestatic 92, 3) := by decide +kernel
theorem dL_refuses_455 : decode cL_refuses 455 = .ok (.ldc2_w 29, 3) := by decide +kernel
theorem dL_refuses_458 : decode cL_refuses 458 = .ok (.lcmp, 1) := by decide +kernel
theorem dL_refuses_459 : decode cL_refuses 459 = .ok (.ifCond .ne 15, 3) := by decide +kernel
theorem dL_refuses_462 : decode cL_refuses 462 = .ok (.aload_n 0, 1) := by decide +kernel
theorem dL_refuses_463 : decode cL_refuses 463 = .ok (.invokevirtual 103, 3) := by decide +kernel
theorem dL_refuses_466 : decode cL_refuses 466 = .ok (.iload_n 1, 1) := by decide +kernel
theorem dL_refuses_467 : decode cL_refuses 467 = .ok (.if_icmp .ne 7, 3) := by decide +kernel
theorem dL_refuses_470 : decode cL_refuses 470 = .ok (.iconst 1, 1) := by decide +kernel
theorem dL_refuses_471 : decode cL_refuses 471 = .ok (.goto 4, 3) := by decide +kernel
theorem dL_refuses_474 : decode cL_refuses 474 = .ok (.iconst 0, 1) := by decide +kernel
theorem dL_refuses_475 : decode cL_refuses 475 = .ok (.ireturn, 1) := by decide +kernel
theorem dL_law_0 : decode cL_law 0 = .ok (.new 10, 3) := by decide +kernel
theorem dL_law_3 : decode cL_law 3 = .ok (.dup, 1) := by decide +kernel
theorem dL_law_4 : decode cL_law 4 = .ok (.invokespecial 123, 3) := by decide +kernel
theorem dL_law_7 : decode cL_law 7 = .ok (.astore_n 1, 1) := by decide +kernel
theorem dL_law_8 : decode cL_law 8 = .ok (.iconst 1, 1) := by decide +kernel
theorem dL_law_9 : decode cL_law 9 = .ok (.istore_n 2, 1) := by decide +kernel
theorem dL_law_10 : decode cL_law 10 = .ok (.bipush 6, 2) := by decide +kernel
theorem dL_law_12 : decode cL_law 12 = .ok (.newarray .int, 2) := by decide +kernel
theorem dL_law_14 : decode cL_law 14 = .ok (.astore_n 3, 1) := by decide +kernel
theorem dL_law_15 : decode cL_law 15 = .ok (.iconst 0, 1) := by decide +kernel
theorem dL_law_16 : decode cL_law 16 = .ok (.istore 4, 2) := by decide +kernel
theorem dL_law_18 : decode cL_law 18 = .ok (.iload 4, 2) := by decide +kernel
theorem dL_law_20 : decode cL_law 20 = .ok (.iconst 3, 1) := by decide +kernel
theorem dL_law_21 : decode cL_law 21 = .ok (.if_icmp .ge 108, 3) := by decide +kernel
theorem dL_law_24 : decode cL_law 24 = .ok (.iload_n 2, 1) := by decide +kernel
theorem dL_law_25 : decode cL_law 25 = .ok (.ifCond .eq 104, 3) := by decide +kernel
theorem dL_law_28 : decode cL_law 28 = .ok (.aload_n 0, 1) := by decide +kernel
theorem dL_law_29 : decode cL_law 29 = .ok (.iload 4, 2) := by decide +kernel
theorem dL_law_31 : decode cL_law 31 = .ok (.invokestatic 124, 3) := by decide +kernel
theorem dL_law_34 : decode cL_law 34 = .ok (.istore 5, 2) := by decide +kernel
theorem dL_law_36 : decode cL_law 36 = .ok (.aload_n 3, 1) := by decide +kernel
theorem dL_law_37 : decode cL_law 37 = .ok (.iconst 2, 1) := by decide +kernel
theorem dL_law_38 : decode cL_law 38 = .ok (.iload 4, 2) := by decide +kernel
theorem dL_law_40 : decode cL_law 40 = .ok (.imul, 1) := by decide +kernel
theorem dL_law_41 : decode cL_law 41 = .ok (.iconst 1, 1) := by decide +kernel
theorem dL_law_42 : decode cL_law 42 = .ok (.iload 5, 2) := by decide +kernel
theorem dL_law_44 : decode cL_law 44 = .ok (.iconst 5, 1) := by decide +kernel
theorem dL_law_45 : decode cL_law 45 = .ok (.irem, 1) := by decide +kernel
theorem dL_law_46 : decode cL_law 46 = .ok (.iadd, 1) := by decide +kernel
theorem dL_law_47 : decode cL_law 47 = .ok (.iastore, 1) := by decide +kernel
theorem dL_law_48 : decode cL_law 48 = .ok (.iload 5, 2) := by decide +kernel
theorem dL_law_50 : decode cL_law 50 = .ok (.bipush 8, 2) := by decide +kernel
theorem dL_law_52 : decode cL_law 52 = .ok (.idiv, 1) := by decide +kernel
theorem dL_law_53 : decode cL_law 53 = .ok (.bipush 6, 2) := by decide +kernel
theorem dL_law_55 : decode cL_law 55 = .ok (.irem, 1) := by decide +kernel
theorem dL_law_56 : decode cL_law 56 = .ok (.istore 6, 2) := by decide +kernel
theorem dL_law_58 : decode cL_law 58 = .ok (.aload_n 3, 1) := by decide +kernel
theorem dL_law_59 : decode cL_law 59 = .ok (.iconst 2, 1) := by decide +kernel
theorem dL_law_60 : decode cL_law 60 = .ok (.iload 4, 2) := by decide +kernel
theorem dL_law_62 : decode cL_law 62 = .ok (.imul, 1) := by decide +kernel
theorem dL_law_63 : decode cL_law 63 = .ok (.iconst 1, 1) := by decide +kernel
theorem dL_law_64 : decode cL_law 64 = .ok (.iadd, 1) := by decide +kernel
theorem dL_law_65 : decode cL_law 65 = .ok (.iload 6, 2) := by decide +kernel
theorem dL_law_67 : decode cL_law 67 = .ok (.iconst 5, 1) := by decide +kernel
theorem dL_law_68 : decode cL_law 68 = .ok (.if_icmp .ne 12, 3) := by decide +kernel
theorem dL_law_71 : decode cL_law 71 = .ok (.aload_n 3, 1) := by decide +kernel
theorem dL_law_72 : decode cL_law 72 = .ok (.iconst 2, 1) := by decide +kernel
theorem dL_law_73 : decode cL_law 73 = .ok (.iload 4, 2) := by decide +kernel
theorem dL_law_75 : decode cL_law 75 = .ok (.imul, 1) := by decide +kernel
theorem dL_law_76 : decode cL_law 76 = .ok (.iaload, 1) := by decide +kernel
theorem dL_law_77 : decode cL_law 77 = .ok (.goto 12, 3) := by decide +kernel
theorem dL_law_80 : decode cL_law 80 = .ok (.iconst 1, 1) := by decide +kernel
theorem dL_law_81 : decode cL_law 81 = .ok (.iload 5, 2) := by decide +kernel
theorem dL_law_83 : decode cL_law 83 = .ok (.bipush 64, 2) := by decide +kernel
theorem dL_law_85 : decode cL_law 85 = .ok (.idiv, 1) := by decide +kernel
theorem dL_law_86 : decode cL_law 86 = .ok (.iconst 5, 1) := by decide +kernel
theorem dL_law_87 : decode cL_law 87 = .ok (.irem, 1) := by decide +kernel
theorem dL_law_88 : decode cL_law 88 = .ok (.iadd, 1) := by decide +kernel
theorem dL_law_89 : decode cL_law 89 = .ok (.iastore, 1) := by decide +kernel
theorem dL_law_90 : decode cL_law 90 = .ok (.aload_n 1, 1) := by decide +kernel
theorem dL_law_91 : decode cL_law 91 = .ok (.aload_n 3, 1) := by decide +kernel
theorem dL_law_92 : decode cL_law 92 = .ok (.iconst 2, 1) := by decide +kernel
theorem dL_law_93 : decode cL_law 93 = .ok (.iload 4, 2) := by decide +kernel
theorem dL_law_95 : decode cL_law 95 = .ok (.imul, 1) := by decide +kernel
theorem dL_law_96 : decode cL_law 96 = .ok (.iaload, 1) := by decide +kernel
theorem dL_law_97 : decode cL_law 97 = .ok (.aload_n 3, 1) := by decide +kernel
theorem dL_law_98 : decode cL_law 98 = .ok (.iconst 2, 1) := by decide +kernel
theorem dL_law_99 : decode cL_law 99 = .ok (.iload 4, 2) := by decide +kernel
theorem dL_law_101 : decode cL_law 101 = .ok (.imul, 1) := by decide +kernel
theorem dL_law_102 : decode cL_law 102 = .ok (.iconst 1, 1) := by decide +kernel
theorem dL_law_103 : decode cL_law 103 = .ok (.iadd, 1) := by decide +kernel
theorem dL_law_104 : decode cL_law 104 = .ok (.iaload, 1) := by decide +kernel
theorem dL_law_105 : decode cL_law 105 = .ok (.iload 6, 2) := by decide +kernel
theorem dL_law_107 : decode cL_law 107 = .ok (.invokestatic 107, 3) := by decide +kernel
theorem dL_law_110 : decode cL_law 110 = .ok (.iload 4, 2) := by decide +kernel
theorem dL_law_112 : decode cL_law 112 = .ok (.i2l, 1) := by decide +kernel
theorem dL_law_113 : decode cL_law 113 = .ok (.lcmp, 1) := by decide +kernel
theorem dL_law_114 : decode cL_law 114 = .ok (.ifCond .ne 7, 3) := by decide +kernel
theorem dL_law_117 : decode cL_law 117 = .ok (.iconst 1, 1) := by decide +kernel
theorem dL_law_118 : decode cL_law 118 = .ok (.goto 4, 3) := by decide +kernel
theorem dL_law_121 : decode cL_law 121 = .ok (.iconst 0, 1) := by decide +kernel
theorem dL_law_122 : decode cL_law 122 = .ok (.istore_n 2, 1) := by decide +kernel
theorem dL_law_123 : decode cL_law 123 = .ok (.iinc 4 1, 3) := by decide +kernel
theorem dL_law_126 : decode cL_law 126 = .ok (.goto (-108), 3) := by decide +kernel
theorem dL_law_129 : decode cL_law 129 = .ok (.iconst 0, 1) := by decide +kernel
theorem dL_law_130 : decode cL_law 130 = .ok (.istore 4, 2) := by decide +kernel
theorem dL_law_132 : decode cL_law 132 = .ok (.iconst 0, 1) := by decide +kernel
theorem dL_law_133 : decode cL_law 133 = .ok (.istore 5, 2) := by decide +kernel
theorem dL_law_135 : decode cL_law 135 = .ok (.iload 5, 2) := by decide +kernel
theorem dL_law_137 : decode cL_law 137 = .ok (.bipush 6, 2) := by decide +kernel
theorem dL_law_139 : decode cL_law 139 = .ok (.if_icmp .ge 58, 3) := by decide +kernel
theorem dL_law_142 : decode cL_law 142 = .ok (.iload_n 2, 1) := by decide +kernel
theorem dL_law_143 : decode cL_law 143 = .ok (.ifCond .eq 54, 3) := by decide +kernel
theorem dL_law_146 : decode cL_law 146 = .ok (.aload_n 1, 1) := by decide +kernel
theorem dL_law_147 : decode cL_law 147 = .ok (.iload 5, 2) := by decide +kernel
theorem dL_law_149 : decode cL_law 149 = .ok (.iconst 3, 1) := by decide +kernel
theorem dL_law_150 : decode cL_law 150 = .ok (.irem, 1) := by decide +kernel
theorem dL_law_151 : decode cL_law 151 = .ok (.iconst 1, 1) := by decide +kernel
theorem dL_law_152 : decode cL_law 152 = .ok (.invokestatic 73, 3) := by decide +kernel
theorem dL_law_155 : decode cL_law 155 = .ok (.l2i, 1) := by decide +kernel
theorem dL_law_156 : decode cL_law 156 = .ok (.iconst 1, 1) := by decide +kernel
theorem dL_law_157 : decode cL_law 157 = .ok (.iload 5, 2) := by decide +kernel
theorem dL_law_159 : decode cL_law 159 = .ok (.iconst 3, 1) := by decide +kernel
theorem dL_law_160 : decode cL_law 160 = .ok (.idiv, 1) := by decide +kernel
theorem dL_law_161 : decode cL_law 161 = .ok (.iadd, 1) := by decide +kernel
theorem dL_law_162 : decode cL_law 162 = .ok (.imul, 1) := by decide +kernel
theorem dL_law_163 : decode cL_law 163 = .ok (.istore 6, 2) := by decide +kernel
theorem dL_law_165 : decode cL_law 165 = .ok (.aload_n 1, 1) := by decide +kernel
theorem dL_law_166 : decode cL_law 166 = .ok (.iload 5, 2) := by decide +kernel
theorem dL_law_168 : decode cL_law 168 = .ok (.iconst 3, 1) := by decide +kernel
theorem dL_law_169 : decode cL_law 169 = .ok (.irem, 1) := by decide +kernel
theorem dL_law_170 : decode cL_law 170 = .ok (.iload 6, 2) := by decide +kernel
theorem dL_law_172 : decode cL_law 172 = .ok (.invokestatic 111, 3) := by decide +kernel
theorem dL_law_175 : decode cL_law 175 = .ok (.iload 5, 2) := by decide +kernel
theorem dL_law_177 : decode cL_law 177 = .ok (.i2l, 1) := by decide +kernel
theorem dL_law_178 : decode cL_law 178 = .ok (.lcmp, 1) := by decide +kernel
theorem dL_law_179 : decode cL_law 179 = .ok (.ifCond .ne 7, 3) := by decide +kernel
theorem dL_law_182 : decode cL_law 182 = .ok (.iconst 1, 1) := by decide +kernel
theorem dL_law_183 : decode cL_law 183 = .ok (.goto 4, 3) := by decide +kernel
theorem dL_law_186 : decode cL_law 186 = .ok (.iconst 0, 1) := by decide +kernel
theorem dL_law_187 : decode cL_law 187 = .ok (.istore_n 2, 1) := by decide +kernel
theorem dL_law_188 : decode cL_law 188 = .ok (.iinc 4 1, 3) := by decide +kernel
theorem dL_law_191 : decode cL_law 191 = .ok (.iinc 5 1, 3) := by decide +kernel
theorem dL_law_194 : decode cL_law 194 = .ok (.goto (-59), 3) := by decide +kernel
theorem dL_law_197 : decode cL_law 197 = .ok (.iconst 0, 1) := by decide +kernel
theorem dL_law_198 : decode cL_law 198 = .ok (.istore 5, 2) := by decide +kernel
theorem dL_law_200 : decode cL_law 200 = .ok (.bipush 16, 2) := by decide +kernel
theorem dL_law_202 : decode cL_law 202 = .ok (.newarray .int, 2) := by decide +kernel
theorem dL_law_204 : decode cL_law 204 = .ok (.astore 6, 2) := by decide +kernel
theorem dL_law_206 : decode cL_law 206 = .ok (.iconst 0, 1) := by decide +kernel
theorem dL_law_207 : decode cL_law 207 = .ok (.istore 7, 2) := by decide +kernel
theorem dL_law_209 : decode cL_law 209 = .ok (.iload 7, 2) := by decide +kernel
theorem dL_law_211 : decode cL_law 211 = .ok (.bipush 46, 2) := by decide +kernel
theorem dL_law_213 : decode cL_law 213 = .ok (.if_icmp .ge 1005, 3) := by decide +kernel
theorem dL_law_216 : decode cL_law 216 = .ok (.iload_n 2, 1) := by decide +kernel
theorem dL_law_217 : decode cL_law 217 = .ok (.ifCond .eq 1001, 3) := by decide +kernel
theorem dL_law_220 : decode cL_law 220 = .ok (.aload_n 0, 1) := by decide +kernel
theorem dL_law_221 : decode cL_law 221 = .ok (.iconst 2, 1) := by decide +kernel
theorem dL_law_222 : decode cL_law 222 = .ok (.iload 7, 2) := by decide +kernel
theorem dL_law_224 : decode cL_law 224 = .ok (.imul, 1) := by decide +kernel
theorem dL_law_225 : decode cL_law 225 = .ok (.iconst 3, 1) := by decide +kernel
theorem dL_law_226 : decode cL_law 226 = .ok (.iadd, 1) := by decide +kernel
theorem dL_law_227 : decode cL_law 227 = .ok (.invokestatic 124, 3) := by decide +kernel
theorem dL_law_230 : decode cL_law 230 = .ok (.istore 8, 2) := by decide +kernel
theorem dL_law_232 : decode cL_law 232 = .ok (.aload_n 0, 1) := by decide +kernel
theorem dL_law_233 : decode cL_law 233 = .ok (.iconst 2, 1) := by decide +kernel
theorem dL_law_234 : decode cL_law 234 = .ok (.iload 7, 2) := by decide +kernel
theorem dL_law_236 : decode cL_law 236 = .ok (.imul, 1) := by decide +kernel
theorem dL_law_237 : decode cL_law 237 = .ok (.iconst 4, 1) := by decide +kernel
theorem dL_law_238 : decode cL_law 238 = .ok (.iadd, 1) := by decide +kernel
theorem dL_law_239 : decode cL_law 239 = .ok (.invokestatic 124, 3) := by decide +kernel
theorem dL_law_242 : decode cL_law 242 = .ok (.istore 9, 2) := by decide +kernel
theorem dL_law_244 : decode cL_law 244 = .ok (.iload 8, 2) := by decide +kernel
theorem dL_law_246 : decode cL_law 246 = .ok (.bipush 11, 2) := by decide +kernel
theorem dL_law_248 : decode cL_law 248 = .ok (.irem, 1) := by decide +kernel
theorem dL_law_249 : decode cL_law 249 = .ok (.istore 10, 2) := by decide +kernel
theorem dL_law_251 : decode cL_law 251 = .ok (.iload 8, 2) := by decide +kernel
theorem dL_law_253 : decode cL_law 253 = .ok (.bipush 16, 2) := by decide +kernel
theorem dL_law_255 : decode cL_law 255 = .ok (.idiv, 1) := by decide +kernel
theorem dL_law_256 : decode cL_law 256 = .ok (.iconst 4, 1) := by decide +kernel
theorem dL_law_257 : decode cL_law 257 = .ok (.irem, 1) := by decide +kernel
theorem dL_law_258 : decode cL_law 258 = .ok (.istore 11, 2) := by decide +kernel
theorem dL_law_260 : decode cL_law 260 = .ok (.iload 10, 2) := by decide +kernel
theorem dL_law_262 : decode cL_law 262 = .ok (.iconst 3, 1) := by decide +kernel
theorem dL_law_263 : decode cL_law 263 = .ok (.if_icmp .ge 121, 3) := by decide +kernel
theorem dL_law_266 : decode cL_law 266 = .ok (.iload 9, 2) := by decide +kernel
theorem dL_law_268 : decode cL_law 268 = .ok (.iconst 3, 1) := by decide +kernel
theorem dL_law_269 : decode cL_law 269 = .ok (.irem, 1) := by decide +kernel
theorem dL_law_270 : decode cL_law 270 = .ok (.istore 12, 2) := by decide +kernel
theorem dL_law_272 : decode cL_law 272 = .ok (.iload 9, 2) := by decide +kernel
theorem dL_law_274 : decode cL_law 274 = .ok (.iconst 4, 1) := by decide +kernel
theorem dL_law_275 : decode cL_law 275 = .ok (.idiv, 1) := by decide +kernel
theorem dL_law_276 : decode cL_law 276 = .ok (.aload_n 3, 1) := by decide +kernel
theorem dL_law_277 : decode cL_law 277 = .ok (.iconst 2, 1) := by decide +kernel
theorem dL_law_278 : decode cL_law 278 = .ok (.iload 12, 2) := by decide +kernel
theorem dL_law_280 : decode cL_law 280 = .ok (.imul, 1) := by decide +kernel
theorem dL_law_281 : decode cL_law 281 = .ok (.iaload, 1) := by decide +kernel
theorem dL_law_282 : decode cL_law 282 = .ok (.irem, 1) := by decide +kernel
theorem dL_law_283 : decode cL_law 283 = .ok (.istore 13, 2) := by decide +kernel
theorem dL_law_285 : decode cL_law 285 = .ok (.iload 9, 2) := by decide +kernel
theorem dL_law_287 : decode cL_law 287 = .ok (.bipush 32, 2) := by decide +kernel
theorem dL_law_289 : decode cL_law 289 = .ok (.idiv, 1) := by decide +kernel
theorem dL_law_290 : decode cL_law 290 = .ok (.aload_n 3, 1) := by decide +kernel
theorem dL_law_291 : decode cL_law 291 = .ok (.iconst 2, 1) := by decide +kernel
theorem dL_law_292 : decode cL_law 292 = .ok (.iload 12, 2) := by decide +kernel
theorem dL_law_294 : decode cL_law 294 = .ok (.imul, 1) := by decide +kernel
theorem dL_law_295 : decode cL_law 295 = .ok (.iconst 1, 1) := by decide +kernel
theorem dL_law_296 : decode cL_law 296 = .ok (.iadd, 1) := by decide +kernel
theorem dL_law_297 : decode cL_law 297 = .ok (.iaload, 1) := by decide +kernel
theorem dL_law_298 : decode cL_law 298 = .ok (.irem, 1) := by decide +kernel
theorem dL_law_299 : decode cL_law 299 = .ok (.istore 14, 2) := by decide +kernel
theorem dL_law_301 : decode cL_law 301 = .ok (.aload_n 1, 1) := by decide +kernel
theorem dL_law_302 : decode cL_law 302 = .ok (.iload 12, 2) := by decide +kernel
theorem dL_law_304 : decode cL_law 304 = .ok (.iload 13, 2) := by decide +kernel
theorem dL_law_306 : decode cL_law 306 = .ok (.iload 14, 2) := by decide +kernel
theorem dL_law_308 : decode cL_law 308 = .ok (.invokestatic 80, 3) := by decide +kernel
theorem dL_law_311 : decode cL_law 311 = .ok (.lstore 15, 2) := by decide +kernel
theorem dL_law_313 : decode cL_law 313 = .ok (.aload_n 1, 1) := by decide +kernel
theorem dL_law_314 : decode cL_law 314 = .ok (.iload 12, 2) := by decide +kernel
theorem dL_law_316 : decode cL_law 316 = .ok (.iload 13, 2) := by decide +kernel
theorem dL_law_318 : decode cL_law 318 = .ok (.iload 14, 2) := by decide +kernel
theorem dL_law_320 : decode cL_law 320 = .ok (.iload 9, 2) := by decide +kernel
theorem dL_law_322 : decode cL_law 322 = .ok (.sipush 256, 3) := by decide +kernel
theorem dL_law_325 : decode cL_law 325 = .ok (.idiv, 1) := by decide +kernel
theorem dL_law_326 : decode cL_law 326 = .ok (.bipush 8, 2) := by decide +kernel
theorem dL_law_328 : decode cL_law 328 = .ok (.irem, 1) := by decide +kernel
theorem dL_law_329 : decode cL_law 329 = .ok (.invokestatic 109, 3) := by decide +kernel
theorem dL_law_332 : decode cL_law 332 = .ok (.lload 15, 2) := by decide +kernel
theorem dL_law_334 : decode cL_law 334 = .ok (.lcmp, 1) := by decide +kernel
theorem dL_law_335 : decode cL_law 335 = .ok (.ifCond .ne 44, 3) := by decide +kernel
theorem dL_law_338 : decode cL_law 338 = .ok (.aload_n 1, 1) := by decide +kernel
theorem dL_law_339 : decode cL_law 339 = .ok (.iload 12, 2) := by decide +kernel
theorem dL_law_341 : decode cL_law 341 = .ok (.iload 13, 2) := by decide +kernel
theorem dL_law_343 : decode cL_law 343 = .ok (.iload 14, 2) := by decide +kernel
theorem dL_law_345 : decode cL_law 345 = .ok (.invokestatic 80, 3) := by decide +kernel
theorem dL_law_348 : decode cL_law 348 = .ok (.iload 9, 2) := by decide +kernel
theorem dL_law_350 : decode cL_law 350 = .ok (.sipush 256, 3) := by decide +kernel
theorem dL_law_353 : decode cL_law 353 = .ok (.idiv, 1) := by decide +kernel
theorem dL_law_354 : decode cL_law 354 = .ok (.bipush 8, 2) := by decide +kernel
theorem dL_law_356 : decode cL_law 356 = .ok (.irem, 1) := by decide +kernel
theorem dL_law_357 : decode cL_law 357 = .ok (.i2l, 1) := by decide +kernel
theorem dL_law_358 : decode cL_law 358 = .ok (.lcmp, 1) := by decide +kernel
theorem dL_law_359 : decode cL_law 359 = .ok (.ifCond .ne 20, 3) := by decide +kernel
theorem dL_law_362 : decode cL_law 362 = .ok (.aload_n 1, 1) := by decide +kernel
theorem dL_law_363 : decode cL_law 363 = .ok (.iload 12, 2) := by decide +kernel
theorem dL_law_365 : decode cL_law 365 = .ok (.iload 9, 2) := by decide +kernel
theorem dL_law_367 : decode cL_law 367 = .ok (.iload 8, 2) := by decide +kernel
theorem dL_law_369 : decode cL_law 369 = .ok (.invokestatic 128, 3) := by decide +kernel
theorem dL_law_372 : decode cL_law 372 = .ok (.ifCond .eq 7, 3) := by decide +kernel
theorem dL_law_375 : decode cL_law 375 = .ok (.iconst 1, 1) := by decide +kernel
theorem dL_law_376 : decode cL_law 376 = .ok (.goto 4, 3) := by decide +kernel
theorem dL_law_379 : decode cL_law 379 = .ok (.iconst 0, 1) := by decide +kernel
theorem dL_law_380 : decode cL_law 380 = .ok (.istore_n 2, 1) := by decide +kernel
theorem dL_law_381 : decode cL_law 381 = .ok (.goto 759, 3) := by decide +kernel
theorem dL_law_384 : decode cL_law 384 = .ok (.iload 10, 2) := by decide +kernel
theorem dL_law_386 : decode cL_law 386 = .ok (.iconst 3, 1) := by decide +kernel
theorem dL_law_387 : decode cL_law 387 = .ok (.if_icmp .ne 120, 3) := by decide +kernel
theorem dL_law_390 : decode cL_law 390 = .ok (.iload 9, 2) := by decide +kernel
theorem dL_law_392 : decode cL_law 392 = .ok (.iload 4, 2) := by decide +kernel
theorem dL_law_394 : decode cL_law 394 = .ok (.irem, 1) := by decide +kernel
theorem dL_law_395 : decode cL_law 395 = .ok (.istore 12, 2) := by decide +kernel
theorem dL_law_397 : decode cL_law 397 = .ok (.bipush 20, 2) := by decide +kernel
theorem dL_law_399 : decode cL_law 399 = .ok (.iload 9, 2) := by decide +kernel
theorem dL_law_401 : decode cL_law 401 = .ok (.bipush 8, 2) := by decide +kernel
theorem dL_law_403 : decode cL_law 403 = .ok (.idiv, 1) := by decide +kernel
theorem dL_law_404 : decode cL_law 404 = .ok (.bipush 120, 2) := by decide +kernel
theorem dL_law_406 : decode cL_law 406 = .ok (.irem, 1) := by decide +kernel
theorem dL_law_407 : decode cL_law 407 = .ok (.iadd, 1) := by decide +kernel
theorem dL_law_408 : decode cL_law 408 = .ok (.istore 13, 2) := by decide +kernel
theorem dL_law_410 : decode cL_law 410 = .ok (.aload_n 1, 1) := by decide +kernel
theorem dL_law_411 : decode cL_law 411 = .ok (.iload 12, 2) := by decide +kernel
theorem dL_law_413 : decode cL_law 413 = .ok (.iload 9, 2) := by decide +kernel
theorem dL_law_415 : decode cL_law 415 = .ok (.bipush 10, 2) := by decide +kernel
theorem dL_law_417 : decode cL_law 417 = .ok (.irem, 1) := by decide +kernel
theorem dL_law_418 : decode cL_law 418 = .ok (.iconst 1, 1) := by decide +kernel
theorem dL_law_419 : decode cL_law 419 = .ok (.iload 9, 2) := by decide +kernel
theorem dL_law_421 : decode cL_law 421 = .ok (.bipush 16, 2) := by decide +kernel
theorem dL_law_423 : decode cL_law 423 = .ok (.idiv, 1) := by decide +kernel
theorem dL_law_424 : decode cL_law 424 = .ok (.bipush 20, 2) := by decide +kernel
theorem dL_law_426 : decode cL_law 426 = .ok (.irem, 1) := by decide +kernel
theorem dL_law_427 : decode cL_law 427 = .ok (.iadd, 1) := by decide +kernel
theorem dL_law_428 : decode cL_law 428 = .ok (.iload 13, 2) := by decide +kernel
theorem dL_law_430 : decode cL_law 430 = .ok (.invokestatic 113, 3) := by decide +kernel
theorem dL_law_433 : decode cL_law 433 = .ok (.lstore 14, 2) := by decide +kernel
theorem dL_law_435 : decode cL_law 435 = .ok (.lload 14, 2) := by decide +kernel
theorem dL_law_437 : decode cL_law 437 = .ok (.iload 5, 2) := by decide +kernel
theorem dL_law_439 : decode cL_law 439 = .ok (.bipush 10, 2) := by decide +kernel
theorem dL_law_441 : decode cL_law 441 = .ok (.if_icmp .ne 9, 3) := by decide +kernel
theorem dL_law_444 : decode cL_law 444 = .ok (.ldc2_w 21, 3) := by decide +kernel
theorem dL_law_447 : decode cL_law 447 = .ok (.goto 6, 3) := by decide +kernel
theorem dL_law_450 : decode cL_law 450 = .ok (.iload 5, 2) := by decide +kernel
theorem dL_law_452 : decode cL_law 452 = .ok (.i2l, 1) := by decide +kernel
theorem dL_law_453 : decode cL_law 453 = .ok (.lcmp, 1) := by decide +kernel
theorem dL_law_454 : decode cL_law 454 = .ok (.ifCond .ne 7, 3) := by decide +kernel
theorem dL_law_457 : decode cL_law 457 = .ok (.iconst 1, 1) := by decide +kernel
theorem dL_law_458 : decode cL_law 458 = .ok (.goto 4, 3) := by decide +kernel
theorem dL_law_461 : decode cL_law 461 = .ok (.iconst 0, 1) := by decide +kernel
theorem dL_law_462 : decode cL_law 462 = .ok (.istore_n 2, 1) := by decide +kernel
theorem dL_law_463 : decode cL_law 463 = .ok (.iload 5, 2) := by decide +kernel
theorem dL_law_465 : decode cL_law 465 = .ok (.iload 5, 2) := by decide +kernel
theorem dL_law_467 : decode cL_law 467 = .ok (.bipush 10, 2) := by decide +kernel
theorem dL_law_469 : decode cL_law 469 = .ok (.if_icmp .ne 7, 3) := by decide +kernel
theorem dL_law_472 : decode cL_law 472 = .ok (.iconst 0, 1) := by decide +kernel
theorem dL_law_473 : decode cL_law 473 = .ok (.goto 4, 3) := by decide +kernel
theorem dL_law_476 : decode cL_law 476 = .ok (.iconst 1, 1) := by decide +kernel
theorem dL_law_477 : decode cL_law 477 = .ok (.iadd, 1) := by decide +kernel
theorem dL_law_478 : decode cL_law 478 = .ok (.istore 5, 2) := by decide +kernel
theorem dL_law_480 : decode cL_law 480 = .ok (.iload_n 2, 1) := by decide +kernel
theorem dL_law_481 : decode cL_law 481 = .ok (.ifCond .eq 21, 3) := by decide +kernel
theorem dL_law_484 : decode cL_law 484 = .ok (.aload_n 1, 1) := by decide +kernel
theorem dL_law_485 : decode cL_law 485 = .ok (.iload 5, 2) := by decide +kernel
theorem dL_law_487 : decode cL_law 487 = .ok (.iconst 1, 1) := by decide +kernel
theorem dL_law_488 : decode cL_law 488 = .ok (.isub, 1) := by decide +kernel
theorem dL_law_489 : decode cL_law 489 = .ok (.iconst 4, 1) := by decide +kernel
theorem dL_law_490 : decode cL_law 490 = .ok (.invokestatic 99, 3) := by decide +kernel
theorem dL_law_493 : decode cL_law 493 = .ok (.lconst 1, 1) := by decide +kernel
theorem dL_law_494 : decode cL_law 494 = .ok (.lcmp, 1) := by decide +kernel
theorem dL_law_495 : decode cL_law 495 = .ok (.ifCond .lt 7, 3) := by decide +kernel
theorem dL_law_498 : decode cL_law 498 = .ok (.iconst 1, 1) := by decide +kernel
theorem dL_law_499 : decode cL_law 499 = .ok (.goto 4, 3) := by decide +kernel
theorem dL_law_502 : decode cL_law 502 = .ok (.iconst 0, 1) := by decide +kernel
theorem dL_law_503 : decode cL_law 503 = .ok (.istore_n 2, 1) := by decide +kernel
theorem dL_law_504 : decode cL_law 504 = .ok (.goto 636, 3) := by decide +kernel
theorem dL_law_507 : decode cL_law 507 = .ok (.iload 10, 2) := by decide +kernel
theorem dL_law_509 : decode cL_law 509 = .ok (.bipush 6, 2) := by decide +kernel
theorem dL_law_511 : decode cL_law 511 = .ok (.if_icmp .ge 115, 3) := by decide +kernel
theorem dL_law_514 : decode cL_law 514 = .ok (.aload_n 1, 1) := by decide +kernel
theorem dL_law_515 : decode cL_law 515 = .ok (.iload 11, 2) := by decide +kernel
theorem dL_law_517 : decode cL_law 517 = .ok (.iconst 0, 1) := by decide +kernel
theorem dL_law_518 : decode cL_law 518 = .ok (.invokestatic 85, 3) := by decide +kernel
theorem dL_law_521 : decode cL_law 521 = .ok (.l2i, 1) := by decide +kernel
theorem dL_law_522 : decode cL_law 522 = .ok (.istore 12, 2) := by decide +kernel
theorem dL_law_524 : decode cL_law 524 = .ok (.aload_n 1, 1) := by decide +kernel
theorem dL_law_525 : decode cL_law 525 = .ok (.iload 11, 2) := by decide +kernel
theorem dL_law_527 : decode cL_law 527 = .ok (.iconst 2, 1) := by decide +kernel
theorem dL_law_528 : decode cL_law 528 = .ok (.invokestatic 85, 3) := by decide +kernel
theorem dL_law_531 : decode cL_law 531 = .ok (.lconst 0, 1) := by decide +kernel
theorem dL_law_532 : decode cL_law 532 = .ok (.lcmp, 1) := by decide +kernel
theorem dL_law_533 : decode cL_law 533 = .ok (.ifCond .ge 7, 3) := by decide +kernel
theorem dL_law_536 : decode cL_law 536 = .ok (.iconst 1, 1) := by decide +kernel
theorem dL_law_537 : decode cL_law 537 = .ok (.goto 4, 3) := by decide +kernel
theorem dL_law_540 : decode cL_law 540 = .ok (.iconst 0, 1) := by decide +kernel
theorem dL_law_541 : decode cL_law 541 = .ok (.istore 13, 2) := by decide +kernel
theorem dL_law_543 : decode cL_law 543 = .ok (.iconst 1, 1) := by decide +kernel
theorem dL_law_544 : decode cL_law 544 = .ok (.iload 9, 2) := by decide +kernel
theorem dL_law_546 : decode cL_law 546 = .ok (.bipush 16, 2) := by decide +kernel
theorem dL_law_548 : decode cL_law 548 = .ok (.idiv, 1) := by decide +kernel
theorem dL_law_549 : decode cL_law 549 = .ok (.bipush 30, 2) := by decide +kernel
theorem dL_law_551 : decode cL_law 551 = .ok (.irem, 1) := by decide +kernel
theorem dL_law_552 : decode cL_law 552 = .ok (.iadd, 1) := by decide +kernel
theorem dL_law_553 : decode cL_law 553 = .ok (.istore 14, 2) := by decide +kernel
theorem dL_law_555 : decode cL_law 555 = .ok (.aload_n 1, 1) := by decide +kernel
theorem dL_law_556 : decode cL_law 556 = .ok (.iload 11, 2) := by decide +kernel
theorem dL_law_558 : decode cL_law 558 = .ok (.iconst 1, 1) := by decide +kernel
theorem dL_law_559 : decode cL_law 559 = .ok (.iload 9, 2) := by decide +kernel
theorem dL_law_561 : decode cL_law 561 = .ok (.bipush 6, 2) := by decide +kernel
theorem dL_law_563 : decode cL_law 563 = .ok (.irem, 1) := by decide +kernel
theorem dL_law_564 : decode cL_law 564 = .ok (.iadd, 1) := by decide +kernel
theorem dL_law_565 : decode cL_law 565 = .ok (.iload 14, 2) := by decide +kernel
theorem dL_law_567 : decode cL_law 567 = .ok (.invokestatic 115, 3) := by decide +kernel
theorem dL_law_570 : decode cL_law 570 = .ok (.lstore 15, 2) := by decide +kernel
theorem dL_law_572 : decode cL_law 572 = .ok (.lload 15, 2) := by decide +kernel
theorem dL_law_574 : decode cL_law 574 = .ok (.iload 13, 2) := by decide +kernel
theorem dL_law_576 : decode cL_law 576 = .ok (.ifCond .eq 15, 3) := by decide +kernel
theorem dL_law_579 : decode cL_law 579 = .ok (.iload 12, 2) := by decide +kernel
theorem dL_law_581 : decode cL_law 581 = .ok (.iconst 4, 1) := by decide +kernel
theorem dL_law_582 : decode cL_law 582 = .ok (.if_icmp .ge 9, 3) := by decide +kernel
theorem dL_law_585 : decode cL_law 585 = .ok (.iload 12, 2) := by decide +kernel
theorem dL_law_587 : decode cL_law 587 = .ok (.i2l, 1) := by decide +kernel
theorem dL_law_588 : decode cL_law 588 = .ok (.goto 6, 3) := by decide +kernel
theorem dL_law_591 : decode cL_law 591 = .ok (.ldc2_w 21, 3) := by decide +kernel
theorem dL_law_594 : decode cL_law 594 = .ok (.lcmp, 1) := by decide +kernel
theorem dL_law_595 : decode cL_law 595 = .ok (.ifCond .ne 7, 3) := by decide +kernel
theorem dL_law_598 : decode cL_law 598 = .ok (.iconst 1, 1) := by decide +kernel
theorem dL_law_599 : decode cL_law 599 = .ok (.goto 4, 3) := by decide +kernel
theorem dL_law_602 : decode cL_law 602 = .ok (.iconst 0, 1) := by decide +kernel
theorem dL_law_603 : decode cL_law 603 = .ok (.istore_n 2, 1) := by decide +kernel
theorem dL_law_604 : decode cL_law 604 = .ok (.lload 15, 2) := by decide +kernel
theorem dL_law_606 : decode cL_law 606 = .ok (.lconst 0, 1) := by decide +kernel
theorem dL_law_607 : decode cL_law 607 = .ok (.lcmp, 1) := by decide +kernel
theorem dL_law_608 : decode cL_law 608 = .ok (.ifCond .lt 15, 3) := by decide +kernel
theorem dL_law_611 : decode cL_law 611 = .ok (.aload 6, 2) := by decide +kernel
theorem dL_law_613 : decode cL_law 613 = .ok (.iconst 4, 1) := by decide +kernel
theorem dL_law_614 : decode cL_law 614 = .ok (.iload 11, 2) := by decide +kernel
theorem dL_law_616 : decode cL_law 616 = .ok (.imul, 1) := by decide +kernel
theorem dL_law_617 : decode cL_law 617 = .ok (.iload 12, 2) := by decide +kernel
theorem dL_law_619 : decode cL_law 619 = .ok (.iadd, 1) := by decide +kernel
theorem dL_law_620 : decode cL_law 620 = .ok (.iload 14, 2) := by decide +kernel
theorem dL_law_622 : decode cL_law 622 = .ok (.iastore, 1) := by decide +kernel
theorem dL_law_623 : decode cL_law 623 = .ok (.goto 517, 3) := by decide +kernel
theorem dL_law_626 : decode cL_law 626 = .ok (.iload 10, 2) := by decide +kernel
theorem dL_law_628 : decode cL_law 628 = .ok (.bipush 8, 2) := by decide +kernel
theorem dL_law_630 : decode cL_law 630 = .ok (.if_icmp .ge 147, 3) := by decide +kernel
theorem dL_law_633 : decode cL_law 633 = .ok (.iload 5, 2) := by decide +kernel
theorem dL_law_635 : decode cL_law 635 = .ok (.ifCond .le 142, 3) := by decide +kernel
theorem dL_law_638 : decode cL_law 638 = .ok (.iload 9, 2) := by decide +kernel
theorem dL_law_640 : decode cL_law 640 = .ok (.iload 5, 2) := by decide +kernel
theorem dL_law_642 : decode cL_law 642 = .ok (.irem, 1) := by decide +kernel
theorem dL_law_643 : decode cL_law 643 = .ok (.istore 12, 2) := by decide +kernel
theorem dL_law_645 : decode cL_law 645 = .ok (.aload_n 1, 1) := by decide +kernel
theorem dL_law_646 : decode cL_law 646 = .ok (.iload 11, 2) := by decide +kernel
theorem dL_law_648 : decode cL_law 648 = .ok (.iconst 2, 1) := by decide +kernel
theorem dL_law_649 : decode cL_law 649 = .ok (.invokestatic 85, 3) := by decide +kernel
theorem dL_law_652 : decode cL_law 652 = .ok (.lconst 0, 1) := by decide +kernel
theorem dL_law_653 : decode cL_law 653 = .ok (.lcmp, 1) := by decide +kernel
theorem dL_law_654 : decode cL_law 654 = .ok (.ifCond .ge 7, 3) := by decide +kernel
theorem dL_law_657 : decode cL_law 657 = .ok (.iconst 1, 1) := by decide +kernel
theorem dL_law_658 : decode cL_law 658 = .ok (.goto 4, 3) := by decide +kernel
theorem dL_law_661 : decode cL_law 661 = .ok (.iconst 0, 1) := by decide +kernel
theorem dL_law_662 : decode cL_law 662 = .ok (.istore 13, 2) := by decide +kernel
theorem dL_law_664 : decode cL_law 664 = .ok (.aload_n 1, 1) := by decide +kernel
theorem dL_law_665 : decode cL_law 665 = .ok (.iload 12, 2) := by decide +kernel
theorem dL_law_667 : decode cL_law 667 = .ok (.iconst 2, 1) := by decide +kernel
theorem dL_law_668 : decode cL_law 668 = .ok (.invokestatic 99, 3) := by decide +kernel
theorem dL_law_671 : decode cL_law 671 = .ok (.lstore 14, 2) := by decide +kernel
theorem dL_law_673 : decode cL_law 673 = .ok (.aload_n 1, 1) := by decide +kernel
theorem dL_law_674 : decode cL_law 674 = .ok (.iload 11, 2) := by decide +kernel
theorem dL_law_676 : decode cL_law 676 = .ok (.iload 12, 2) := by decide +kernel
theorem dL_law_678 : decode cL_law 678 = .ok (.invokestatic 117, 3) := by decide +kernel
theorem dL_law_681 : decode cL_law 681 = .ok (.lstore 16, 2) := by decide +kernel
theorem dL_law_683 : decode cL_law 683 = .ok (.lload 16, 2) := by decide +kernel
theorem dL_law_685 : decode cL_law 685 = .ok (.ldc2_w 21, 3) := by decide +kernel
theorem dL_law_688 : decode cL_law 688 = .ok (.lcmp, 1) := by decide +kernel
theorem dL_law_689 : decode cL_law 689 = .ok (.ifCond .ne 24, 3) := by decide +kernel
theorem dL_law_692 : decode cL_law 692 = .ok (.aload_n 1, 1) := by decide +kernel
theorem dL_law_693 : decode cL_law 693 = .ok (.iload 12, 2) := by decide +kernel
theorem dL_law_695 : decode cL_law 695 = .ok (.iconst 2, 1) := by decide +kernel
theorem dL_law_696 : decode cL_law 696 = .ok (.invokestatic 99, 3) := by decide +kernel
theorem dL_law_699 : decode cL_law 699 = .ok (.lload 14, 2) := by decide +kernel
theorem dL_law_701 : decode cL_law 701 = .ok (.lcmp, 1) := by decide +kernel
theorem dL_law_702 : decode cL_law 702 = .ok (.ifCond .ne 7, 3) := by decide +kernel
theorem dL_law_705 : decode cL_law 705 = .ok (.iconst 1, 1) := by decide +kernel
theorem dL_law_706 : decode cL_law 706 = .ok (.goto 67, 3) := by decide +kernel
theorem dL_law_709 : decode cL_law 709 = .ok (.iconst 0, 1) := by decide +kernel
theorem dL_law_710 : decode cL_law 710 = .ok (.goto 63, 3) := by decide +kernel
theorem dL_law_713 : decode cL_law 713 = .ok (.iload 13, 2) := by decide +kernel
theorem dL_law_715 : decode cL_law 715 = .ok (.ifCond .eq 57, 3) := by decide +kernel
theorem dL_law_718 : decode cL_law 718 = .ok (.lload 16, 2) := by decide +kernel
theorem dL_law_720 : decode cL_law 720 = .ok (.lconst 1, 1) := by decide +kernel
theorem dL_law_721 : decode cL_law 721 = .ok (.lcmp, 1) := by decide +kernel
theorem dL_law_722 : decode cL_law 722 = .ok (.ifCond .lt 50, 3) := by decide +kernel
theorem dL_law_725 : decode cL_law 725 = .ok (.aload_n 1, 1) := by decide +kernel
theorem dL_law_726 : decode cL_law 726 = .ok (.iload 12, 2) := by decide +kernel
theorem dL_law_728 : decode cL_law 728 = .ok (.iconst 2, 1) := by decide +kernel
theorem dL_law_729 : decode cL_law 729 = .ok (.invokestatic 99, 3) := by decide +kernel
theorem dL_law_732 : decode cL_law 732 = .ok (.lload 14, 2) := by decide +kernel
theorem dL_law_734 : decode cL_law 734 = .ok (.lload 16, 2) := by decide +kernel
theorem dL_law_736 : decode cL_law 736 = .ok (.lsub, 1) := by decide +kernel
theorem dL_law_737 : decode cL_law 737 = .ok (.lcmp, 1) := by decide +kernel
theorem dL_law_738 : decode cL_law 738 = .ok (.ifCond .ne 34, 3) := by decide +kernel
theorem dL_law_741 : decode cL_law 741 = .ok (.aload_n 1, 1) := by decide +kernel
theorem dL_law_742 : decode cL_law 742 = .ok (.iload 11, 2) := by decide +kernel
theorem dL_law_744 : decode cL_law 744 = .ok (.iconst 4, 1) := by decide +kernel
theorem dL_law_745 : decode cL_law 745 = .ok (.invokestatic 85, 3) := by decide +kernel
theorem dL_law_748 : decode cL_law 748 = .ok (.lload 16, 2) := by decide +kernel
theorem dL_law_750 : decode cL_law 750 = .ok (.lcmp, 1) := by decide +kernel
theorem dL_law_751 : decode cL_law 751 = .ok (.ifCond .ne 21, 3) := by decide +kernel
theorem dL_law_754 : decode cL_law 754 = .ok (.aload_n 1, 1) := by decide +kernel
theorem dL_law_755 : decode cL_law 755 = .ok (.iload 11, 2) := by decide +kernel
theorem dL_law_757 : decode cL_law 757 = .ok (.iconst 2, 1) := by decide +kernel
theorem dL_law_758 : decode cL_law 758 = .ok (.invokestatic 85, 3) := by decide +kernel
theorem dL_law_761 : decode cL_law 761 = .ok (.iload 12, 2) := by decide +kernel
theorem dL_law_763 : decode cL_law 763 = .ok (.i2l, 1) := by decide +kernel
theorem dL_law_764 : decode cL_law 764 = .ok (.lcmp, 1) := by decide +kernel
theorem dL_law_765 : decode cL_law 765 = .ok (.ifCond .ne 7, 3) := by decide +kernel
theorem dL_law_768 : decode cL_law 768 = .ok (.iconst 1, 1) := by decide +kernel
theorem dL_law_769 : decode cL_law 769 = .ok (.goto 4, 3) := by decide +kernel
theorem dL_law_772 : decode cL_law 772 = .ok (.iconst 0, 1) := by decide +kernel
theorem dL_law_773 : decode cL_law 773 = .ok (.istore_n 2, 1) := by decide +kernel
theorem dL_law_774 : decode cL_law 774 = .ok (.goto 366, 3) := by decide +kernel
theorem dL_law_777 : decode cL_law 777 = .ok (.iload 10, 2) := by decide +kernel
theorem dL_law_779 : decode cL_law 779 = .ok (.bipush 8, 2) := by decide +kernel
theorem dL_law_781 : decode cL_law 781 = .ok (.if_icmp .ne 244, 3) := by decide +kernel
theorem dL_law_784 : decode cL_law 784 = .ok (.aload_n 1, 1) := by decide +kernel
theorem dL_law_785 : decode cL_law 785 = .ok (.iload 11, 2) := by decide +kernel
theorem dL_law_787 : decode cL_law 787 = .ok (.iconst 0, 1) := by decide +kernel
theorem dL_law_788 : decode cL_law 788 = .ok (.invokestatic 85, 3) := by decide +kernel
theorem dL_law_791 : decode cL_law 791 = .ok (.l2i, 1) := by decide +kernel
theorem dL_law_792 : decode cL_law 792 = .ok (.istore 12, 2) := by decide +kernel
theorem dL_law_794 : decode cL_law 794 = .ok (.iload 12, 2) := by decide +kernel
theorem dL_law_796 : decode cL_law 796 = .ok (.ifCond .ne 7, 3) := by decide +kernel
theorem dL_law_799 : decode cL_law 799 = .ok (.iconst 0, 1) := by decide +kernel
theorem dL_law_800 : decode cL_law 800 = .ok (.goto 8, 3) := by decide +kernel
theorem dL_law_803 : decode cL_law 803 = .ok (.iload 9, 2) := by decide +kernel
theorem dL_law_805 : decode cL_law 805 = .ok (.iload 12, 2) := by decide +kernel
theorem dL_law_807 : decode cL_law 807 = .ok (.irem, 1) := by decide +kernel
theorem dL_law_808 : decode cL_law 808 = .ok (.istore 13, 2) := by decide +kernel
theorem dL_law_810 : decode cL_law 810 = .ok (.aload_n 1, 1) := by decide +kernel
theorem dL_law_811 : decode cL_law 811 = .ok (.iload 11, 2) := by decide +kernel
theorem dL_law_813 : decode cL_law 813 = .ok (.iconst 2, 1) := by decide +kernel
theorem dL_law_814 : decode cL_law 814 = .ok (.invokestatic 85, 3) := by decide +kernel
theorem dL_law_817 : decode cL_law 817 = .ok (.lstore 14, 2) := by decide +kernel
theorem dL_law_819 : decode cL_law 819 = .ok (.aload_n 1, 1) := by decide +kernel
theorem dL_law_820 : decode cL_law 820 = .ok (.iload 11, 2) := by decide +kernel
theorem dL_law_822 : decode cL_law 822 = .ok (.iconst 4, 1) := by decide +kernel
theorem dL_law_823 : decode cL_law 823 = .ok (.invokestatic 85, 3) := by decide +kernel
theorem dL_law_826 : decode cL_law 826 = .ok (.lstore 16, 2) := by decide +kernel
theorem dL_law_828 : decode cL_law 828 = .ok (.aload_n 1, 1) := by decide +kernel
theorem dL_law_829 : decode cL_law 829 = .ok (.iload 11, 2) := by decide +kernel
theorem dL_law_831 : decode cL_law 831 = .ok (.iconst 1, 1) := by decide +kernel
theorem dL_law_832 : decode cL_law 832 = .ok (.invokestatic 85, 3) := by decide +kernel
theorem dL_law_835 : decode cL_law 835 = .ok (.lstore 18, 2) := by decide +kernel
theorem dL_law_837 : decode cL_law 837 = .ok (.aload_n 1, 1) := by decide +kernel
theorem dL_law_838 : decode cL_law 838 = .ok (.invokevirtual 103, 3) := by decide +kernel
theorem dL_law_841 : decode cL_law 841 = .ok (.istore 20, 2) := by decide +kernel
theorem dL_law_843 : decode cL_law 843 = .ok (.aload_n 1, 1) := by decide +kernel
theorem dL_law_844 : decode cL_law 844 = .ok (.iload 11, 2) := by decide +kernel
theorem dL_law_846 : decode cL_law 846 = .ok (.iload 13, 2) := by decide +kernel
theorem dL_law_848 : decode cL_law 848 = .ok (.iconst 1, 1) := by decide +kernel
theorem dL_law_849 : decode cL_law 849 = .ok (.iload 9, 2) := by decide +kernel
theorem dL_law_851 : decode cL_law 851 = .ok (.bipush 8, 2) := by decide +kernel
theorem dL_law_853 : decode cL_law 853 = .ok (.idiv, 1) := by decide +kernel
theorem dL_law_854 : decode cL_law 854 = .ok (.bipush 12, 2) := by decide +kernel
theorem dL_law_856 : decode cL_law 856 = .ok (.irem, 1) := by decide +kernel
theorem dL_law_857 : decode cL_law 857 = .ok (.iadd, 1) := by decide +kernel
theorem dL_law_858 : decode cL_law 858 = .ok (.invokestatic 119, 3) := by decide +kernel
theorem dL_law_861 : decode cL_law 861 = .ok (.lstore 21, 2) := by decide +kernel
theorem dL_law_863 : decode cL_law 863 = .ok (.iload 12, 2) := by decide +kernel
theorem dL_law_865 : decode cL_law 865 = .ok (.ifCond .ne 20, 3) := by decide +kernel
theorem dL_law_868 : decode cL_law 868 = .ok (.lload 21, 2) := by decide +kernel
theorem dL_law_870 : decode cL_law 870 = .ok (.ldc2_w 29, 3) := by decide +kernel
theorem dL_law_873 : decode cL_law 873 = .ok (.lcmp, 1) := by decide +kernel
theorem dL_law_874 : decode cL_law 874 = .ok (.ifCond .ne 7, 3) := by decide +kernel
theorem dL_law_877 : decode cL_law 877 = .ok (.iconst 1, 1) := by decide +kernel
theorem dL_law_878 : decode cL_law 878 = .ok (.goto 143, 3) := by decide +kernel
theorem dL_law_881 : decode cL_law 881 = .ok (.iconst 0, 1) := by decide +kernel
theorem dL_law_882 : decode cL_law 882 = .ok (.goto 139, 3) := by decide +kernel
theorem dL_law_885 : decode cL_law 885 = .ok (.lload 14, 2) := by decide +kernel
theorem dL_law_887 : decode cL_law 887 = .ok (.lconst 0, 1) := by decide +kernel
theorem dL_law_888 : decode cL_law 888 = .ok (.lcmp, 1) := by decide +kernel
theorem dL_law_889 : decode cL_law 889 = .ok (.ifCond .ge 20, 3) := by decide +kernel
theorem dL_law_892 : decode cL_law 892 = .ok (.lload 21, 2) := by decide +kernel
theorem dL_law_894 : decode cL_law 894 = .ok (.ldc2_w 21, 3) := by decide +kernel
theorem dL_law_897 : decode cL_law 897 = .ok (.lcmp, 1) := by decide +kernel
theorem dL_law_898 : decode cL_law 898 = .ok (.ifCond .ne 7, 3) := by decide +kernel
theorem dL_law_901 : decode cL_law 901 = .ok (.iconst 1, 1) := by decide +kernel
theorem dL_law_902 : decode cL_law 902 = .ok (.goto 119, 3) := by decide +kernel
theorem dL_law_905 : decode cL_law 905 = .ok (.iconst 0, 1) := by decide +kernel
theorem dL_law_906 : decode cL_law 906 = .ok (.goto 115, 3) := by decide +kernel
theorem dL_law_909 : decode cL_law 909 = .ok (.lload 21, 2) := by decide +kernel
theorem dL_law_911 : decode cL_law 911 = .ok (.ldc2_w 21, 3) := by decide +kernel
theorem dL_law_914 : decode cL_law 914 = .ok (.lcmp, 1) := by decide +kernel
theorem dL_law_915 : decode cL_law 915 = .ok (.ifCond .eq 101, 3) := by decide +kernel
theorem dL_law_918 : decode cL_law 918 = .ok (.aload_n 1, 1) := by decide +kernel
theorem dL_law_919 : decode cL_law 919 = .ok (.iload 11, 2) := by decide +kernel
theorem dL_law_921 : decode cL_law 921 = .ok (.iconst 1, 1) := by decide +kernel
theorem dL_law_922 : decode cL_law 922 = .ok (.invokestatic 85, 3) := by decide +kernel
theorem dL_law_925 : decode cL_law 925 = .ok (.lload 18, 2) := by decide +kernel
theorem dL_law_927 : decode cL_law 927 = .ok (.lconst 1, 1) := by decide +kernel
theorem dL_law_928 : decode cL_law 928 = .ok (.ladd, 1) := by decide +kernel
theorem dL_law_929 : decode cL_law 929 = .ok (.iload 9, 2) := by decide +kernel
theorem dL_law_931 : decode cL_law 931 = .ok (.bipush 8, 2) := by decide +kernel
theorem dL_law_933 : decode cL_law 933 = .ok (.idiv, 1) := by decide +kernel
theorem dL_law_934 : decode cL_law 934 = .ok (.bipush 12, 2) := by decide +kernel
theorem dL_law_936 : decode cL_law 936 = .ok (.irem, 1) := by decide +kernel
theorem dL_law_937 : decode cL_law 937 = .ok (.i2l, 1) := by decide +kernel
theorem dL_law_938 : decode cL_law 938 = .ok (.ladd, 1) := by decide +kernel
theorem dL_law_939 : decode cL_law 939 = .ok (.lcmp, 1) := by decide +kernel
theorem dL_law_940 : decode cL_law 940 = .ok (.ifCond .ne 80, 3) := by decide +kernel
theorem dL_law_943 : decode cL_law 943 = .ok (.lload 21, 2) := by decide +kernel
theorem dL_law_945 : decode cL_law 945 = .ok (.lconst 0, 1) := by decide +kernel
theorem dL_law_946 : decode cL_law 946 = .ok (.lcmp, 1) := by decide +kernel
theorem dL_law_947 : decode cL_law 947 = .ok (.ifCond .lt 31, 3) := by decide +kernel
theorem dL_law_950 : decode cL_law 950 = .ok (.aload_n 1, 1) := by decide +kernel
theorem dL_law_951 : decode cL_law 951 = .ok (.iload 11, 2) := by decide +kernel
theorem dL_law_953 : decode cL_law 953 = .ok (.iconst 4, 1) := by decide +kernel
theorem dL_law_954 : decode cL_law 954 = .ok (.invokestatic 85, 3) := by decide +kernel
theorem dL_law_957 : decode cL_law 957 = .ok (.lload 16, 2) := by decide +kernel
theorem dL_law_959 : decode cL_law 959 = .ok (.lload 21, 2) := by decide +kernel
theorem dL_law_961 : decode cL_law 961 = .ok (.ladd, 1) := by decide +kernel
theorem dL_law_962 : decode cL_law 962 = .ok (.lcmp, 1) := by decide +kernel
theorem dL_law_963 : decode cL_law 963 = .ok (.ifCond .ne 57, 3) := by decide +kernel
theorem dL_law_966 : decode cL_law 966 = .ok (.aload_n 1, 1) := by decide +kernel
theorem dL_law_967 : decode cL_law 967 = .ok (.invokevirtual 103, 3) := by decide +kernel
theorem dL_law_970 : decode cL_law 970 = .ok (.iload 20, 2) := by decide +kernel
theorem dL_law_972 : decode cL_law 972 = .ok (.if_icmp .ne 48, 3) := by decide +kernel
theorem dL_law_975 : decode cL_law 975 = .ok (.goto 41, 3) := by decide +kernel
theorem dL_law_978 : decode cL_law 978 = .ok (.aload_n 1, 1) := by decide +kernel
theorem dL_law_979 : decode cL_law 979 = .ok (.iload 11, 2) := by decide +kernel
theorem dL_law_981 : decode cL_law 981 = .ok (.iconst 2, 1) := by decide +kernel
theorem dL_law_982 : decode cL_law 982 = .ok (.invokestatic 85, 3) := by decide +kernel
theorem dL_law_985 : decode cL_law 985 = .ok (.ldc2_w 88, 3) := by decide +kernel
theorem dL_law_988 : decode cL_law 988 = .ok (.lcmp, 1) := by decide +kernel
theorem dL_law_989 : decode cL_law 989 = .ok (.ifCond .ne 31, 3) := by decide +kernel
theorem dL_law_992 : decode cL_law 992 = .ok (.aload_n 1, 1) := by decide +kernel
theorem dL_law_993 : decode cL_law 993 = .ok (.invokevirtual 103, 3) := by decide +kernel
theorem dL_law_996 : decode cL_law 996 = .ok (.i2l, 1) := by decide +kernel
theorem dL_law_997 : decode cL_law 997 = .ok (.iload 20, 2) := by decide +kernel
theorem dL_law_999 : decode cL_law 999 = .ok (.i2l, 1) := by decide +kernel
theorem dL_law_1000 : decode cL_law 1000 = .ok (.lload 16, 2) := by decide +kernel
theorem dL_law_1002 : decode cL_law 1002 = .ok (.aload_n 1, 1) := by decide +kernel
theorem dL_law_1003 : decode cL_law 1003 = .ok (.lload 14, 2) := by decide +kernel
theorem dL_law_1005 : decode cL_law 1005 = .ok (.l2i, 1) := by decide +kernel
theorem dL_law_1006 : decode cL_law 1006 = .ok (.iconst 3, 1) := by decide +kernel
theorem dL_law_1007 : decode cL_law 1007 = .ok (.invokestatic 99, 3) := by decide +kernel
theorem dL_law_1010 : decode cL_law 1010 = .ok (.lmul, 1) := by decide +kernel
theorem dL_law_1011 : decode cL_law 1011 = .ok (.ladd, 1) := by decide +kernel
theorem dL_law_1012 : decode cL_law 1012 = .ok (.lcmp, 1) := by decide +kernel
theorem dL_law_1013 : decode cL_law 1013 = .ok (.ifCond .ne 7, 3) := by decide +kernel
theorem dL_law_1016 : decode cL_law 1016 = .ok (.iconst 1, 1) := by decide +kernel
theorem dL_law_1017 : decode cL_law 1017 = .ok (.goto 4, 3) := by decide +kernel
theorem dL_law_1020 : decode cL_law 1020 = .ok (.iconst 0, 1) := by decide +kernel
theorem dL_law_1021 : decode cL_law 1021 = .ok (.istore_n 2, 1) := by decide +kernel
theorem dL_law_1022 : decode cL_law 1022 = .ok (.goto 118, 3) := by decide +kernel
theorem dL_law_1025 : decode cL_law 1025 = .ok (.iload 10, 2) := by decide +kernel
theorem dL_law_1027 : decode cL_law 1027 = .ok (.bipush 9, 2) := by decide +kernel
theorem dL_law_1029 : decode cL_law 1029 = .ok (.if_icmp .ne 96, 3) := by decide +kernel
theorem dL_law_1032 : decode cL_law 1032 = .ok (.aload_n 1, 1) := by decide +kernel
theorem dL_law_1033 : decode cL_law 1033 = .ok (.iload 11, 2) := by decide +kernel
theorem dL_law_1035 : decode cL_law 1035 = .ok (.iconst 2, 1) := by decide +kernel
theorem dL_law_1036 : decode cL_law 1036 = .ok (.invokestatic 85, 3) := by decide +kernel
theorem dL_law_1039 : decode cL_law 1039 = .ok (.lstore 12, 2) := by decide +kernel
theorem dL_law_1041 : decode cL_law 1041 = .ok (.aload_n 1, 1) := by decide +kernel
theorem dL_law_1042 : decode cL_law 1042 = .ok (.iload 11, 2) := by decide +kernel
theorem dL_law_1044 : decode cL_law 1044 = .ok (.iconst 4, 1) := by decide +kernel
theorem dL_law_1045 : decode cL_law 1045 = .ok (.invokestatic 85, 3) := by decide +kernel
theorem dL_law_1048 : decode cL_law 1048 = .ok (.lstore 14, 2) := by decide +kernel
theorem dL_law_1050 : decode cL_law 1050 = .ok (.aload_n 1, 1) := by decide +kernel
theorem dL_law_1051 : decode cL_law 1051 = .ok (.invokevirtual 103, 3) := by decide +kernel
theorem dL_law_1054 : decode cL_law 1054 = .ok (.istore 16, 2) := by decide +kernel
theorem dL_law_1056 : decode cL_law 1056 = .ok (.aload_n 1, 1) := by decide +kernel
theorem dL_law_1057 : decode cL_law 1057 = .ok (.iload 11, 2) := by decide +kernel
theorem dL_law_1059 : decode cL_law 1059 = .ok (.invokestatic 121, 3) := by decide +kernel
theorem dL_law_1062 : decode cL_law 1062 = .ok (.lload 12, 2) := by decide +kernel
theorem dL_law_1064 : decode cL_law 1064 = .ok (.lconst 0, 1) := by decide +kernel
theorem dL_law_1065 : decode cL_law 1065 = .ok (.lcmp, 1) := by decide +kernel
theorem dL_law_1066 : decode cL_law 1066 = .ok (.ifCond .ge 9, 3) := by decide +kernel
theorem dL_law_1069 : decode cL_law 1069 = .ok (.ldc2_w 21, 3) := by decide +kernel
theorem dL_law_1072 : decode cL_law 1072 = .ok (.goto 5, 3) := by decide +kernel
theorem dL_law_1075 : decode cL_law 1075 = .ok (.lload 14, 2) := by decide +kernel
theorem dL_law_1077 : decode cL_law 1077 = .ok (.lcmp, 1) := by decide +kernel
theorem dL_law_1078 : decode cL_law 1078 = .ok (.ifCond .ne 42, 3) := by decide +kernel
theorem dL_law_1081 : decode cL_law 1081 = .ok (.aload_n 1, 1) := by decide +kernel
theorem dL_law_1082 : decode cL_law 1082 = .ok (.invokevirtual 103, 3) := by decide +kernel
theorem dL_law_1085 : decode cL_law 1085 = .ok (.i2l, 1) := by decide +kernel
theorem dL_law_1086 : decode cL_law 1086 = .ok (.iload 16, 2) := by decide +kernel
theorem dL_law_1088 : decode cL_law 1088 = .ok (.i2l, 1) := by decide +kernel
theorem dL_law_1089 : decode cL_law 1089 = .ok (.lload 12, 2) := by decide +kernel
theorem dL_law_1091 : decode cL_law 1091 = .ok (.lconst 0, 1) := by decide +kernel
theorem dL_law_1092 : decode cL_law 1092 = .ok (.lcmp, 1) := by decide +kernel
theorem dL_law_1093 : decode cL_law 1093 = .ok (.ifCond .ge 7, 3) := by decide +kernel
theorem dL_law_1096 : decode cL_law 1096 = .ok (.lconst 0, 1) := by decide +kernel
theorem dL_law_1097 : decode cL_law 1097 = .ok (.goto 14, 3) := by decide +kernel
theorem dL_law_1100 : decode cL_law 1100 = .ok (.lload 14, 2) := by decide +kernel
theorem dL_law_1102 : decode cL_law 1102 = .ok (.aload_n 1, 1) := by decide +kernel
theorem dL_law_1103 : decode cL_law 1103 = .ok (.lload 12, 2) := by decide +kernel
theorem dL_law_1105 : decode cL_law 1105 = .ok (.l2i, 1) := by decide +kernel
theorem dL_law_1106 : decode cL_law 1106 = .ok (.iconst 3, 1) := by decide +kernel
theorem dL_law_1107 : decode cL_law 1107 = .ok (.invokestatic 99, 3) := by decide +kernel
theorem dL_law_1110 : decode cL_law 1110 = .ok (.lmul, 1) := by decide +kernel
theorem dL_law_1111 : decode cL_law 1111 = .ok (.ladd, 1) := by decide +kernel
theorem dL_law_1112 : decode cL_law 1112 = .ok (.lcmp, 1) := by decide +kernel
theorem dL_law_1113 : decode cL_law 1113 = .ok (.ifCond .ne 7, 3) := by decide +kernel
theorem dL_law_1116 : decode cL_law 1116 = .ok (.iconst 1, 1) := by decide +kernel
theorem dL_law_1117 : decode cL_law 1117 = .ok (.goto 4, 3) := by decide +kernel
theorem dL_law_1120 : decode cL_law 1120 = .ok (.iconst 0, 1) := by decide +kernel
theorem dL_law_1121 : decode cL_law 1121 = .ok (.istore_n 2, 1) := by decide +kernel
theorem dL_law_1122 : decode cL_law 1122 = .ok (.goto 18, 3) := by decide +kernel
theorem dL_law_1125 : decode cL_law 1125 = .ok (.aload_n 1, 1) := by decide +kernel
theorem dL_law_1126 : decode cL_law 1126 = .ok (.iload 9, 2) := by decide +kernel
theorem dL_law_1128 : decode cL_law 1128 = .ok (.iconst 3, 1) := by decide +kernel
theorem dL_law_1129 : decode cL_law 1129 = .ok (.irem, 1) := by decide +kernel
theorem dL_law_1130 : decode cL_law 1130 = .ok (.iload 9, 2) := by decide +kernel
theorem dL_law_1132 : decode cL_law 1132 = .ok (.iconst 4, 1) := by decide +kernel
theorem dL_law_1133 : decode cL_law 1133 = .ok (.idiv, 1) := by decide +kernel
theorem dL_law_1134 : decode cL_law 1134 = .ok (.iload 8, 2) := by decide +kernel
theorem dL_law_1136 : decode cL_law 1136 = .ok (.invokestatic 128, 3) := by decide +kernel
theorem dL_law_1139 : decode cL_law 1139 = .ok (.istore_n 2, 1) := by decide +kernel
theorem dL_law_1140 : decode cL_law 1140 = .ok (.iload 7, 2) := by decide +kernel
theorem dL_law_1142 : decode cL_law 1142 = .ok (.bipush 6, 2) := by decide +kernel
theorem dL_law_1144 : decode cL_law 1144 = .ok (.irem, 1) := by decide +kernel
theorem dL_law_1145 : decode cL_law 1145 = .ok (.iconst 5, 1) := by decide +kernel
theorem dL_law_1146 : decode cL_law 1146 = .ok (.if_icmp .ne 39, 3) := by decide +kernel
theorem dL_law_1149 : decode cL_law 1149 = .ok (.iload_n 2, 1) := by decide +kernel
theorem dL_law_1150 : decode cL_law 1150 = .ok (.ifCond .eq 33, 3) := by decide +kernel
theorem dL_law_1153 : decode cL_law 1153 = .ok (.aload_n 1, 1) := by decide +kernel
theorem dL_law_1154 : decode cL_law 1154 = .ok (.iload 11, 2) := by decide +kernel
theorem dL_law_1156 : decode cL_law 1156 = .ok (.aload 6, 2) := by decide +kernel
theorem dL_law_1158 : decode cL_law 1158 = .ok (.invokestatic 132, 3) := by decide +kernel
theorem dL_law_1161 : decode cL_law 1161 = .ok (.ifCond .eq 22, 3) := by decide +kernel
theorem dL_law_1164 : decode cL_law 1164 = .ok (.aload_n 1, 1) := by decide +kernel
theorem dL_law_1165 : decode cL_law 1165 = .ok (.iload 11, 2) := by decide +kernel
theorem dL_law_1167 : decode cL_law 1167 = .ok (.iconst 1, 1) := by decide +kernel
theorem dL_law_1168 : decode cL_law 1168 = .ok (.iadd, 1) := by decide +kernel
theorem dL_law_1169 : decode cL_law 1169 = .ok (.iconst 4, 1) := by decide +kernel
theorem dL_law_1170 : decode cL_law 1170 = .ok (.irem, 1) := by decide +kernel
theorem dL_law_1171 : decode cL_law 1171 = .ok (.aload 6, 2) := by decide +kernel
theorem dL_law_1173 : decode cL_law 1173 = .ok (.invokestatic 132, 3) := by decide +kernel
theorem dL_law_1176 : decode cL_law 1176 = .ok (.ifCond .eq 7, 3) := by decide +kernel
theorem dL_law_1179 : decode cL_law 1179 = .ok (.iconst 1, 1) := by decide +kernel
theorem dL_law_1180 : decode cL_law 1180 = .ok (.goto 4, 3) := by decide +kernel
theorem dL_law_1183 : decode cL_law 1183 = .ok (.iconst 0, 1) := by decide +kernel
theorem dL_law_1184 : decode cL_law 1184 = .ok (.istore_n 2, 1) := by decide +kernel
theorem dL_law_1185 : decode cL_law 1185 = .ok (.iload 7, 2) := by decide +kernel
theorem dL_law_1187 : decode cL_law 1187 = .ok (.bipush 23, 2) := by decide +kernel
theorem dL_law_1189 : decode cL_law 1189 = .ok (.irem, 1) := by decide +kernel
theorem dL_law_1190 : decode cL_law 1190 = .ok (.bipush 22, 2) := by decide +kernel
theorem dL_law_1192 : decode cL_law 1192 = .ok (.if_icmp .ne 20, 3) := by decide +kernel
theorem dL_law_1195 : decode cL_law 1195 = .ok (.iload_n 2, 1) := by decide +kernel
theorem dL_law_1196 : decode cL_law 1196 = .ok (.ifCond .eq 14, 3) := by decide +kernel
theorem dL_law_1199 : decode cL_law 1199 = .ok (.aload_n 1, 1) := by decide +kernel
theorem dL_law_1200 : decode cL_law 1200 = .ok (.invokestatic 136, 3) := by decide +kernel
theorem dL_law_1203 : decode cL_law 1203 = .ok (.ifCond .eq 7, 3) := by decide +kernel
theorem dL_law_1206 : decode cL_law 1206 = .ok (.iconst 1, 1) := by decide +kernel
theorem dL_law_1207 : decode cL_law 1207 = .ok (.goto 4, 3) := by decide +kernel
theorem dL_law_1210 : decode cL_law 1210 = .ok (.iconst 0, 1) := by decide +kernel
theorem dL_law_1211 : decode cL_law 1211 = .ok (.istore_n 2, 1) := by decide +kernel
theorem dL_law_1212 : decode cL_law 1212 = .ok (.iinc 7 1, 3) := by decide +kernel
theorem dL_law_1215 : decode cL_law 1215 = .ok (.goto (-1006), 3) := by decide +kernel
theorem dL_law_1218 : decode cL_law 1218 = .ok (.iload_n 2, 1) := by decide +kernel
theorem dL_law_1219 : decode cL_law 1219 = .ok (.ireturn, 1) := by decide +kernel
